section PF
variable {w : rk_W} {l : Launch} {Sh : rk_Sh} {rg : Nat → Nat} {I : rk_Mm} {R : rk_Rm} {N : Nat → Int32} {T U : Int} {x : Nat}
theorem cL_lay_l {c p q : Nat} (h : lY rg I R x T N) (hc : N 12 = nI c) (hc2 : c ≤ 24) (hp : p < c) (hq : rg q = 104) : ∀ (n k : Nat) (F : Nat → Int32) (J : rk_Mm), k + n = 8 → J = md_a I 26 q F → (∀ j, j < k → F j = pv N p j) → rk_Wp w l rk_mL_lay 6 0 0 (rk_GU w Sh (fun I' R' => R' = R ∧ ∃ F, I' = md_a I 26 q F ∧ ∀ j, j < 8 → F j = pv N p j)) 2 [(0, rk_a 11 x), (1, rk_i (nI p)), (2, rk_a 26 q), (3, rk_i (nI k))] [] (Sh, 0, 0) J R := by
  intro n
  induction n with
  | zero =>
    intro k F J hk hJ hF
    obtain rfl : k = 8 := by omega
    refine rk_iload_n 3 dL_lay_2 rfl rfl ?_
    refine rk_bipush 8 dL_lay_3 (by decide) ?_
    refine rk_icmp_ge 23 dL_lay_5 (by decide) (fun qz5 => ?_) (fun qz5 => ?_)
    · skip
      refine rk_vretU dL_lay_23 rfl ?_
      exact ⟨rfl, F, hJ, hF⟩
    · skip
      exact absurd (show (8 : Int32) ≤ nI 8 by decide) qz5
  | succ n ih =>
    intro k F J hk hJ hF
    have hn : ¬ (8 : Int32) ≤ nI k := (show ¬ nI 8 ≤ nI k from nI_ge (by omega) (by omega))
    have hJY : lY rg J R x T N := h.mf (by rw [hJ]; exact cl_fr.ma hq)
    refine rk_iload_n 3 dL_lay_2 rfl rfl ?_
    refine rk_bipush 8 dL_lay_3 (by decide) ?_
    refine rk_icmp_ge 23 dL_lay_5 (by decide) (fun qz5 => ?_) (fun qz5 => ?_)
    · skip
      exact absurd qz5 hn
    · skip
      refine rk_aload_n 2 dL_lay_8 rfl rfl ?_
      refine rk_iload_n 3 dL_lay_9 rfl rfl ?_
      refine rk_aload_n 0 dL_lay_10 rfl rfl ?_
      refine rk_iload_n 1 dL_lay_11 rfl rfl ?_
      refine rk_pc (pc' := 12) rfl ?_
      refine rk_iload_n 3 dL_lay_12 rfl rfl ?_
      refine rk_cVp (qpk (k := k) hJY hc hc2 hp (by omega)) rk_eX10_piece rfl ⟨rfl, rfl⟩ rk_kL_14 dL_lay_13 rfl (by decide) (Nat.le_of_ble_eq_true rfl) ⟨Nat.le_refl _, Nat.le_refl _⟩ ?_
      refine rk_sn26 (k) dL_lay_16 (by first | rfl | decide | assumption | (simp only [rk_lit, nI_add, pk_mul, nI_1]; done) | (simp only [rk_lit, nI_add, pk_mul, nI_1]; congr 1; omega)) (by first | decide | assumption | omega) (fun Iz1 eIz1 => ?_)
      refine rk_iinc 1 (ls' := [(3, _), (0, _), (1, _), (2, _)]) dL_lay_17 (by decide) rfl (by decide) rfl ?_
      refine rk_goto 2 dL_lay_20 (by decide) ?_
      refine rk_ord [0, 1, 2, 3] (ls' := [(0, _), (1, _), (2, _), (3, _)]) rfl ?_
      have e : Iz1 = md_a I 26 q (sp_u F k (pv N p k)) := by rw [eIz1, hJ]; exact md_u
      rw [nI_1]
      exact ih (k + 1) (sp_u F k (pv N p k)) Iz1 (by omega) e (fun j hj => by
        by_cases hjk : j = k
        · subst hjk; exact sp_us
        · rw [sp_un hjk]; exact hF j (by omega))
theorem cL_lay_s {c p q : Nat} (h : lY rg I R x T N) (hc : N 12 = nI c) (hc2 : c ≤ 24) (hp : p < c) (hq : rg q = 104) : rk_U w l rk_mL_lay 6 [rk_a 11 x, rk_i (nI p), rk_a 26 q] Sh I R (fun I' R' => R' = R ∧ ∃ F, I' = md_a I 26 q F ∧ ∀ j, j < 8 → F j = pv N p j) := by
  refine rk_bU (ls := [(0, _), (1, _), (2, _)]) (by decide) rfl (Nat.le_of_ble_eq_true rfl) ?_
  refine rk_iconst 0 dL_lay_0 (by decide) ?_
  refine rk_istore_n 3 (ls' := [(3, _), (0, _), (1, _), (2, _)]) dL_lay_1 rfl (by decide) rfl ?_
  refine rk_ord [0, 1, 2, 3] (ls' := [(0, _), (1, _), (2, _), (3, _)]) rfl ?_
  exact cL_lay_l h hc hc2 hp hq 8 0 (I 26 q) I (by omega) md_self.symm (fun j hj => absurd hj (by omega))
theorem cL_isLike_l {c p q : Nat} (h : lY rg I R x T N) (hc : N 12 = nI c) (hc2 : c ≤ 24) (hp : p < c) (hF : ∀ j, j < 8 → I 26 q j = pv N p j) : ∀ n k : Nat, k + n = 8 → rk_Wp w l rk_mL_isLike 6 0 0 (rk_GP w Sh I R 1) 2 [(0, rk_a 11 x), (1, rk_i (nI p)), (2, rk_a 26 q), (3, rk_i (nI k))] [] (Sh, 0, 0) I R := by
  intro n
  induction n with
  | zero =>
    intro k hk
    obtain rfl : k = 8 := by omega
    refine rk_iload_n 3 dL_isLike_2 rfl rfl ?_
    refine rk_bipush 8 dL_isLike_3 (by decide) ?_
    refine rk_icmp_ge 28 dL_isLike_5 (by decide) (fun qz5 => ?_) (fun qz5 => ?_)
    · skip
      refine rk_iconst 1 dL_isLike_28 (by decide) ?_
      refine rk_iretP dL_isLike_29 rfl (by decide) ?_
      rfl
    · skip
      exact absurd (show (8 : Int32) ≤ nI 8 by decide) qz5
  | succ n ih =>
    intro k hk
    have hn : ¬ (8 : Int32) ≤ nI k := (show ¬ nI 8 ≤ nI k from nI_ge (by omega) (by omega))
    refine rk_iload_n 3 dL_isLike_2 rfl rfl ?_
    refine rk_bipush 8 dL_isLike_3 (by decide) ?_
    refine rk_icmp_ge 28 dL_isLike_5 (by decide) (fun qz5 => ?_) (fun qz5 => ?_)
    · skip
      exact absurd qz5 hn
    · skip
      refine rk_aload_n 0 dL_isLike_8 rfl rfl ?_
      refine rk_iload_n 1 dL_isLike_9 rfl rfl ?_
      refine rk_iload_n 3 dL_isLike_10 rfl rfl ?_
      refine rk_cVp (qpk (k := k) h hc hc2 hp (by omega)) rk_eX10_piece rfl ⟨rfl, rfl⟩ rk_kL_14 dL_isLike_11 rfl (by decide) (Nat.le_of_ble_eq_true rfl) ⟨Nat.le_refl _, Nat.le_refl _⟩ ?_
      refine rk_pc (pc' := 14) rfl ?_
      refine rk_aload_n 2 dL_isLike_14 rfl rfl ?_
      refine rk_iload_n 3 dL_isLike_15 rfl rfl ?_
      refine rk_rn26 (k) dL_isLike_16 (by first | rfl | decide | assumption | (simp only [rk_lit, nI_add, pk_mul, nI_1]; done) | (simp only [rk_lit, nI_add, pk_mul, nI_1]; congr 1; omega)) (by first | decide | assumption | omega) ?_
      refine rk_icmp_eq 22 dL_isLike_17 (by decide) (fun qz17 => ?_) (fun qz17 => ?_)
      · skip
        refine rk_iinc 1 (ls' := [(3, _), (0, _), (1, _), (2, _)]) dL_isLike_22 (by decide) rfl (by decide) rfl ?_
        refine rk_goto 2 dL_isLike_25 (by decide) ?_
        refine rk_ord [0, 1, 2, 3] (ls' := [(0, _), (1, _), (2, _), (3, _)]) rfl ?_
        rw [nI_1]
        exact ih (k + 1) (by omega)
      · skip
        exact absurd (hF k (by omega)).symm qz17
theorem cL_isLike_s {c p q : Nat} (h : lY rg I R x T N) (hc : N 12 = nI c) (hc2 : c ≤ 24) (hp : p < c) (hF : ∀ j, j < 8 → I 26 q j = pv N p j) : rk_P w l rk_mL_isLike 6 [rk_a 11 x, rk_i (nI p), rk_a 26 q] Sh I R 1 := by
  refine rk_bP (ls := [(0, _), (1, _), (2, _)]) (by decide) rfl (Nat.le_of_ble_eq_true rfl) ?_
  refine rk_iconst 0 dL_isLike_0 (by decide) ?_
  refine rk_istore_n 3 (ls' := [(3, _), (0, _), (1, _), (2, _)]) dL_isLike_1 rfl (by decide) rfl ?_
  refine rk_ord [0, 1, 2, 3] (ls' := [(0, _), (1, _), (2, _), (3, _)]) rfl ?_
  exact cL_isLike_l h hc hc2 hp hF 8 0 (by omega)
theorem cL_suits_s {c oc p o : Nat} (h : lY rg I R x T N) (hc : N 12 = nI c) (hc2 : c ≤ 24) (hp : p < c) (h13 : N 13 = nI oc) (hoc : oc ≤ 16) (ho : o < oc) : rk_P w l rk_mL_suits 7 [rk_a 11 x, rk_i (nI p), rk_i (nI o)] Sh I R (sp_b (sp_su N (sp_P N p) (sp_O N o))) := by
  refine rk_bP (ls := [(0, _), (1, _), (2, _)]) (by decide) rfl (Nat.le_of_ble_eq_true rfl) ?_
  refine rk_aload_n 0 dL_suits_0 rfl rfl ?_
  refine rk_iload_n 1 dL_suits_1 rfl rfl ?_
  refine rk_iconst 0 dL_suits_2 (by decide) ?_
  refine rk_cVp (qp (k := 0) h hc hc2 hp (by decide) rfl rfl) rk_eX10_piece rfl ⟨rfl, rfl⟩ rk_kL_14 dL_suits_3 rfl (by decide) (Nat.le_of_ble_eq_true rfl) ⟨Nat.le_refl _, Nat.le_refl _⟩ ?_
  refine rk_aload_n 0 dL_suits_6 rfl rfl ?_
  refine rk_iload_n 2 dL_suits_7 rfl rfl ?_
  refine rk_pc (pc' := 8) rfl ?_
  refine rk_iconst 0 dL_suits_8 (by decide) ?_
  refine rk_cVp (qo (k := 0) h h13 hoc ho (by decide) rfl rfl) rk_eX10_ofOrder rfl ⟨rfl, rfl⟩ rk_kL_65 dL_suits_9 rfl (by decide) (Nat.le_of_ble_eq_true rfl) ⟨Nat.le_refl _, Nat.le_refl _⟩ ?_
  refine rk_icmp_ne 70 dL_suits_12 (by decide) (fun qz12 => ?_) (fun qz12 => ?_)
  · skip
    refine rk_iconst 0 dL_suits_70 (by decide) ?_
    refine rk_iretP dL_suits_71 rfl (by decide) ?_
    first | exact sp_b1 ⟨qz12, Int32.not_lt.mp qz43, Or.inr qz53, Int32.not_lt.mp qz28⟩ | exact sp_b1 ⟨qz12, Int32.not_lt.mp qz43, Or.inl qz63, Int32.not_lt.mp qz28⟩ | exact sp_b0 (fun z => qz12 z.1) | exact sp_b0 (fun z => Int32.not_le.mpr qz28 z.2.2.2) | exact sp_b0 (fun z => Int32.not_le.mpr qz43 z.2.1) | exact sp_b0 (fun z => z.2.2.1.elim qz63 qz53)
  · skip
    refine rk_aload_n 0 dL_suits_15 rfl rfl ?_
    refine rk_iload_n 1 dL_suits_16 rfl rfl ?_
    refine rk_bipush 7 dL_suits_17 (by decide) ?_
    refine rk_pc (pc' := 19) rfl ?_
    refine rk_cVp (qp7 h hc hc2 hp rfl) rk_eX10_piece rfl ⟨rfl, rfl⟩ rk_kL_14 dL_suits_19 rfl (by decide) (Nat.le_of_ble_eq_true rfl) ⟨Nat.le_refl _, Nat.le_refl _⟩ ?_
    refine rk_aload_n 0 dL_suits_22 rfl rfl ?_
    refine rk_iload_n 2 dL_suits_23 rfl rfl ?_
    refine rk_iconst 1 dL_suits_24 (by decide) ?_
    refine rk_cVp (qo (k := 1) h h13 hoc ho (by decide) rfl rfl) rk_eX10_ofOrder rfl ⟨rfl, rfl⟩ rk_kL_65 dL_suits_25 rfl (by decide) (Nat.le_of_ble_eq_true rfl) ⟨Nat.le_refl _, Nat.le_refl _⟩ ?_
    refine rk_icmp_lt 70 dL_suits_28 (by decide) (fun qz28 => ?_) (fun qz28 => ?_)
    · skip
      refine rk_iconst 0 dL_suits_70 (by decide) ?_
      refine rk_pc (pc' := 71) rfl ?_
      refine rk_iretP dL_suits_71 rfl (by decide) ?_
      first | exact sp_b1 ⟨qz12, Int32.not_lt.mp qz43, Or.inr qz53, Int32.not_lt.mp qz28⟩ | exact sp_b1 ⟨qz12, Int32.not_lt.mp qz43, Or.inl qz63, Int32.not_lt.mp qz28⟩ | exact sp_b0 (fun z => qz12 z.1) | exact sp_b0 (fun z => Int32.not_le.mpr qz28 z.2.2.2) | exact sp_b0 (fun z => Int32.not_le.mpr qz43 z.2.1) | exact sp_b0 (fun z => z.2.2.1.elim qz63 qz53)
    · skip
      refine rk_aload_n 0 dL_suits_31 rfl rfl ?_
      refine rk_iload_n 1 dL_suits_32 rfl rfl ?_
      refine rk_iconst 3 dL_suits_33 (by decide) ?_
      refine rk_cVp (qp (k := 3) h hc hc2 hp (by decide) rfl rfl) rk_eX10_piece rfl ⟨rfl, rfl⟩ rk_kL_14 dL_suits_34 rfl (by decide) (Nat.le_of_ble_eq_true rfl) ⟨Nat.le_refl _, Nat.le_refl _⟩ ?_
      refine rk_aload_n 0 dL_suits_37 rfl rfl ?_
      refine rk_iload_n 2 dL_suits_38 rfl rfl ?_
      refine rk_pc (pc' := 39) rfl ?_
      refine rk_iconst 2 dL_suits_39 (by decide) ?_
      refine rk_cVp (qo (k := 2) h h13 hoc ho (by decide) rfl rfl) rk_eX10_ofOrder rfl ⟨rfl, rfl⟩ rk_kL_65 dL_suits_40 rfl (by decide) (Nat.le_of_ble_eq_true rfl) ⟨Nat.le_refl _, Nat.le_refl _⟩ ?_
      refine rk_icmp_lt 70 dL_suits_43 (by decide) (fun qz43 => ?_) (fun qz43 => ?_)
      · skip
        refine rk_iconst 0 dL_suits_70 (by decide) ?_
        refine rk_iretP dL_suits_71 rfl (by decide) ?_
        first | exact sp_b1 ⟨qz12, Int32.not_lt.mp qz43, Or.inr qz53, Int32.not_lt.mp qz28⟩ | exact sp_b1 ⟨qz12, Int32.not_lt.mp qz43, Or.inl qz63, Int32.not_lt.mp qz28⟩ | exact sp_b0 (fun z => qz12 z.1) | exact sp_b0 (fun z => Int32.not_le.mpr qz28 z.2.2.2) | exact sp_b0 (fun z => Int32.not_le.mpr qz43 z.2.1) | exact sp_b0 (fun z => z.2.2.1.elim qz63 qz53)
      · skip
        refine rk_aload_n 0 dL_suits_46 rfl rfl ?_
        refine rk_iload_n 1 dL_suits_47 rfl rfl ?_
        refine rk_bipush 6 dL_suits_48 (by decide) ?_
        refine rk_pc (pc' := 50) rfl ?_
        refine rk_cVp (qp (k := 6) h hc hc2 hp (by decide) rfl rfl) rk_eX10_piece rfl ⟨rfl, rfl⟩ rk_kL_14 dL_suits_50 rfl (by decide) (Nat.le_of_ble_eq_true rfl) ⟨Nat.le_refl _, Nat.le_refl _⟩ ?_
        refine rk_if_eq 66 dL_suits_53 (by decide) (fun qz53 => ?_) (fun qz53 => ?_)
        · skip
          refine rk_iconst 1 dL_suits_66 (by decide) ?_
          refine rk_goto 71 dL_suits_67 (by decide) ?_
          refine rk_iretP dL_suits_71 rfl (by decide) ?_
          first | exact sp_b1 ⟨qz12, Int32.not_lt.mp qz43, Or.inr qz53, Int32.not_lt.mp qz28⟩ | exact sp_b1 ⟨qz12, Int32.not_lt.mp qz43, Or.inl qz63, Int32.not_lt.mp qz28⟩ | exact sp_b0 (fun z => qz12 z.1) | exact sp_b0 (fun z => Int32.not_le.mpr qz28 z.2.2.2) | exact sp_b0 (fun z => Int32.not_le.mpr qz43 z.2.1) | exact sp_b0 (fun z => z.2.2.1.elim qz63 qz53)
        · skip
          refine rk_aload_n 0 dL_suits_56 rfl rfl ?_
          refine rk_iload_n 2 dL_suits_57 rfl rfl ?_
          refine rk_iconst 4 dL_suits_58 (by decide) ?_
          refine rk_pc (pc' := 59) rfl ?_
          refine rk_cVp (qo (k := 4) h h13 hoc ho (by decide) rfl rfl) rk_eX10_ofOrder rfl ⟨rfl, rfl⟩ rk_kL_65 dL_suits_59 rfl (by decide) (Nat.le_of_ble_eq_true rfl) ⟨Nat.le_refl _, Nat.le_refl _⟩ ?_
          refine rk_iconst 1 dL_suits_62 (by decide) ?_
          refine rk_icmp_ne 70 dL_suits_63 (by decide) (fun qz63 => ?_) (fun qz63 => ?_)
          · skip
            refine rk_iconst 0 dL_suits_70 (by decide) ?_
            refine rk_iretP dL_suits_71 rfl (by decide) ?_
            first | exact sp_b1 ⟨qz12, Int32.not_lt.mp qz43, Or.inr qz53, Int32.not_lt.mp qz28⟩ | exact sp_b1 ⟨qz12, Int32.not_lt.mp qz43, Or.inl qz63, Int32.not_lt.mp qz28⟩ | exact sp_b0 (fun z => qz12 z.1) | exact sp_b0 (fun z => Int32.not_le.mpr qz28 z.2.2.2) | exact sp_b0 (fun z => Int32.not_le.mpr qz43 z.2.1) | exact sp_b0 (fun z => z.2.2.1.elim qz63 qz53)
          · skip
            refine rk_iconst 1 dL_suits_66 (by decide) ?_
            refine rk_goto 71 dL_suits_67 (by decide) ?_
            refine rk_iretP dL_suits_71 rfl (by decide) ?_
            first | exact sp_b1 ⟨qz12, Int32.not_lt.mp qz43, Or.inr qz53, Int32.not_lt.mp qz28⟩ | exact sp_b1 ⟨qz12, Int32.not_lt.mp qz43, Or.inl qz63, Int32.not_lt.mp qz28⟩ | exact sp_b0 (fun z => qz12 z.1) | exact sp_b0 (fun z => Int32.not_le.mpr qz28 z.2.2.2) | exact sp_b0 (fun z => Int32.not_le.mpr qz43 z.2.1) | exact sp_b0 (fun z => z.2.2.1.elim qz63 qz53)
/-- of a fibre, what was spun is all others together -/
theorem sy_yp {f : Nat} : ∀ c : Nat, sp_yp N f c = Int32.ofInt (sy N f c)
  | 0 => rfl
  | c + 1 => by
    show sp_yp N f c + (@ite _ (N (50 + 7 * c + 0) = nI f) (Classical.propDecidable _) (N (50 + 7 * c + 4)) 0) = Int32.ofInt (sy N f c + sy_t N f c)
    rw [Int32.ofInt_add, ← sy_yp c]
    congr 1
    unfold sy_t
    split
    · exact (Int32.ofInt_toInt _).symm
    · rfl
theorem si_sum {f : Nat} (s : si U N) (hf : f < 3) : sp_sI (fun j => sp_acc N f (j + 1)) 5 = sp_acc N f 0 := by
  obtain ⟨-, -, -, -, -, e⟩ := s.2 f hf
  have e2 := congrArg Int32.ofInt e
  rw [Int32.ofInt_add, Int32.ofInt_add, Int32.ofInt_add, Int32.ofInt_add, Int32.ofInt_toInt, Int32.ofInt_toInt, Int32.ofInt_toInt, Int32.ofInt_toInt, Int32.ofInt_toInt, ← sy_yp] at e2
  show 0 + sp_acc N f 1 + sp_acc N f 2 + sp_acc N f 3 + sp_acc N f 4 + sp_acc N f 5 = sp_acc N f 0
  show 0 + N (20 + 3 * f + 2) + sp_yp N f (sp_c N 12) + N (30 + 4 * f + 1) + N (30 + 4 * f + 2) + N (30 + 4 * f + 3) = N (30 + 4 * f + 0)
  rw [Int32.zero_add]
  exact e2
theorem cL_agree_a {f : Nat} {v : Int32} (h : lY rg I R x T N) (hf : f < 3) (hk : rk_Wp w l rk_mL_agree 7 0 0 (rk_GP w Sh I R 1) 37 [(0, rk_a 11 x), (1, rk_i (nI f)), (2, rk_i (sp_sI (fun j => sp_acc N f (j + 1)) 5)), (3, rk_i v), (4, rk_i (nI 6))] [] (Sh, 0, 0) I R) : ∀ n k : Nat, k + n = 5 → rk_Wp w l rk_mL_agree 7 0 0 (rk_GP w Sh I R 1) 14 [(0, rk_a 11 x), (1, rk_i (nI f)), (2, rk_i (sp_sI (fun j => sp_acc N f (j + 1)) k)), (3, rk_i v), (4, rk_i (nI (k + 1)))] [] (Sh, 0, 0) I R := by
  intro n
  induction n with
  | zero =>
    intro k hkn
    obtain rfl : k = 5 := by omega
    refine rk_iload dL_agree_14 rfl ?_
    refine rk_bipush 6 dL_agree_16 (by decide) ?_
    refine rk_icmp_ge 37 dL_agree_18 (by decide) (fun qz18 => ?_) (fun qz18 => ?_)
    · skip
      exact hk
    · skip
      exact absurd (show (6 : Int32) ≤ nI (5 + 1) by decide) qz18
  | succ n ih =>
    intro k hkn
    have hn : ¬ (6 : Int32) ≤ nI (k + 1) := (show ¬ nI 6 ≤ nI (k + 1) from nI_ge (by omega) (by omega))
    refine rk_iload dL_agree_14 rfl ?_
    refine rk_bipush 6 dL_agree_16 (by decide) ?_
    refine rk_icmp_ge 37 dL_agree_18 (by decide) (fun qz18 => ?_) (fun qz18 => ?_)
    · skip
      exact absurd qz18 hn
    · skip
      refine rk_iload_n 2 dL_agree_21 rfl rfl ?_
      refine rk_aload_n 0 dL_agree_22 rfl rfl ?_
      refine rk_iload_n 1 dL_agree_23 rfl rfl ?_
      refine rk_iload dL_agree_24 rfl ?_
      refine rk_pc (pc' := 26) rfl ?_
      refine rk_cVp (qa (k := k + 1) h hf (by omega) rfl rfl) rk_eX10_account rfl ⟨rfl, rfl⟩ rk_kL_18 dL_agree_26 rfl (by decide) (Nat.le_of_ble_eq_true rfl) ⟨Nat.le_refl _, Nat.le_refl _⟩ ?_
      refine rk_iadd dL_agree_29 ?_
      refine rk_istore_n 2 (ls' := [(2, _), (0, _), (1, _), (3, _), (4, _)]) dL_agree_30 rfl (by decide) rfl ?_
      refine rk_iinc 1 (ls' := [(4, _), (2, _), (0, _), (1, _), (3, _)]) dL_agree_31 (by decide) rfl (by decide) rfl ?_
      refine rk_goto 14 dL_agree_34 (by decide) ?_
      refine rk_ord [0, 1, 2, 3, 4] (ls' := [(0, _), (1, _), (2, _), (3, _), (4, _)]) rfl ?_
      rw [nI_1]
      exact ih (k + 1) (by omega)
theorem cL_agree_b {c f : Nat} {v : Int32} (h : lY rg I R x T N) (s : si U N) (hc : N 12 = nI c) (hc2 : c ≤ 24) (hf : f < 3) (hk : rk_Wp w l rk_mL_agree 7 0 0 (rk_GP w Sh I R 1) 121 [(0, rk_a 11 x), (1, rk_i (nI f)), (2, rk_i v), (3, rk_i (sp_yp N f c)), (4, rk_i (nI c))] [] (Sh, 0, 0) I R) : ∀ n p : Nat, p + n = c → rk_Wp w l rk_mL_agree 7 0 0 (rk_GP w Sh I R 1) 40 [(0, rk_a 11 x), (1, rk_i (nI f)), (2, rk_i v), (3, rk_i (sp_yp N f p)), (4, rk_i (nI p))] [] (Sh, 0, 0) I R := by
  have hv := h.pv hc hc2
  have hs := s.1
  rw [sp_cN hc (by omega)] at hs
  intro n
  induction n with
  | zero =>
    intro p hp
    obtain rfl : p = c := by omega
    refine rk_iload dL_agree_40 rfl ?_
    refine rk_aload_n 0 dL_agree_42 rfl rfl ?_
    refine rk_iconst 1 dL_agree_43 (by decide) ?_
    refine rk_cVp (qc1 h) rk_eX10_count rfl ⟨rfl, rfl⟩ rk_kL_8 dL_agree_44 rfl (by decide) (Nat.le_of_ble_eq_true rfl) ⟨Nat.le_refl _, Nat.le_refl _⟩ ?_
    rw [hc]
    refine rk_icmp_ge 121 dL_agree_47 (by decide) (fun qz47 => ?_) (fun qz47 => ?_)
    · skip
      exact hk
    · skip
      exact absurd (nI_le (Nat.le_refl p) (by omega)) qz47
  | succ n ih =>
    intro p hp
    have hpc : p < c := by omega
    have hn : ¬ nI c ≤ nI p := nI_ge (by omega) (by omega)
    have h3 : ¬ N (50 + 7 * p + 3) < 1 := fun z => by
      have g := Int32.lt_iff_toInt_lt.mp z
      have g2 := (hv.2.2.2.1 p hpc).1
      have g3 : (1 : Int32).toInt = 1 := rfl
      omega
    have h4 : 0 ≤ N (50 + 7 * p + 4) := Int32.le_iff_toInt_le.mpr (hs p hpc)
    have y1 : N (50 + 7 * p + 0) = nI f → sp_yp N f p + N (50 + 7 * p + 4) = sp_yp N f (p + 1) := fun z => congrArg (fun t => sp_yp N f p + t) (if_pos z).symm
    have y0 : ¬ N (50 + 7 * p + 0) = nI f → sp_yp N f p + 0 = sp_yp N f (p + 1) := fun z => congrArg (fun t => sp_yp N f p + t) (if_neg z).symm
    refine rk_iload dL_agree_40 rfl ?_
    refine rk_aload_n 0 dL_agree_42 rfl rfl ?_
    refine rk_iconst 1 dL_agree_43 (by decide) ?_
    refine rk_cVp (qc1 h) rk_eX10_count rfl ⟨rfl, rfl⟩ rk_kL_8 dL_agree_44 rfl (by decide) (Nat.le_of_ble_eq_true rfl) ⟨Nat.le_refl _, Nat.le_refl _⟩ ?_
    rw [hc]
    refine rk_icmp_ge 121 dL_agree_47 (by decide) (fun qz47 => ?_) (fun qz47 => ?_)
    · skip
      exact absurd qz47 hn
    · skip
      refine rk_iload_n 3 dL_agree_50 rfl rfl ?_
      refine rk_aload_n 0 dL_agree_51 rfl rfl ?_
      refine rk_pc (pc' := 52) rfl ?_
      refine rk_iload dL_agree_52 rfl ?_
      refine rk_iconst 0 dL_agree_54 (by decide) ?_
      refine rk_cVp (qp (k := 0) h hc hc2 hpc (by decide) rfl rfl) rk_eX10_piece rfl ⟨rfl, rfl⟩ rk_kL_14 dL_agree_55 rfl (by decide) (Nat.le_of_ble_eq_true rfl) ⟨Nat.le_refl _, Nat.le_refl _⟩ ?_
      refine rk_iload_n 1 dL_agree_58 rfl rfl ?_
      refine rk_icmp_ne 72 dL_agree_59 (by decide) (fun qz59 => ?_) (fun qz59 => ?_)
      · skip
        refine rk_iconst 0 dL_agree_72 (by decide) ?_
        refine rk_iadd dL_agree_73 ?_
        refine rk_pc (pc' := 74) rfl ?_
        refine rk_istore_n 3 (ls' := [(3, _), (0, _), (1, _), (2, _), (4, _)]) dL_agree_74 rfl (by decide) rfl ?_
        refine rk_aload_n 0 dL_agree_75 rfl rfl ?_
        refine rk_iload dL_agree_76 rfl ?_
        refine rk_iconst 3 dL_agree_78 (by decide) ?_
        refine rk_cVp (qp (k := 3) h hc hc2 hpc (by decide) rfl rfl) rk_eX10_piece rfl ⟨rfl, rfl⟩ rk_kL_14 dL_agree_79 rfl (by decide) (Nat.le_of_ble_eq_true rfl) ⟨Nat.le_refl _, Nat.le_refl _⟩ ?_
        refine rk_iconst 1 dL_agree_82 (by decide) ?_
        refine rk_pc (pc' := 83) rfl ?_
        refine rk_icmp_lt 113 dL_agree_83 (by decide) (fun qz83 => ?_) (fun qz83 => ?_)
        · skip
          exact absurd qz83 h3
        · skip
          refine rk_aload_n 0 dL_agree_86 rfl rfl ?_
          refine rk_iload dL_agree_87 rfl ?_
          refine rk_bipush 7 dL_agree_89 (by decide) ?_
          refine rk_cVp (qp7 h hc hc2 hpc rfl) rk_eX10_piece rfl ⟨rfl, rfl⟩ rk_kL_14 dL_agree_91 rfl (by decide) (Nat.le_of_ble_eq_true rfl) ⟨Nat.le_refl _, Nat.le_refl _⟩ ?_
          refine rk_aload_n 0 dL_agree_94 rfl rfl ?_
          refine rk_iload dL_agree_95 rfl ?_
          refine rk_pc (pc' := 97) rfl ?_
          refine rk_cSp (cL_strength_s h hc hc2 hpc) rk_eL_strength rfl rk_kL_21 dL_agree_97 rfl (by decide) (Nat.le_of_ble_eq_true rfl) ⟨Nat.le_refl _, Nat.le_refl _⟩ ?_
          refine rk_icmp_ne 113 dL_agree_100 (by decide) (fun qz100 => ?_) (fun qz100 => ?_)
          · skip
            exact absurd rfl qz100
          · skip
            refine rk_aload_n 0 dL_agree_103 rfl rfl ?_
            refine rk_iload dL_agree_104 rfl ?_
            refine rk_iconst 4 dL_agree_106 (by decide) ?_
            refine rk_cVp (qp (k := 4) h hc hc2 hpc (by decide) rfl rfl) rk_eX10_piece rfl ⟨rfl, rfl⟩ rk_kL_14 dL_agree_107 rfl (by decide) (Nat.le_of_ble_eq_true rfl) ⟨Nat.le_refl _, Nat.le_refl _⟩ ?_
            refine rk_if_ge 115 dL_agree_110 (by decide) (fun qz110 => ?_) (fun qz110 => ?_)
            · skip
              refine rk_iinc 1 (ls' := [(4, _), (3, _), (0, _), (1, _), (2, _)]) dL_agree_115 (by decide) rfl (by decide) rfl ?_
              refine rk_pc (pc' := 118) rfl ?_
              refine rk_goto 40 dL_agree_118 (by decide) ?_
              refine rk_ord [0, 1, 2, 3, 4] (ls' := [(0, _), (1, _), (2, _), (3, _), (4, _)]) rfl ?_
              rw [nI_1]
              first | (rw [y1 qz59]; exact ih (p + 1) (by omega)) | (rw [y0 qz59]; exact ih (p + 1) (by omega))
            · skip
              exact absurd h4 qz110
      · skip
        refine rk_aload_n 0 dL_agree_62 rfl rfl ?_
        refine rk_iload dL_agree_63 rfl ?_
        refine rk_iconst 4 dL_agree_65 (by decide) ?_
        refine rk_cVp (qp (k := 4) h hc hc2 hpc (by decide) rfl rfl) rk_eX10_piece rfl ⟨rfl, rfl⟩ rk_kL_14 dL_agree_66 rfl (by decide) (Nat.le_of_ble_eq_true rfl) ⟨Nat.le_refl _, Nat.le_refl _⟩ ?_
        refine rk_goto 73 dL_agree_69 (by decide) ?_
        refine rk_pc (pc' := 73) rfl ?_
        refine rk_iadd dL_agree_73 ?_
        refine rk_istore_n 3 (ls' := [(3, _), (0, _), (1, _), (2, _), (4, _)]) dL_agree_74 rfl (by decide) rfl ?_
        refine rk_aload_n 0 dL_agree_75 rfl rfl ?_
        refine rk_iload dL_agree_76 rfl ?_
        refine rk_iconst 3 dL_agree_78 (by decide) ?_
        refine rk_cVp (qp (k := 3) h hc hc2 hpc (by decide) rfl rfl) rk_eX10_piece rfl ⟨rfl, rfl⟩ rk_kL_14 dL_agree_79 rfl (by decide) (Nat.le_of_ble_eq_true rfl) ⟨Nat.le_refl _, Nat.le_refl _⟩ ?_
        refine rk_pc (pc' := 82) rfl ?_
        refine rk_iconst 1 dL_agree_82 (by decide) ?_
        refine rk_icmp_lt 113 dL_agree_83 (by decide) (fun qz83 => ?_) (fun qz83 => ?_)
        · skip
          exact absurd qz83 h3
        · skip
          refine rk_aload_n 0 dL_agree_86 rfl rfl ?_
          refine rk_iload dL_agree_87 rfl ?_
          refine rk_bipush 7 dL_agree_89 (by decide) ?_
          refine rk_cVp (qp7 h hc hc2 hpc rfl) rk_eX10_piece rfl ⟨rfl, rfl⟩ rk_kL_14 dL_agree_91 rfl (by decide) (Nat.le_of_ble_eq_true rfl) ⟨Nat.le_refl _, Nat.le_refl _⟩ ?_
          refine rk_aload_n 0 dL_agree_94 rfl rfl ?_
          refine rk_pc (pc' := 95) rfl ?_
          refine rk_iload dL_agree_95 rfl ?_
          refine rk_cSp (cL_strength_s h hc hc2 hpc) rk_eL_strength rfl rk_kL_21 dL_agree_97 rfl (by decide) (Nat.le_of_ble_eq_true rfl) ⟨Nat.le_refl _, Nat.le_refl _⟩ ?_
          refine rk_icmp_ne 113 dL_agree_100 (by decide) (fun qz100 => ?_) (fun qz100 => ?_)
          · skip
            exact absurd rfl qz100
          · skip
            refine rk_aload_n 0 dL_agree_103 rfl rfl ?_
            refine rk_iload dL_agree_104 rfl ?_
            refine rk_iconst 4 dL_agree_106 (by decide) ?_
            refine rk_cVp (qp (k := 4) h hc hc2 hpc (by decide) rfl rfl) rk_eX10_piece rfl ⟨rfl, rfl⟩ rk_kL_14 dL_agree_107 rfl (by decide) (Nat.le_of_ble_eq_true rfl) ⟨Nat.le_refl _, Nat.le_refl _⟩ ?_
            refine rk_pc (pc' := 110) rfl ?_
            refine rk_if_ge 115 dL_agree_110 (by decide) (fun qz110 => ?_) (fun qz110 => ?_)
            · skip
              refine rk_iinc 1 (ls' := [(4, _), (3, _), (0, _), (1, _), (2, _)]) dL_agree_115 (by decide) rfl (by decide) rfl ?_
              refine rk_goto 40 dL_agree_118 (by decide) ?_
              refine rk_ord [0, 1, 2, 3, 4] (ls' := [(0, _), (1, _), (2, _), (3, _), (4, _)]) rfl ?_
              rw [nI_1]
              first | (rw [y1 qz59]; exact ih (p + 1) (by omega)) | (rw [y0 qz59]; exact ih (p + 1) (by omega))
            · skip
              exact absurd h4 qz110
theorem cL_agree_l {c : Nat} (h : lY rg I R x T N) (s : si U N) (hc : N 12 = nI c) (hc2 : c ≤ 24) : ∀ n f : Nat, f + n = 3 → rk_Wp w l rk_mL_agree 7 0 0 (rk_GP w Sh I R 1) 2 [(0, rk_a 11 x), (1, rk_i (nI f))] [] (Sh, 0, 0) I R := by
  have ec : sp_c N 12 = c := sp_cN hc (by omega)
  intro n
  induction n with
  | zero =>
    intro f hf
    obtain rfl : f = 3 := by omega
    refine rk_iload_n 1 dL_agree_2 rfl rfl ?_
    refine rk_iconst 3 dL_agree_3 (by decide) ?_
    refine rk_icmp_ge 149 dL_agree_4 (by decide) (fun qz4 => ?_) (fun qz4 => ?_)
    · skip
      refine rk_iconst 1 dL_agree_149 (by decide) ?_
      refine rk_iretP dL_agree_150 rfl (by decide) ?_
      rfl
    · skip
      exact absurd (show (3 : Int32) ≤ nI 3 by decide) qz4
  | succ n ih =>
    intro f hf
    have hf3 : f < 3 := by omega
    have hn : ¬ (3 : Int32) ≤ nI f := (show ¬ nI 3 ≤ nI f from nI_ge (by omega) (by omega))
    have hnext := ih (f + 1) (by omega)
    have hsum := si_sum s hf3
    have k2 : ∀ z v : Int32, z = sp_sI (fun j => sp_acc N f (j + 1)) 5 → rk_Wp w l rk_mL_agree 7 0 0 (rk_GP w Sh I R 1) 121 [(0, rk_a 11 x), (1, rk_i (nI f)), (2, rk_i z), (3, rk_i (sp_yp N f c)), (4, rk_i (nI c))] [] (Sh, 0, 0) I R := fun z v hz => by
      refine rk_iload_n 2 dL_agree_121 rfl rfl ?_
      refine rk_aload_n 0 dL_agree_122 rfl rfl ?_
      refine rk_iload_n 1 dL_agree_123 rfl rfl ?_
      refine rk_iconst 0 dL_agree_124 (by decide) ?_
      refine rk_cVp (qa (k := 0) h hf3 (by decide) rfl rfl) rk_eX10_account rfl ⟨rfl, rfl⟩ rk_kL_18 dL_agree_125 rfl (by decide) (Nat.le_of_ble_eq_true rfl) ⟨Nat.le_refl _, Nat.le_refl _⟩ ?_
      refine rk_icmp_ne 141 dL_agree_128 (by decide) (fun qz128 => ?_) (fun qz128 => ?_)
      · skip
        exact absurd (hz.trans hsum) qz128
      · skip
        refine rk_iload_n 3 dL_agree_131 rfl rfl ?_
        refine rk_pc (pc' := 132) rfl ?_
        refine rk_aload_n 0 dL_agree_132 rfl rfl ?_
        refine rk_iload_n 1 dL_agree_133 rfl rfl ?_
        refine rk_iconst 2 dL_agree_134 (by decide) ?_
        refine rk_cVp (qa (k := 2) h hf3 (by decide) rfl rfl) rk_eX10_account rfl ⟨rfl, rfl⟩ rk_kL_18 dL_agree_135 rfl (by decide) (Nat.le_of_ble_eq_true rfl) ⟨Nat.le_refl _, Nat.le_refl _⟩ ?_
        refine rk_icmp_eq 143 dL_agree_138 (by decide) (fun qz138 => ?_) (fun qz138 => ?_)
        · skip
          refine rk_iinc 1 (ls' := [(1, _), (0, _), (2, _), (3, _), (4, _)]) dL_agree_143 (by decide) rfl (by decide) rfl ?_
          refine rk_goto 2 dL_agree_146 (by decide) ?_
          refine rk_pc (pc' := 2) rfl ?_
          refine rk_ord [0, 1] (ls' := [(0, _), (1, _)]) rfl ?_
          rw [nI_1]
          exact hnext
        · skip
          exact absurd (show sp_yp N f c = sp_yp N f (sp_c N 12) by rw [ec]) qz138
    have hA : rk_Wp w l rk_mL_agree 7 0 0 (rk_GP w Sh I R 1) 37 [(0, rk_a 11 x), (1, rk_i (nI f)), (2, rk_i (sp_sI (fun j => sp_acc N f (j + 1)) 5)), (3, rk_i 0), (4, rk_i (nI 6))] [] (Sh, 0, 0) I R := by
      refine rk_iconst 0 dL_agree_37 (by decide) ?_
      refine rk_istore (ls' := [(4, _), (0, _), (1, _), (2, _), (3, _)]) dL_agree_38 (by decide) rfl ?_
      refine rk_ord [0, 1, 2, 3, 4] (ls' := [(0, _), (1, _), (2, _), (3, _), (4, _)]) rfl ?_
      exact cL_agree_b h s hc hc2 hf3 (k2 _ 0 rfl) c 0 (by omega)
    refine rk_iload_n 1 dL_agree_2 rfl rfl ?_
    refine rk_iconst 3 dL_agree_3 (by decide) ?_
    refine rk_icmp_ge 149 dL_agree_4 (by decide) (fun qz4 => ?_) (fun qz4 => ?_)
    · skip
      exact absurd qz4 hn
    · skip
      refine rk_iconst 0 dL_agree_7 (by decide) ?_
      refine rk_istore_n 2 (ls' := [(2, _), (0, _), (1, _)]) dL_agree_8 rfl (by decide) rfl ?_
      refine rk_iconst 0 dL_agree_9 (by decide) ?_
      refine rk_istore_n 3 (ls' := [(3, _), (2, _), (0, _), (1, _)]) dL_agree_10 rfl (by decide) rfl ?_
      refine rk_pc (pc' := 11) rfl ?_
      refine rk_iconst 1 dL_agree_11 (by decide) ?_
      refine rk_istore (ls' := [(4, _), (3, _), (2, _), (0, _), (1, _)]) dL_agree_12 (by decide) rfl ?_
      refine rk_ord [0, 1, 2, 3, 4] (ls' := [(0, _), (1, _), (2, _), (3, _), (4, _)]) rfl ?_
      exact cL_agree_a h hf3 hA 5 0 (by omega)
theorem cL_agree_s (h : lY rg I R x T N) (s : si U N) : rk_P w l rk_mL_agree 7 [rk_a 11 x] Sh I R 1 := by
  obtain ⟨c, hc2, hc⟩ := h.c12
  refine rk_bP (ls := [(0, _)]) (by decide) rfl (Nat.le_of_ble_eq_true rfl) ?_
  refine rk_iconst 0 dL_agree_0 (by decide) ?_
  refine rk_istore_n 1 (ls' := [(1, _), (0, _)]) dL_agree_1 rfl (by decide) rfl ?_
  refine rk_ord [0, 1] (ls' := [(0, _), (1, _)]) rfl ?_
  exact cL_agree_l h s hc hc2 3 0 (by omega)
end PF

