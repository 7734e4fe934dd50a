section CN
variable {w : rk_W} {l : Launch} {Sh : rk_Sh} {I : rk_Mm} {R : rk_Rm}
theorem md_fa {c a j : Nat} {x y : Int32} : rk_uI (rk_uI I c a j x) c a j y = rk_uI I c a j y := by
  rw [show rk_uI I c a j x = md_a I c a (sp_u (I c a) j x) from md_u1, md_u, show rk_uI I c a j y = md_a I c a (sp_u (I c a) j y) from md_u1]
  congr 1
  funext i
  simp only [sp_u]
  split <;> rfl
theorem cX5_number_l {r L fd : Nat} (hl : I 4 (R 6 r 0) 1 = nI L) (hL : L ≤ 80) (h4 : I 6 r 4 = nI fd) (hf : fd ≤ 3) {Q : Int32 → rk_Mm → rk_Rm → Prop} (z : Nat × Nat) (hQ : Q 1 (rk_uI (rk_uI (rk_uI I 6 r 1 (nI z.1)) 16 (R 6 r 3) fd (nI z.2)) 6 r 4 (nI (fd + 1))) R) : ∀ k t v : Nat, t ≤ L → k ≤ 4 → 0 < v → (v + 1) * 10 ^ k ≤ 100000 → z = pl (I 15 (R 4 (R 6 r 0) 0)) L k t v → rk_Wp w l rk_mX5_readNumber 3 0 0 (rk_GJ w Sh Q) 16 [(0, rk_a 6 r), (1, rk_i (nI v)), (2, rk_i (nI (5 - k)))] [] (Sh, 0, 0) (rk_uI I 6 r 1 (nI t)) R := by
  have a1 : ∀ t, rk_uI I 6 r 1 (nI t) 6 r 1 = nI t := fun t => by rw [md_u1, md_as, sp_us]
  have a4 : ∀ t, rk_uI I 6 r 1 (nI t) 6 r 4 = nI fd := fun t => by rw [md_u1, md_as, sp_un (by decide)]; exact h4
  have al : ∀ t, rk_uI I 6 r 1 (nI t) 4 (R 6 r 0) 1 = nI L := fun t => (congrFun (md_uc (by decide)) 1).trans hl
  have ap : ∀ t, rk_uI I 6 r 1 (nI t) 15 (R 4 (R 6 r 0) 0) = I 15 (R 4 (R 6 r 0) 0) := fun t => md_uc (by decide)
  intro k
  induction k with
  | zero =>
    intro t v ht hk hv0 hv hz
    refine rk_iload_n 2 dX5_readNumber_16 rfl rfl ?_
    refine rk_iconst 5 dX5_readNumber_17 (by decide) ?_
    refine rk_icmp_ge 67 dX5_readNumber_18 (by decide) (fun qz18 => ?_) (fun qz18 => ?_)
    · skip
      refine rk_aload_n 0 dX5_readNumber_67 rfl rfl ?_
      refine rk_iload_n 1 dX5_readNumber_68 rfl rfl ?_
      refine rk_cVv (cX5_keep_s (a4 t) hf _) rk_eX5_keep rfl ⟨rfl, rfl⟩ rk_kX5_93 dX5_readNumber_69 rfl (by decide) (Nat.le_of_ble_eq_true rfl) ⟨Nat.le_refl _, Nat.le_refl _⟩ (fun Iz1 Rz1 hz1 => ?_)
      obtain ⟨qhz1, eIz1⟩ := hz1
      obtain rfl := qhz1.symm
      refine rk_iconst 1 dX5_readNumber_72 (by decide) ?_
      refine rk_pc (pc' := 73) rfl ?_
      refine rk_iretJ dX5_readNumber_73 rfl (by decide) ?_
      rw [eIz1]; subst hz; exact hQ
    · skip
      exact absurd (by decide) qz18
  | succ k ih =>
    intro t v ht hk hv0 hv hz
    have hlt : ¬ (5 : Int32) ≤ nI (5 - (k + 1)) := nI_ge (b := 5) (by omega) (by decide)
    have hno : ¬ (0 < v ∧ (48 ≤ pg (I 15 (R 4 (R 6 r 0) 0)) L t ∧ pg (I 15 (R 4 (R 6 r 0) 0)) L t ≤ 57)) → pl (I 15 (R 4 (R 6 r 0) 0)) L (k + 1) t v = (t, v) := fun h => if_neg h
    have hyes : (0 < v ∧ (48 ≤ pg (I 15 (R 4 (R 6 r 0) 0)) L t ∧ pg (I 15 (R 4 (R 6 r 0) 0)) L t ≤ 57)) → pl (I 15 (R 4 (R 6 r 0) 0)) L (k + 1) t v = pl (I 15 (R 4 (R 6 r 0) 0)) L k (t + 1) (10 * v + (pg (I 15 (R 4 (R 6 r 0) 0)) L t - 48).toNatClampNeg) := fun h => if_pos h
    refine rk_iload_n 2 dX5_readNumber_16 rfl rfl ?_
    refine rk_iconst 5 dX5_readNumber_17 (by decide) ?_
    refine rk_icmp_ge 67 dX5_readNumber_18 (by decide) (fun qz18 => ?_) (fun qz18 => ?_)
    · skip
      exact absurd qz18 hlt
    · skip
      refine rk_aload_n 0 dX5_readNumber_21 rfl rfl ?_
      refine rk_cVp (cX5_here_s (a1 t) (al t) ht hL) rk_eX5_here rfl ⟨rfl, rfl⟩ rk_kX5_40 dX5_readNumber_22 rfl (by decide) (Nat.le_of_ble_eq_true rfl) ⟨Nat.le_refl _, Nat.le_refl _⟩ ?_
      rw [ap]
      refine rk_cSp (cX5_isDigit_s _) rk_eX5_isDigit rfl rk_kX5_97 dX5_readNumber_25 rfl (by decide) (Nat.le_of_ble_eq_true rfl) ⟨Nat.le_refl _, Nat.le_refl _⟩ ?_
      refine rk_if_eq 67 dX5_readNumber_28 (by decide) (fun qz28 => ?_) (fun qz28 => ?_)
      · skip
        refine rk_aload_n 0 dX5_readNumber_67 rfl rfl ?_
        refine rk_pc (pc' := 68) rfl ?_
        refine rk_iload_n 1 dX5_readNumber_68 rfl rfl ?_
        refine rk_cVv (cX5_keep_s (a4 t) hf _) rk_eX5_keep rfl ⟨rfl, rfl⟩ rk_kX5_93 dX5_readNumber_69 rfl (by decide) (Nat.le_of_ble_eq_true rfl) ⟨Nat.le_refl _, Nat.le_refl _⟩ (fun Iz1 Rz1 hz1 => ?_)
        obtain ⟨qhz1, eIz1⟩ := hz1
        obtain rfl := qhz1.symm
        refine rk_iconst 1 dX5_readNumber_72 (by decide) ?_
        refine rk_iretJ dX5_readNumber_73 rfl (by decide) ?_
        rw [hno (fun z => sp_bf qz28 z.2)] at hz; rw [eIz1]; subst hz; exact hQ
      · skip
        obtain ⟨htl, d, hd, hdn⟩ := pg_dig (sp_bt qz28)
        have hvv : (10 : Int32) * nI v + nI (48 + d) - 48 = nI (10 * v + d) := by rw [show (10 : Int32) = nI 10 from rfl, pk_mul, nI_add, show (48 : Int32) = nI 48 from rfl, pk_sub (by omega)]; congr 1; omega
        have hdc : (pg (I 15 (R 4 (R 6 r 0) 0)) L t - 48).toNatClampNeg = d := by rw [hdn, show (48 : Int32) = nI 48 from rfl, pk_sub (by omega), nI_clamp (by omega)]; omega
        have hv2 : (10 * v + d + 1) * 10 ^ k ≤ 100000 := by
          rw [Nat.pow_succ] at hv
          have a1 : (10 * v + d + 1) * 10 ^ k ≤ (10 * (v + 1)) * 10 ^ k := Nat.mul_le_mul_right _ (by omega)
          have a3 : (10 * (v + 1)) * 10 ^ k = (v + 1) * (10 ^ k * 10) := by rw [Nat.mul_comm 10 (v + 1), Nat.mul_assoc, Nat.mul_comm 10]
          omega
        have hv3 : 10 * v + d + 1 ≤ (10 * v + d + 1) * 10 ^ k := Nat.le_mul_of_pos_right _ (Nat.pos_of_ne_zero (by simp))
        refine rk_bipush 10 dX5_readNumber_31 (by decide) ?_
        refine rk_iload_n 1 dX5_readNumber_33 rfl rfl ?_
        refine rk_imul dX5_readNumber_34 ?_
        refine rk_pc (pc' := 35) rfl ?_
        refine rk_aload_n 0 dX5_readNumber_35 rfl rfl ?_
        refine rk_cVp (cX5_here_s (a1 t) (al t) ht hL) rk_eX5_here rfl ⟨rfl, rfl⟩ rk_kX5_40 dX5_readNumber_36 rfl (by decide) (Nat.le_of_ble_eq_true rfl) ⟨Nat.le_refl _, Nat.le_refl _⟩ ?_
        rw [ap, hdn]
        refine rk_iadd dX5_readNumber_39 ?_
        refine rk_bipush 48 dX5_readNumber_40 (by decide) ?_
        refine rk_isub dX5_readNumber_42 ?_
        rw [hvv]
        refine rk_istore_n 1 (ls' := [(1, _), (0, _), (2, _)]) dX5_readNumber_43 rfl (by decide) rfl ?_
        refine rk_pc (pc' := 44) rfl ?_
        refine rk_aload_n 0 dX5_readNumber_44 rfl rfl ?_
        refine rk_dup dX5_readNumber_45 rfl ?_
        refine rk_g6_1 rk_kX5_22 dX5_readNumber_46 ?_
        rw [a1]
        refine rk_iconst 1 dX5_readNumber_49 (by decide) ?_
        refine rk_iadd dX5_readNumber_50 ?_
        refine rk_p6_1 rk_kX5_22 dX5_readNumber_51 (fun Iz1 eIz1 => ?_)
        rw [md_fa, nI_1] at eIz1
        obtain rfl := eIz1.symm
        refine rk_pc (pc' := 54) rfl ?_
        refine rk_iload_n 1 dX5_readNumber_54 rfl rfl ?_
        refine rk_if_ne 61 dX5_readNumber_55 (by decide) (fun qz55 => ?_) (fun qz55 => ?_)
        · skip
          refine rk_iinc 1 (ls' := [(2, _), (1, _), (0, _)]) dX5_readNumber_61 (by decide) rfl (by decide) rfl ?_
          refine rk_goto 16 dX5_readNumber_64 (by decide) ?_
          refine rk_ord [0, 1, 2] (ls' := [(0, _), (1, _), (2, _)]) rfl ?_
          rw [hyes ⟨hv0, sp_bt qz28⟩, hdc] at hz
          rw [nI_1, show 5 - (k + 1) + 1 = 5 - k by omega]
          exact ih (t + 1) (10 * v + d) (by omega) (by omega) (by omega) hv2 hz
        · skip
          exact absurd qz55 (nI_ne0 (by omega) (by omega))
theorem cX5_number_e {r t L fd d : Nat} (h1 : I 6 r 1 = nI t) (hl : I 4 (R 6 r 0) 1 = nI L) (ht : t ≤ L) (hL : L ≤ 80) (h4 : I 6 r 4 = nI fd) (hf : fd ≤ 3) (hdig : 48 ≤ pg (I 15 (R 4 (R 6 r 0) 0)) L t ∧ pg (I 15 (R 4 (R 6 r 0) 0)) L t ≤ 57) (hd : d ≤ 9) (hdn : pg (I 15 (R 4 (R 6 r 0) 0)) L t = nI (48 + d)) (htl : t < L) (hvv : (10 : Int32) * 0 + nI (48 + d) - 48 = nI d) (a4 : ∀ t, rk_uI I 6 r 1 (nI t) 6 r 4 = nI fd) : rk_Wp w l rk_mX5_readNumber 3 0 0 (rk_GJ w Sh (fun x I' R' => R' = R ∧ ((¬ (48 ≤ pg (I 15 (R 4 (R 6 r 0) 0)) L t ∧ pg (I 15 (R 4 (R 6 r 0) 0)) L t ≤ 57) ∧ x = 0 ∧ I' = I) ∨ ∃ d, d ≤ 9 ∧ pg (I 15 (R 4 (R 6 r 0) 0)) L t = nI (48 + d) ∧ x = 1 ∧ I' = rk_uI (rk_uI (rk_uI I 6 r 1 (nI (pl (I 15 (R 4 (R 6 r 0) 0)) L 4 (t + 1) d).1)) 16 (R 6 r 3) fd (nI (pl (I 15 (R 4 (R 6 r 0) 0)) L 4 (t + 1) d).2)) 6 r 4 (nI (fd + 1))))) 16 [(0, rk_a 6 r), (1, rk_i 0), (2, rk_i 0)] [] (Sh, 0, 0) I R := by
  have hz : pl (I 15 (R 4 (R 6 r 0) 0)) L 4 (t + 1) 0 = (t + 1, 0) := if_neg (fun z => absurd z.1 (by decide))
  refine rk_iload_n 2 dX5_readNumber_16 rfl rfl ?_
  refine rk_iconst 5 dX5_readNumber_17 (by decide) ?_
  refine rk_icmp_ge 67 dX5_readNumber_18 (by decide) (fun qz18 => ?_) (fun qz18 => ?_)
  · skip
    exact absurd qz18 (by decide)
  · skip
    refine rk_aload_n 0 dX5_readNumber_21 rfl rfl ?_
    refine rk_cVp (cX5_here_s h1 hl ht hL) rk_eX5_here rfl ⟨rfl, rfl⟩ rk_kX5_40 dX5_readNumber_22 rfl (by decide) (Nat.le_of_ble_eq_true rfl) ⟨Nat.le_refl _, Nat.le_refl _⟩ ?_
    refine rk_cSp (cX5_isDigit_s _) rk_eX5_isDigit rfl rk_kX5_97 dX5_readNumber_25 rfl (by decide) (Nat.le_of_ble_eq_true rfl) ⟨Nat.le_refl _, Nat.le_refl _⟩ ?_
    refine rk_if_eq 67 dX5_readNumber_28 (by decide) (fun qz28 => ?_) (fun qz28 => ?_)
    · skip
      exact absurd hdig (sp_bf qz28)
    · skip
      refine rk_bipush 10 dX5_readNumber_31 (by decide) ?_
      refine rk_pc (pc' := 33) rfl ?_
      refine rk_iload_n 1 dX5_readNumber_33 rfl rfl ?_
      refine rk_imul dX5_readNumber_34 ?_
      refine rk_aload_n 0 dX5_readNumber_35 rfl rfl ?_
      refine rk_cVp (cX5_here_s h1 hl ht hL) rk_eX5_here rfl ⟨rfl, rfl⟩ rk_kX5_40 dX5_readNumber_36 rfl (by decide) (Nat.le_of_ble_eq_true rfl) ⟨Nat.le_refl _, Nat.le_refl _⟩ ?_
      rw [hdn]
      refine rk_iadd dX5_readNumber_39 ?_
      refine rk_bipush 48 dX5_readNumber_40 (by decide) ?_
      refine rk_pc (pc' := 42) rfl ?_
      refine rk_isub dX5_readNumber_42 ?_
      rw [hvv]
      refine rk_istore_n 1 (ls' := [(1, _), (0, _), (2, _)]) dX5_readNumber_43 rfl (by decide) rfl ?_
      refine rk_aload_n 0 dX5_readNumber_44 rfl rfl ?_
      refine rk_dup dX5_readNumber_45 rfl ?_
      refine rk_g6_1 rk_kX5_22 dX5_readNumber_46 ?_
      rw [h1]
      refine rk_iconst 1 dX5_readNumber_49 (by decide) ?_
      refine rk_pc (pc' := 50) rfl ?_
      refine rk_iadd dX5_readNumber_50 ?_
      refine rk_p6_1 rk_kX5_22 dX5_readNumber_51 (fun Iz1 eIz1 => ?_)
      rw [nI_1] at eIz1
      obtain rfl := eIz1.symm
      refine rk_iload_n 1 dX5_readNumber_54 rfl rfl ?_
      refine rk_if_ne 61 dX5_readNumber_55 (by decide) (fun qz55 => ?_) (fun qz55 => ?_)
      · skip
        refine rk_iinc 1 (ls' := [(2, _), (1, _), (0, _)]) dX5_readNumber_61 (by decide) rfl (by decide) rfl ?_
        refine rk_goto 16 dX5_readNumber_64 (by decide) ?_
        refine rk_ord [0, 1, 2] (ls' := [(0, _), (1, _), (2, _)]) rfl ?_
        exact cX5_number_l hl hL h4 hf (pl (I 15 (R 4 (R 6 r 0) 0)) L 4 (t + 1) d) ⟨rfl, Or.inr ⟨d, hd, rfl, rfl, rfl⟩⟩ 4 (t + 1) d (by omega) (by decide) (Nat.pos_of_ne_zero (fun z => qz55 (by rw [z]; rfl))) (by omega) rfl
      · skip
        obtain rfl : d = 0 := Classical.byContradiction fun z => nI_ne0 (Nat.pos_of_ne_zero z) (by omega) qz55
        refine rk_goto 67 dX5_readNumber_58 (by decide) ?_
        refine rk_pc (pc' := 67) rfl ?_
        refine rk_aload_n 0 dX5_readNumber_67 rfl rfl ?_
        refine rk_iload_n 1 dX5_readNumber_68 rfl rfl ?_
        refine rk_cVv (cX5_keep_s (a4 _) hf _) rk_eX5_keep rfl ⟨rfl, rfl⟩ rk_kX5_93 dX5_readNumber_69 rfl (by decide) (Nat.le_of_ble_eq_true rfl) ⟨Nat.le_refl _, Nat.le_refl _⟩ (fun Iz2 Rz2 hz2 => ?_)
        obtain ⟨qhz2, eIz2⟩ := hz2
        obtain rfl := qhz2.symm
        refine rk_iconst 1 dX5_readNumber_72 (by decide) ?_
        refine rk_iretJ dX5_readNumber_73 rfl (by decide) ?_
        exact ⟨rfl, Or.inr ⟨0, hd, rfl, rfl, by rw [hz]; exact eIz2⟩⟩
theorem cX5_readNumber_s {r t L fd : Nat} (h1 : I 6 r 1 = nI t) (hl : I 4 (R 6 r 0) 1 = nI L) (ht : t ≤ L) (hL : L ≤ 80) (h4 : I 6 r 4 = nI fd) (hf : fd ≤ 3) : rk_J w l rk_mX5_readNumber 3 [rk_a 6 r] Sh I R (fun x I' R' => R' = R ∧ ((¬ (48 ≤ pg (I 15 (R 4 (R 6 r 0) 0)) L t ∧ pg (I 15 (R 4 (R 6 r 0) 0)) L t ≤ 57) ∧ x = 0 ∧ I' = I) ∨ ∃ d, d ≤ 9 ∧ pg (I 15 (R 4 (R 6 r 0) 0)) L t = nI (48 + d) ∧ x = 1 ∧ I' = rk_uI (rk_uI (rk_uI I 6 r 1 (nI (pl (I 15 (R 4 (R 6 r 0) 0)) L 4 (t + 1) d).1)) 16 (R 6 r 3) fd (nI (pl (I 15 (R 4 (R 6 r 0) 0)) L 4 (t + 1) d).2)) 6 r 4 (nI (fd + 1)))) := by
  have a4 : ∀ t, rk_uI I 6 r 1 (nI t) 6 r 4 = nI fd := fun t => by rw [md_u1, md_as, sp_un (by decide)]; exact h4
  have mono : ∀ (d : Nat) (hd : d ≤ 9) (hdn : pg (I 15 (R 4 (R 6 r 0) 0)) L t = nI (48 + d)), 48 ≤ pg (I 15 (R 4 (R 6 r 0) 0)) L t ∧ pg (I 15 (R 4 (R 6 r 0) 0)) L t ≤ 57 := fun d hd hdn => by
    rw [hdn]
    exact ⟨nI_le (a := 48) (by omega) (by omega), nI_le (b := 57) (by omega) (by decide)⟩
  by_cases hdig : 48 ≤ pg (I 15 (R 4 (R 6 r 0) 0)) L t ∧ pg (I 15 (R 4 (R 6 r 0) 0)) L t ≤ 57
  · obtain ⟨htl, d, hd, hdn⟩ := pg_dig hdig
    have hvv : (10 : Int32) * 0 + nI (48 + d) - 48 = nI d := by rw [show (10 : Int32) * 0 = nI 0 from rfl, nI_add, show (48 : Int32) = nI 48 from rfl, pk_sub (by omega)]; congr 1; omega
    refine rk_bJ (ls := [(0, _)]) (by decide) rfl (Nat.le_of_ble_eq_true rfl) ?_
    refine rk_aload_n 0 dX5_readNumber_0 rfl rfl ?_
    refine rk_cVp (cX5_here_s h1 hl ht hL) rk_eX5_here rfl ⟨rfl, rfl⟩ rk_kX5_40 dX5_readNumber_1 rfl (by decide) (Nat.le_of_ble_eq_true rfl) ⟨Nat.le_refl _, Nat.le_refl _⟩ ?_
    refine rk_cSp (cX5_isDigit_s _) rk_eX5_isDigit rfl rk_kX5_97 dX5_readNumber_4 rfl (by decide) (Nat.le_of_ble_eq_true rfl) ⟨Nat.le_refl _, Nat.le_refl _⟩ ?_
    refine rk_if_ne 12 dX5_readNumber_7 (by decide) (fun qz7 => ?_) (fun qz7 => ?_)
    · skip
      refine rk_iconst 0 dX5_readNumber_12 (by decide) ?_
      refine rk_istore_n 1 (ls' := [(1, _), (0, _)]) dX5_readNumber_13 rfl (by decide) rfl ?_
      refine rk_iconst 0 dX5_readNumber_14 (by decide) ?_
      refine rk_pc (pc' := 15) rfl ?_
      refine rk_istore_n 2 (ls' := [(2, _), (1, _), (0, _)]) dX5_readNumber_15 rfl (by decide) rfl ?_
      refine rk_ord [0, 1, 2] (ls' := [(0, _), (1, _), (2, _)]) rfl ?_
      exact cX5_number_e h1 hl ht hL h4 hf hdig hd hdn htl hvv a4
    · skip
      exact absurd hdig (sp_bf qz7)
  · skip
    refine rk_bJ (ls := [(0, _)]) (by decide) rfl (Nat.le_of_ble_eq_true rfl) ?_
    refine rk_aload_n 0 dX5_readNumber_0 rfl rfl ?_
    refine rk_cVp (cX5_here_s h1 hl ht hL) rk_eX5_here rfl ⟨rfl, rfl⟩ rk_kX5_40 dX5_readNumber_1 rfl (by decide) (Nat.le_of_ble_eq_true rfl) ⟨Nat.le_refl _, Nat.le_refl _⟩ ?_
    refine rk_cSp (cX5_isDigit_s _) rk_eX5_isDigit rfl rk_kX5_97 dX5_readNumber_4 rfl (by decide) (Nat.le_of_ble_eq_true rfl) ⟨Nat.le_refl _, Nat.le_refl _⟩ ?_
    refine rk_if_ne 12 dX5_readNumber_7 (by decide) (fun qz7 => ?_) (fun qz7 => ?_)
    · skip
      exact absurd (sp_bt qz7) hdig
    · skip
      refine rk_iconst 0 dX5_readNumber_10 (by decide) ?_
      refine rk_iretJ dX5_readNumber_11 rfl (by decide) ?_
      exact ⟨rfl, Or.inl ⟨hdig, rfl, rfl⟩⟩
end CN

