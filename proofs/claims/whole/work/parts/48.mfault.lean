section MG
variable {w : rk_W} {l : Launch} {Sh : rk_Sh} {I : rk_Mm} {R : rk_Rm}
theorem pm_i12 {m a : Nat} {v : Int32} : rk_uI I 12 m 12 v = pm_st I m a v (I 12 m 13) (I 12 m 11) (I 33 a) := by
  have e : I = pm_st I m a (I 12 m 12) (I 12 m 13) (I 12 m 11) (I 33 a) := by
    have e1 : sp_u (sp_u (sp_u (I 12 m) 12 (I 12 m 12)) 13 (I 12 m 13)) 11 (I 12 m 11) = I 12 m := by
      funext j
      simp only [sp_u]
      by_cases h1 : j = 11
      · simp [h1]
      · by_cases h2 : j = 13
        · simp [h2]
        · by_cases h3 : j = 12
          · simp [h3]
          · simp [h1, h2, h3]
    rw [pm_st, md_self, e1, md_self]
  conv => lhs; rw [e]
  rw [pm_u12]
def pk6 (kd : Int32) : Prop := kd = 121 ∨ kd = 108 ∨ kd = 106 ∨ kd = 116 ∨ kd = 102 ∨ kd = 100
noncomputable def pr (P : Nat → Int32) (L t mn : Nat) (J : Nat → Int32) : (Nat × Bool) × Nat × (Nat → Int32) := @ite _ (pk6 (pg P L t)) (Classical.propDecidable _) ((po P L (pg P L t) (t + 1, false) (sp_u J (5 * mn) (pg P L t)) (5 * mn)).1, mn + 1, (po P L (pg P L t) (t + 1, false) (sp_u J (5 * mn) (pg P L t)) (5 * mn)).2) ((t, true), mn, sp_u J (5 * mn) (pg P L t))
theorem cX11_readOne_s {m t L mn : Nat} {J : Nat → Int32} (h7 : I 12 m 7 = nI L) (ht : t ≤ L) (hL : L ≤ 80) (hm : mn ≤ 39) : rk_U w l rk_mX11_readOne 4 [rk_a 12 m] Sh (pm_st I m (R 12 m 10) (nI t) (wi false) (nI mn) J) R (fun I' R' => R' = R ∧ I' = pm_st I m (R 12 m 10) (nI (pr (I 31 (R 12 m 6)) L t mn J).1.1) (wi (pr (I 31 (R 12 m 6)) L t mn J).1.2) (nI (pr (I 31 (R 12 m 6)) L t mn J).2.1) (pr (I 31 (R 12 m 6)) L t mn J).2.2) := by
  have hno : ¬ pk6 (pg (I 31 (R 12 m 6)) L t) → pr (I 31 (R 12 m 6)) L t mn J = _ := fun h => if_neg h
  have hyes : pk6 (pg (I 31 (R 12 m 6)) L t) → pr (I 31 (R 12 m 6)) L t mn J = _ := fun h => if_pos h
  have hlt : pk6 (pg (I 31 (R 12 m 6)) L t) → t + 1 ≤ L := fun h => pg_in (P := I 31 (R 12 m 6)) (fun z => by
    rw [z] at h
    rcases h with h | h | h | h | h | h <;> exact absurd h (by decide))
  have h5 : (5 : Int32) * nI mn = nI (5 * mn) := by rw [show (5 : Int32) = nI 5 from rfl, pk_mul]
  refine rk_bU (ls := [(0, _)]) (by decide) rfl (Nat.le_of_ble_eq_true rfl) ?_
  refine rk_iconst 5 dX11_readOne_0 (by decide) ?_
  refine rk_aload_n 0 dX11_readOne_1 rfl rfl ?_
  refine rk_g12_11 rk_kX11_159 dX11_readOne_2 ?_
  rw [pm_r11]
  refine rk_imul dX11_readOne_5 ?_
  rw [h5]
  refine rk_istore_n 1 (ls' := [(1, _), (0, _)]) dX11_readOne_6 rfl (by decide) rfl ?_
  refine rk_aload_n 0 dX11_readOne_7 rfl rfl ?_
  refine rk_pc (pc' := 8) rfl ?_
  refine rk_cVp (cX11_sign_s (t := t) (L := L) pm_r12 (pm_r7.trans h7) ht hL) rk_eX11_sign rfl ⟨rfl, rfl⟩ rk_kX11_152 dX11_readOne_8 rfl (by decide) (Nat.le_of_ble_eq_true rfl) ⟨Nat.le_refl _, Nat.le_refl _⟩ ?_
  rw [pm_r31]
  refine rk_istore_n 2 (ls' := [(2, _), (1, _), (0, _)]) dX11_readOne_11 rfl (by decide) rfl ?_
  refine rk_aload_n 0 dX11_readOne_12 rfl rfl ?_
  refine rk_g12_10 rk_kX11_32 dX11_readOne_13 ?_
  refine rk_iload_n 1 dX11_readOne_16 rfl rfl ?_
  refine rk_iload_n 2 dX11_readOne_17 rfl rfl ?_
  refine rk_pc (pc' := 18) rfl ?_
  refine rk_sn33 (5 * mn) dX11_readOne_18 (by first | rfl | decide | assumption | (simp only [rk_lit, nI_add, pk_mul, nI_1]; done) | (simp only [rk_lit, nI_add, pk_mul, nI_1]; congr 1; omega)) (by first | decide | assumption | omega) (fun Iz1 eIz1 => ?_)
  rw [pm_u33] at eIz1
  obtain rfl := eIz1.symm
  refine rk_aload_n 0 dX11_readOne_19 rfl rfl ?_
  refine rk_aload_n 0 dX11_readOne_20 rfl rfl ?_
  refine rk_g12_13 rk_kX11_149 dX11_readOne_21 ?_
  rw [pm_r13]
  refine rk_if_ne 63 dX11_readOne_24 (by decide) (fun qz24 => ?_) (fun qz24 => ?_)
  · skip
    exact absurd rfl qz24
  · skip
    refine rk_iload_n 2 dX11_readOne_27 rfl rfl ?_
    refine rk_bipush 121 dX11_readOne_28 (by decide) ?_
    refine rk_pc (pc' := 30) rfl ?_
    refine rk_icmp_eq 67 dX11_readOne_30 (by decide) (fun qz30 => ?_) (fun qz30 => ?_)
    · skip
      refine rk_iconst 0 dX11_readOne_67 (by decide) ?_
      refine rk_p12_13 rk_kX11_149 (by decide) dX11_readOne_68 (fun Iz2 eIz2 => ?_)
      rw [pm_u13] at eIz2
      obtain rfl := eIz2.symm
      refine rk_aload_n 0 dX11_readOne_71 rfl rfl ?_
      refine rk_g12_13 rk_kX11_149 dX11_readOne_72 ?_
      rw [pm_r13]
      refine rk_if_eq 79 dX11_readOne_75 (by decide) (fun qz75 => ?_) (fun qz75 => ?_)
      · skip
        refine rk_ord [0, 1, 2] (ls' := [(0, _), (1, _), (2, _)]) rfl ?_
        first | exact absurd qz75 (by decide) | (have hk6 : pk6 (pg (I 31 (R 12 m 6)) L t) := (by first | exact Or.inl qz30 | exact Or.inr (Or.inl qz36) | exact Or.inr (Or.inr (Or.inl qz42)) | exact Or.inr (Or.inr (Or.inr (Or.inl qz48))) | exact Or.inr (Or.inr (Or.inr (Or.inr (Or.inl qz54)))) | exact Or.inr (Or.inr (Or.inr (Or.inr (Or.inr qz60))))); rw [hyes hk6]; exact cX11_readOne_k h7 (hlt hk6) hL hm)
      · skip
        refine rk_vretU dX11_readOne_78 rfl ?_
        first | exact absurd qz75 (by decide) | exact absurd (by decide) qz75 | (rw [hno (fun z => z.elim qz30 (fun z => z.elim qz36 (fun z => z.elim qz42 (fun z => z.elim qz48 (fun z => z.elim qz54 qz60)))))]; exact ⟨rfl, rfl⟩)
    · skip
      refine rk_iload_n 2 dX11_readOne_33 rfl rfl ?_
      refine rk_bipush 108 dX11_readOne_34 (by decide) ?_
      refine rk_pc (pc' := 36) rfl ?_
      refine rk_icmp_eq 67 dX11_readOne_36 (by decide) (fun qz36 => ?_) (fun qz36 => ?_)
      · skip
        refine rk_iconst 0 dX11_readOne_67 (by decide) ?_
        refine rk_p12_13 rk_kX11_149 (by decide) dX11_readOne_68 (fun Iz2 eIz2 => ?_)
        rw [pm_u13] at eIz2
        obtain rfl := eIz2.symm
        refine rk_aload_n 0 dX11_readOne_71 rfl rfl ?_
        refine rk_g12_13 rk_kX11_149 dX11_readOne_72 ?_
        rw [pm_r13]
        refine rk_if_eq 79 dX11_readOne_75 (by decide) (fun qz75 => ?_) (fun qz75 => ?_)
        · skip
          refine rk_ord [0, 1, 2] (ls' := [(0, _), (1, _), (2, _)]) rfl ?_
          first | exact absurd qz75 (by decide) | (have hk6 : pk6 (pg (I 31 (R 12 m 6)) L t) := (by first | exact Or.inl qz30 | exact Or.inr (Or.inl qz36) | exact Or.inr (Or.inr (Or.inl qz42)) | exact Or.inr (Or.inr (Or.inr (Or.inl qz48))) | exact Or.inr (Or.inr (Or.inr (Or.inr (Or.inl qz54)))) | exact Or.inr (Or.inr (Or.inr (Or.inr (Or.inr qz60))))); rw [hyes hk6]; exact cX11_readOne_k h7 (hlt hk6) hL hm)
        · skip
          refine rk_vretU dX11_readOne_78 rfl ?_
          first | exact absurd qz75 (by decide) | exact absurd (by decide) qz75 | (rw [hno (fun z => z.elim qz30 (fun z => z.elim qz36 (fun z => z.elim qz42 (fun z => z.elim qz48 (fun z => z.elim qz54 qz60)))))]; exact ⟨rfl, rfl⟩)
      · skip
        refine rk_iload_n 2 dX11_readOne_39 rfl rfl ?_
        refine rk_bipush 106 dX11_readOne_40 (by decide) ?_
        refine rk_pc (pc' := 42) rfl ?_
        refine rk_icmp_eq 67 dX11_readOne_42 (by decide) (fun qz42 => ?_) (fun qz42 => ?_)
        · skip
          refine rk_iconst 0 dX11_readOne_67 (by decide) ?_
          refine rk_p12_13 rk_kX11_149 (by decide) dX11_readOne_68 (fun Iz2 eIz2 => ?_)
          rw [pm_u13] at eIz2
          obtain rfl := eIz2.symm
          refine rk_aload_n 0 dX11_readOne_71 rfl rfl ?_
          refine rk_g12_13 rk_kX11_149 dX11_readOne_72 ?_
          rw [pm_r13]
          refine rk_if_eq 79 dX11_readOne_75 (by decide) (fun qz75 => ?_) (fun qz75 => ?_)
          · skip
            refine rk_ord [0, 1, 2] (ls' := [(0, _), (1, _), (2, _)]) rfl ?_
            first | exact absurd qz75 (by decide) | (have hk6 : pk6 (pg (I 31 (R 12 m 6)) L t) := (by first | exact Or.inl qz30 | exact Or.inr (Or.inl qz36) | exact Or.inr (Or.inr (Or.inl qz42)) | exact Or.inr (Or.inr (Or.inr (Or.inl qz48))) | exact Or.inr (Or.inr (Or.inr (Or.inr (Or.inl qz54)))) | exact Or.inr (Or.inr (Or.inr (Or.inr (Or.inr qz60))))); rw [hyes hk6]; exact cX11_readOne_k h7 (hlt hk6) hL hm)
          · skip
            refine rk_vretU dX11_readOne_78 rfl ?_
            first | exact absurd qz75 (by decide) | exact absurd (by decide) qz75 | (rw [hno (fun z => z.elim qz30 (fun z => z.elim qz36 (fun z => z.elim qz42 (fun z => z.elim qz48 (fun z => z.elim qz54 qz60)))))]; exact ⟨rfl, rfl⟩)
        · skip
          refine rk_iload_n 2 dX11_readOne_45 rfl rfl ?_
          refine rk_bipush 116 dX11_readOne_46 (by decide) ?_
          refine rk_pc (pc' := 48) rfl ?_
          refine rk_icmp_eq 67 dX11_readOne_48 (by decide) (fun qz48 => ?_) (fun qz48 => ?_)
          · skip
            refine rk_iconst 0 dX11_readOne_67 (by decide) ?_
            refine rk_p12_13 rk_kX11_149 (by decide) dX11_readOne_68 (fun Iz2 eIz2 => ?_)
            rw [pm_u13] at eIz2
            obtain rfl := eIz2.symm
            refine rk_aload_n 0 dX11_readOne_71 rfl rfl ?_
            refine rk_g12_13 rk_kX11_149 dX11_readOne_72 ?_
            rw [pm_r13]
            refine rk_if_eq 79 dX11_readOne_75 (by decide) (fun qz75 => ?_) (fun qz75 => ?_)
            · skip
              refine rk_ord [0, 1, 2] (ls' := [(0, _), (1, _), (2, _)]) rfl ?_
              first | exact absurd qz75 (by decide) | (have hk6 : pk6 (pg (I 31 (R 12 m 6)) L t) := (by first | exact Or.inl qz30 | exact Or.inr (Or.inl qz36) | exact Or.inr (Or.inr (Or.inl qz42)) | exact Or.inr (Or.inr (Or.inr (Or.inl qz48))) | exact Or.inr (Or.inr (Or.inr (Or.inr (Or.inl qz54)))) | exact Or.inr (Or.inr (Or.inr (Or.inr (Or.inr qz60))))); rw [hyes hk6]; exact cX11_readOne_k h7 (hlt hk6) hL hm)
            · skip
              refine rk_vretU dX11_readOne_78 rfl ?_
              first | exact absurd qz75 (by decide) | exact absurd (by decide) qz75 | (rw [hno (fun z => z.elim qz30 (fun z => z.elim qz36 (fun z => z.elim qz42 (fun z => z.elim qz48 (fun z => z.elim qz54 qz60)))))]; exact ⟨rfl, rfl⟩)
          · skip
            refine rk_iload_n 2 dX11_readOne_51 rfl rfl ?_
            refine rk_bipush 102 dX11_readOne_52 (by decide) ?_
            refine rk_pc (pc' := 54) rfl ?_
            refine rk_icmp_eq 67 dX11_readOne_54 (by decide) (fun qz54 => ?_) (fun qz54 => ?_)
            · skip
              refine rk_iconst 0 dX11_readOne_67 (by decide) ?_
              refine rk_p12_13 rk_kX11_149 (by decide) dX11_readOne_68 (fun Iz2 eIz2 => ?_)
              rw [pm_u13] at eIz2
              obtain rfl := eIz2.symm
              refine rk_aload_n 0 dX11_readOne_71 rfl rfl ?_
              refine rk_g12_13 rk_kX11_149 dX11_readOne_72 ?_
              rw [pm_r13]
              refine rk_if_eq 79 dX11_readOne_75 (by decide) (fun qz75 => ?_) (fun qz75 => ?_)
              · skip
                refine rk_ord [0, 1, 2] (ls' := [(0, _), (1, _), (2, _)]) rfl ?_
                first | exact absurd qz75 (by decide) | (have hk6 : pk6 (pg (I 31 (R 12 m 6)) L t) := (by first | exact Or.inl qz30 | exact Or.inr (Or.inl qz36) | exact Or.inr (Or.inr (Or.inl qz42)) | exact Or.inr (Or.inr (Or.inr (Or.inl qz48))) | exact Or.inr (Or.inr (Or.inr (Or.inr (Or.inl qz54)))) | exact Or.inr (Or.inr (Or.inr (Or.inr (Or.inr qz60))))); rw [hyes hk6]; exact cX11_readOne_k h7 (hlt hk6) hL hm)
              · skip
                refine rk_vretU dX11_readOne_78 rfl ?_
                first | exact absurd qz75 (by decide) | exact absurd (by decide) qz75 | (rw [hno (fun z => z.elim qz30 (fun z => z.elim qz36 (fun z => z.elim qz42 (fun z => z.elim qz48 (fun z => z.elim qz54 qz60)))))]; exact ⟨rfl, rfl⟩)
            · skip
              refine rk_iload_n 2 dX11_readOne_57 rfl rfl ?_
              refine rk_bipush 100 dX11_readOne_58 (by decide) ?_
              refine rk_pc (pc' := 60) rfl ?_
              refine rk_icmp_eq 67 dX11_readOne_60 (by decide) (fun qz60 => ?_) (fun qz60 => ?_)
              · skip
                refine rk_iconst 0 dX11_readOne_67 (by decide) ?_
                refine rk_p12_13 rk_kX11_149 (by decide) dX11_readOne_68 (fun Iz2 eIz2 => ?_)
                rw [pm_u13] at eIz2
                obtain rfl := eIz2.symm
                refine rk_aload_n 0 dX11_readOne_71 rfl rfl ?_
                refine rk_g12_13 rk_kX11_149 dX11_readOne_72 ?_
                rw [pm_r13]
                refine rk_if_eq 79 dX11_readOne_75 (by decide) (fun qz75 => ?_) (fun qz75 => ?_)
                · skip
                  refine rk_ord [0, 1, 2] (ls' := [(0, _), (1, _), (2, _)]) rfl ?_
                  first | exact absurd qz75 (by decide) | (have hk6 : pk6 (pg (I 31 (R 12 m 6)) L t) := (by first | exact Or.inl qz30 | exact Or.inr (Or.inl qz36) | exact Or.inr (Or.inr (Or.inl qz42)) | exact Or.inr (Or.inr (Or.inr (Or.inl qz48))) | exact Or.inr (Or.inr (Or.inr (Or.inr (Or.inl qz54)))) | exact Or.inr (Or.inr (Or.inr (Or.inr (Or.inr qz60))))); rw [hyes hk6]; exact cX11_readOne_k h7 (hlt hk6) hL hm)
                · skip
                  refine rk_vretU dX11_readOne_78 rfl ?_
                  first | exact absurd qz75 (by decide) | exact absurd (by decide) qz75 | (rw [hno (fun z => z.elim qz30 (fun z => z.elim qz36 (fun z => z.elim qz42 (fun z => z.elim qz48 (fun z => z.elim qz54 qz60)))))]; exact ⟨rfl, rfl⟩)
              · skip
                refine rk_iconst 1 dX11_readOne_63 (by decide) ?_
                refine rk_goto 68 dX11_readOne_64 (by decide) ?_
                refine rk_pc (pc' := 68) rfl ?_
                refine rk_p12_13 rk_kX11_149 (by decide) dX11_readOne_68 (fun Iz2 eIz2 => ?_)
                rw [pm_u13] at eIz2
                obtain rfl := eIz2.symm
                refine rk_aload_n 0 dX11_readOne_71 rfl rfl ?_
                refine rk_g12_13 rk_kX11_149 dX11_readOne_72 ?_
                rw [pm_r13]
                refine rk_if_eq 79 dX11_readOne_75 (by decide) (fun qz75 => ?_) (fun qz75 => ?_)
                · skip
                  refine rk_ord [0, 1, 2] (ls' := [(0, _), (1, _), (2, _)]) rfl ?_
                  first | exact absurd qz75 (by decide) | (have hk6 : pk6 (pg (I 31 (R 12 m 6)) L t) := (by first | exact Or.inl qz30 | exact Or.inr (Or.inl qz36) | exact Or.inr (Or.inr (Or.inl qz42)) | exact Or.inr (Or.inr (Or.inr (Or.inl qz48))) | exact Or.inr (Or.inr (Or.inr (Or.inr (Or.inl qz54)))) | exact Or.inr (Or.inr (Or.inr (Or.inr (Or.inr qz60))))); rw [hyes hk6]; exact cX11_readOne_k h7 (hlt hk6) hL hm)
                · skip
                  refine rk_vretU dX11_readOne_78 rfl ?_
                  first | exact absurd qz75 (by decide) | exact absurd (by decide) qz75 | (rw [hno (fun z => z.elim qz30 (fun z => z.elim qz36 (fun z => z.elim qz42 (fun z => z.elim qz48 (fun z => z.elim qz54 qz60)))))]; exact ⟨rfl, rfl⟩)
theorem ple_mn {P : Nat → Int32} {L : Nat} {c : Int32} {s : Nat × Bool} : s.1 ≤ (pn P L c s).1 := by
  simp only [pn]; split <;> simp
theorem ple_md {P : Nat → Int32} {L : Nat} {lo hi : Int32} {s : Nat × Bool} : s.1 ≤ (pd P L lo hi s).1.1 ∧ ((pd P L lo hi s).1.2 = false → s.1 + 1 ≤ (pd P L lo hi s).1.1) := by
  simp only [pd]; split
  · exact ⟨Nat.le_succ _, fun _ => Nat.le_refl _⟩
  · exact ⟨Nat.le_refl _, fun h => by cases h⟩
theorem ple_ml {P : Nat → Int32} {L : Nat} : ∀ k t v, t ≤ (pl P L k t v).1 := by
  intro k
  induction k with
  | zero => intro t v; exact Nat.le_refl _
  | succ k ih =>
    intro t v
    simp only [pl]
    split
    · exact Nat.le_trans (Nat.le_succ t) (ih _ _)
    · exact Nat.le_refl _
theorem ple_mN {P : Nat → Int32} {L : Nat} {s : Nat × Bool} : s.1 ≤ (pN P L s).1.1 ∧ ((pN P L s).1.2 = false → s.1 + 1 ≤ (pN P L s).1.1) := by
  simp only [pN]
  split
  · exact ple_md
  · next h =>
    have h2 : (pd P L 0 9 s).1.2 = false := by cases hh : (pd P L 0 9 s).1.2 with | false => rfl | true => exact absurd hh h
    have g := (ple_md (P := P) (L := L) (lo := 0) (hi := 9) (s := s)).2 h2
    have g2 := ple_ml (P := P) (L := L) 4 (pd P L 0 9 s).1.1 (pd P L 0 9 s).2.toNatClampNeg
    exact ⟨by show s.1 ≤ (pl _ _ _ _ _).1; omega, fun _ => by show s.1 + 1 ≤ (pl _ _ _ _ _).1; omega⟩
theorem ple_mo {P : Nat → Int32} {L b : Nat} {kd : Int32} {s : Nat × Bool} {J : Nat → Int32} (h : (po P L kd s J b).1.2 = false) : s.1 + 1 ≤ (po P L kd s J b).1.1 := by
  have M : ∀ (s' : Nat × Bool) (K : Nat → Int32), s.1 ≤ s'.1 → ((pN P L s').1, K).1.2 = false → s.1 + 1 ≤ ((pN P L s').1, K).1.1 := fun s' K h1 h2 => Nat.le_trans (Nat.succ_le_succ h1) (ple_mN.2 h2)
  have n1 : ∀ (c : Int32) (s' : Nat × Bool), s.1 ≤ s'.1 → s.1 ≤ (pn P L c s').1 := fun c s' h => Nat.le_trans h ple_mn
  have d1 : ∀ (lo hi : Int32) (s' : Nat × Bool), s.1 ≤ s'.1 → s.1 ≤ (pd P L lo hi s').1.1 := fun lo hi s' h => Nat.le_trans h ple_md.1
  have N1 : ∀ (s' : Nat × Bool), s.1 ≤ s'.1 → s.1 ≤ (pN P L s').1.1 := fun s' h => Nat.le_trans h ple_mN.1
  revert h
  unfold po
  split
  · exact M _ _ (n1 _ _ (N1 _ (Nat.le_refl _)))
  · split
    · exact M _ _ (n1 _ _ (N1 _ (n1 _ _ (d1 _ _ _ (n1 _ _ (d1 _ _ _ (Nat.le_refl _)))))))
    · split
      · exact M _ _ (n1 _ _ (d1 _ _ _ (Nat.le_refl _)))
      · exact M _ _ (Nat.le_refl _)
theorem pr_in {P : Nat → Int32} {L t mn : Nat} {J : Nat → Int32} (ht : t ≤ L) : (pr P L t mn J).1.1 ≤ L ∧ ((pr P L t mn J).1.2 = false → t + 2 ≤ (pr P L t mn J).1.1 ∧ (pr P L t mn J).2.1 = mn + 1) := by
  unfold pr
  split
  · next h =>
    have hlt : t + 1 ≤ L := pg_in (P := P) (fun z => by
      rw [z] at h
      rcases h with h | h | h | h | h | h <;> exact absurd h (by decide))
    refine ⟨?_, fun h => ⟨ple_mo h, rfl⟩⟩
    have ht0 : ((t + 1, false) : Nat × Bool).1 ≤ L := hlt
    show (po P L (pg P L t) (t + 1, false) (sp_u J (5 * mn) (pg P L t)) (5 * mn)).1.1 ≤ L
    unfold po
    split
    · show (pN P L _).1.1 ≤ L
      repeat (first | exact ht0 | refine ple_n (by decide) ?_ | refine ple_d (by decide) ?_ | refine ple_N ?_)
    · split
      · show (pN P L _).1.1 ≤ L
        repeat (first | exact ht0 | refine ple_n (by decide) ?_ | refine ple_d (by decide) ?_ | refine ple_N ?_)
      · split
        · show (pN P L _).1.1 ≤ L
          repeat (first | exact ht0 | refine ple_n (by decide) ?_ | refine ple_d (by decide) ?_ | refine ple_N ?_)
        · show (pN P L _).1.1 ≤ L
          repeat (first | exact ht0 | refine ple_n (by decide) ?_ | refine ple_d (by decide) ?_ | refine ple_N ?_)
  · exact ⟨ht, fun h => by cases h⟩
/-- the jobs from a place on: fuel, the place, whether a fault, how many jobs, the jobs -/
noncomputable def pf (P : Nat → Int32) (L : Nat) : Nat → (Nat × Bool) × Nat × (Nat → Int32) → (Nat × Bool) × Nat × (Nat → Int32)
  | 0, s => s
  | f + 1, s => if s.1.2 = false ∧ s.1.1 < L then (if (pn P L 59 s.1).2 = true then (pn P L 59 s.1, s.2) else pf P L f (pr P L (pn P L 59 s.1).1 s.2.1 s.2.2)) else s
noncomputable def pfo (P : Nat → Int32) (L : Nat) (J : Nat → Int32) : (Nat × Bool) × Nat × (Nat → Int32) := pf P L 81 (pr P L 0 0 J)
theorem pf_end {P : Nat → Int32} {L : Nat} : ∀ f s, ¬ (s.1.2 = false ∧ s.1.1 < L) → pf P L f s = s := by
  intro f s h
  cases f with
  | zero => rfl
  | succ f => exact if_neg h
theorem wi_t : wi true = 1 := rfl
theorem wi_f : wi false = 0 := rfl
theorem cX11_faultOf_l {m L : Nat} (h7 : I 12 m 7 = nI L) (hL : L ≤ 80) : ∀ (f : Nat) (s : (Nat × Bool) × Nat × (Nat → Int32)), s.1.1 ≤ L → L ≤ s.1.1 + f → (s.1.2 = false → 3 * s.2.1 ≤ s.1.1 + 1) → rk_Wp w l rk_mX11_faultOf 5 0 0 (rk_GJ w Sh (fun r I' R' => r = (if (pf (I 31 (R 12 m 6)) L f s).1.2 = true then nI (pf (I 31 (R 12 m 6)) L f s).1.1 else -6) ∧ R' = R ∧ I' = pm_st I m (R 12 m 10) (nI (pf (I 31 (R 12 m 6)) L f s).1.1) (wi (pf (I 31 (R 12 m 6)) L f s).1.2) (nI (pf (I 31 (R 12 m 6)) L f s).2.1) (pf (I 31 (R 12 m 6)) L f s).2.2)) 19 [(0, rk_a 12 m)] [] (Sh, 0, 0) (pm_st I m (R 12 m 10) (nI s.1.1) (wi s.1.2) (nI s.2.1) s.2.2) R := by
  have hb0 : ∀ b : Bool, wi b = 0 → b = false := fun b h => by cases b with | false => rfl | true => exact absurd h (by decide)
  have hb1 : ∀ b : Bool, ¬ wi b = 0 → b = true := fun b h => by cases b with | true => rfl | false => exact absurd rfl h
  have fin : ∀ (f : Nat) (s : (Nat × Bool) × Nat × (Nat → Int32)), ¬ (s.1.2 = false ∧ s.1.1 < L) → rk_Wp w l rk_mX11_faultOf 5 0 0 (rk_GJ w Sh (fun r I' R' => r = (if (pf (I 31 (R 12 m 6)) L f s).1.2 = true then nI (pf (I 31 (R 12 m 6)) L f s).1.1 else -6) ∧ R' = R ∧ I' = pm_st I m (R 12 m 10) (nI (pf (I 31 (R 12 m 6)) L f s).1.1) (wi (pf (I 31 (R 12 m 6)) L f s).1.2) (nI (pf (I 31 (R 12 m 6)) L f s).2.1) (pf (I 31 (R 12 m 6)) L f s).2.2)) 57 [(0, rk_a 12 m)] [] (Sh, 0, 0) (pm_st I m (R 12 m 10) (nI s.1.1) (wi s.1.2) (nI s.2.1) s.2.2) R := by
    intro f s h
    rw [pf_end f s h]
    refine rk_aload_n 0 dX11_faultOf_57 rfl rfl ?_
    refine rk_g12_13 rk_kX11_149 dX11_faultOf_58 ?_
    rw [pm_r13]
    refine rk_if_eq 71 dX11_faultOf_61 (by decide) (fun qz61 => ?_) (fun qz61 => ?_)
    · skip
      refine rk_bipush (-6) dX11_faultOf_71 (by decide) ?_
      refine rk_iretJ dX11_faultOf_73 rfl rfl ?_
      first | (rw [if_pos (hb1 _ qz61)]; exact ⟨rfl, rfl, rfl⟩) | (rw [if_neg (by rw [hb0 _ qz61]; decide)]; exact ⟨rfl, rfl, rfl⟩)
    · skip
      refine rk_aload_n 0 dX11_faultOf_64 rfl rfl ?_
      refine rk_g12_12 rk_kX11_146 dX11_faultOf_65 ?_
      rw [pm_r12]
      refine rk_goto 73 dX11_faultOf_68 (by decide) ?_
      refine rk_pc (pc' := 73) rfl ?_
      refine rk_iretJ dX11_faultOf_73 rfl rfl ?_
      first | (rw [if_pos (hb1 _ qz61)]; exact ⟨rfl, rfl, rfl⟩) | (rw [if_neg (by rw [hb0 _ qz61]; decide)]; exact ⟨rfl, rfl, rfl⟩)
  have fin2 : ∀ (f : Nat) (s : (Nat × Bool) × Nat × (Nat → Int32)), s.1.2 = true → rk_Wp w l rk_mX11_faultOf 5 0 0 (rk_GJ w Sh (fun r I' R' => r = (if (pf (I 31 (R 12 m 6)) L f s).1.2 = true then nI (pf (I 31 (R 12 m 6)) L f s).1.1 else -6) ∧ R' = R ∧ I' = pm_st I m (R 12 m 10) (nI (pf (I 31 (R 12 m 6)) L f s).1.1) (wi (pf (I 31 (R 12 m 6)) L f s).1.2) (nI (pf (I 31 (R 12 m 6)) L f s).2.1) (pf (I 31 (R 12 m 6)) L f s).2.2)) 19 [(0, rk_a 12 m)] [] (Sh, 0, 0) (pm_st I m (R 12 m 10) (nI s.1.1) (wi s.1.2) (nI s.2.1) s.2.2) R := by
    intro f s h
    refine rk_aload_n 0 dX11_faultOf_19 rfl rfl ?_
    refine rk_g12_13 rk_kX11_149 dX11_faultOf_20 ?_
    rw [pm_r13, h]
    refine rk_if_ne 57 dX11_faultOf_23 (by decide) (fun qz23 => ?_) (fun qz23 => ?_)
    · skip
      have g := fin f s (fun z => by rw [h] at z; cases z.1)
      rw [h] at g
      exact g
    · skip
      exact absurd qz23 (by decide)
  intro f
  induction f with
  | zero =>
    intro s h1 h2 h3
    refine rk_aload_n 0 dX11_faultOf_19 rfl rfl ?_
    refine rk_g12_13 rk_kX11_149 dX11_faultOf_20 ?_
    rw [pm_r13]
    refine rk_if_ne 57 dX11_faultOf_23 (by decide) (fun qz23 => ?_) (fun qz23 => ?_)
    · skip
      first | exact fin 0 s (fun z => by omega) | exact fin 0 s (fun z => by rw [hb1 _ qz23] at z; cases z.1)
    · skip
      refine rk_aload_n 0 dX11_faultOf_26 rfl rfl ?_
      refine rk_g12_12 rk_kX11_146 dX11_faultOf_27 ?_
      rw [pm_r12]
      refine rk_aload_n 0 dX11_faultOf_30 rfl rfl ?_
      refine rk_g12_7 rk_kX11_133 dX11_faultOf_31 ?_
      rw [pm_r7, h7]
      refine rk_pc (pc' := 34) rfl ?_
      refine rk_icmp_ge 57 dX11_faultOf_34 (by decide) (fun qz34 => ?_) (fun qz34 => ?_)
      · skip
        first | exact fin 0 s (fun z => by omega) | exact fin 0 s (fun z => by rw [hb1 _ qz23] at z; cases z.1)
      · skip
        exact absurd (nI_le (by omega) (by omega)) qz34
  | succ f ih =>
    intro s h1 h2 h3
    have e1 : (s.1.2 = false ∧ s.1.1 < L) → (pn (I 31 (R 12 m 6)) L 59 s.1).2 = true → pf (I 31 (R 12 m 6)) L (f + 1) s = (pn (I 31 (R 12 m 6)) L 59 s.1, s.2) := fun h g => (if_pos h).trans (if_pos g)
    have e2 : (s.1.2 = false ∧ s.1.1 < L) → (pn (I 31 (R 12 m 6)) L 59 s.1).2 = false → pf (I 31 (R 12 m 6)) L (f + 1) s = pf (I 31 (R 12 m 6)) L f (pr (I 31 (R 12 m 6)) L (pn (I 31 (R 12 m 6)) L 59 s.1).1 s.2.1 s.2.2) := fun h g => (if_pos h).trans (if_neg (by rw [g]; decide))
    have e3 : (pn (I 31 (R 12 m 6)) L 59 s.1).2 = false → (pn (I 31 (R 12 m 6)) L 59 s.1).1 = s.1.1 + 1 := fun h => by
      revert h
      unfold pn
      split
      · intro _; rfl
      · intro h; cases h
    have hle : (pn (I 31 (R 12 m 6)) L 59 s.1).1 ≤ L := ple_n (by decide) h1
    refine rk_aload_n 0 dX11_faultOf_19 rfl rfl ?_
    refine rk_g12_13 rk_kX11_149 dX11_faultOf_20 ?_
    rw [pm_r13]
    refine rk_if_ne 57 dX11_faultOf_23 (by decide) (fun qz23 => ?_) (fun qz23 => ?_)
    · skip
      first | exact fin (f + 1) s (fun z => absurd qz34 (nI_ge z.2 (by omega))) | exact fin (f + 1) s (fun z => by rw [hb1 _ qz23] at z; cases z.1)
    · skip
      refine rk_aload_n 0 dX11_faultOf_26 rfl rfl ?_
      refine rk_g12_12 rk_kX11_146 dX11_faultOf_27 ?_
      rw [pm_r12]
      refine rk_aload_n 0 dX11_faultOf_30 rfl rfl ?_
      refine rk_g12_7 rk_kX11_133 dX11_faultOf_31 ?_
      rw [pm_r7, h7]
      refine rk_pc (pc' := 34) rfl ?_
      refine rk_icmp_ge 57 dX11_faultOf_34 (by decide) (fun qz34 => ?_) (fun qz34 => ?_)
      · skip
        first | exact fin (f + 1) s (fun z => absurd qz34 (nI_ge z.2 (by omega))) | exact fin (f + 1) s (fun z => by rw [hb1 _ qz23] at z; cases z.1)
      · skip
        refine rk_aload_n 0 dX11_faultOf_37 rfl rfl ?_
        refine rk_bipush 59 dX11_faultOf_38 (by decide) ?_
        refine rk_cVv (cX11_need_s h7 h1 hL _) rk_eX11_need rfl ⟨rfl, rfl⟩ rk_kX11_162 dX11_faultOf_40 rfl (by decide) (Nat.le_of_ble_eq_true rfl) ⟨Nat.le_refl _, Nat.le_refl _⟩ (fun Iz1 Rz1 hz1 => ?_)
        obtain ⟨qhz1, eIz1⟩ := hz1
        obtain rfl := qhz1.symm
        obtain rfl := eIz1.symm
        refine rk_aload_n 0 dX11_faultOf_43 rfl rfl ?_
        refine rk_g12_13 rk_kX11_149 dX11_faultOf_44 ?_
        rw [pm_r13]
        refine rk_if_ne 19 dX11_faultOf_47 (by decide) (fun qz47 => ?_) (fun qz47 => ?_)
        · skip
          first | (have hwr := hb1 _ qz47; rw [e1 ⟨hb0 _ qz23, (nI_ltI (by omega) (by omega)).mp (Int32.not_le.mp qz34)⟩ hwr]; have g := fin2 f (pn (I 31 (R 12 m 6)) L 59 s.1, s.2) hwr; rw [pf_end f _ (fun z => by rw [show (pn (I 31 (R 12 m 6)) L 59 s.1, s.2).1.2 = true from hwr] at z; cases z.1)] at g; exact g) | (rw [e2 ⟨hb0 _ qz23, hlt2⟩ hf]; rcases Bool.eq_false_or_eq_true (pr (I 31 (R 12 m 6)) L (pn (I 31 (R 12 m 6)) L 59 s.1).1 s.2.1 s.2.2).1.2 with hpw | hpw; (have g := fin2 f _ hpw; rw [hpw] at g ⊢; exact g); (have g := ih _ hpr.1 (by have := hpr.2 hpw; omega) (fun z => by have := hpr.2 z; omega); rw [hpw] at g ⊢; exact g))
        · skip
          have hf := hb0 _ qz47
          have hg := e3 hf
          have hlt2 := (nI_ltI (by omega) (by omega)).mp (Int32.not_le.mp qz34)
          have hn := h3 (hb0 _ qz23)
          have hpr := pr_in (P := I 31 (R 12 m 6)) (mn := s.2.1) (J := s.2.2) hle
          rw [hf]
          refine rk_aload_n 0 dX11_faultOf_50 rfl rfl ?_
          refine rk_pc (pc' := 51) rfl ?_
          refine rk_cVv (cX11_readOne_s h7 hle hL (by omega)) rk_eX11_readOne rfl ⟨rfl, rfl⟩ rk_kX11_168 dX11_faultOf_51 rfl (by decide) (Nat.le_of_ble_eq_true rfl) ⟨Nat.le_refl _, Nat.le_refl _⟩ (fun Iz2 Rz2 hz2 => ?_)
          obtain ⟨qhz2, eIz2⟩ := hz2
          obtain rfl := qhz2.symm
          obtain rfl := eIz2.symm
          refine rk_goto 19 dX11_faultOf_54 (by decide) ?_
          first | (have hwr := hb1 _ qz47; rw [e1 ⟨hb0 _ qz23, (nI_ltI (by omega) (by omega)).mp (Int32.not_le.mp qz34)⟩ hwr]; have g := fin2 f (pn (I 31 (R 12 m 6)) L 59 s.1, s.2) hwr; rw [pf_end f _ (fun z => by rw [show (pn (I 31 (R 12 m 6)) L 59 s.1, s.2).1.2 = true from hwr] at z; cases z.1)] at g; exact g) | (rw [e2 ⟨hb0 _ qz23, hlt2⟩ hf]; rcases Bool.eq_false_or_eq_true (pr (I 31 (R 12 m 6)) L (pn (I 31 (R 12 m 6)) L 59 s.1).1 s.2.1 s.2.2).1.2 with hpw | hpw; (have g := fin2 f _ hpw; rw [hpw] at g ⊢; exact g); (have g := ih _ hpr.1 (by have := hpr.2 hpw; omega) (fun z => by have := hpr.2 z; omega); rw [hpw] at g ⊢; exact g))
theorem cX11_faultOf_s {m L : Nat} (h7 : I 12 m 7 = nI L) (hL : L ≤ 80) : rk_J w l rk_mX11_faultOf 5 [rk_a 12 m] Sh I R (fun r I' R' => r = (if (pfo (I 31 (R 12 m 6)) L (I 33 (R 12 m 10))).1.2 = true then nI (pfo (I 31 (R 12 m 6)) L (I 33 (R 12 m 10))).1.1 else -6) ∧ R' = R ∧ I' = pm_st I m (R 12 m 10) (nI (pfo (I 31 (R 12 m 6)) L (I 33 (R 12 m 10))).1.1) (wi (pfo (I 31 (R 12 m 6)) L (I 33 (R 12 m 10))).1.2) (nI (pfo (I 31 (R 12 m 6)) L (I 33 (R 12 m 10))).2.1) (pfo (I 31 (R 12 m 6)) L (I 33 (R 12 m 10))).2.2) := by
  have hpr := pr_in (P := I 31 (R 12 m 6)) (t := 0) (mn := 0) (J := I 33 (R 12 m 10)) (Nat.zero_le L)
  refine rk_bJ (ls := [(0, _)]) (by decide) rfl (Nat.le_of_ble_eq_true rfl) ?_
  refine rk_aload_n 0 dX11_faultOf_0 rfl rfl ?_
  refine rk_iconst 0 dX11_faultOf_1 (by decide) ?_
  refine rk_p12_12 rk_kX11_146 dX11_faultOf_2 (fun Iz1 eIz1 => ?_)
  rw [pm_i12 (a := R 12 m 10)] at eIz1
  obtain rfl := eIz1.symm
  refine rk_aload_n 0 dX11_faultOf_5 rfl rfl ?_
  refine rk_iconst 0 dX11_faultOf_6 (by decide) ?_
  refine rk_p12_11 rk_kX11_159 dX11_faultOf_7 (fun Iz2 eIz2 => ?_)
  rw [pm_u11] at eIz2
  obtain rfl := eIz2.symm
  refine rk_pc (pc' := 10) rfl ?_
  refine rk_aload_n 0 dX11_faultOf_10 rfl rfl ?_
  refine rk_iconst 0 dX11_faultOf_11 (by decide) ?_
  refine rk_p12_13 rk_kX11_149 (by decide) dX11_faultOf_12 (fun Iz3 eIz3 => ?_)
  rw [pm_u13] at eIz3
  obtain rfl := eIz3.symm
  refine rk_aload_n 0 dX11_faultOf_15 rfl rfl ?_
  refine rk_cVv (cX11_readOne_s (t := 0) (mn := 0) h7 (Nat.zero_le L) hL (by decide)) rk_eX11_readOne rfl ⟨rfl, rfl⟩ rk_kX11_168 dX11_faultOf_16 rfl (by decide) (Nat.le_of_ble_eq_true rfl) ⟨Nat.le_refl _, Nat.le_refl _⟩ (fun Iz4 Rz4 hz4 => ?_)
  obtain ⟨qhz4, eIz4⟩ := hz4
  obtain rfl := qhz4.symm
  obtain rfl := eIz4.symm
  exact cX11_faultOf_l h7 hL 81 (pr (I 31 (R 12 m 6)) L 0 0 (I 33 (R 12 m 10))) hpr.1 (by omega) (fun z => by have := hpr.2 z; omega)
theorem cX11_fault_s {m L : Nat} (h7 : I 12 m 7 = nI L) (hL : L ≤ 80) : rk_J w l rk_mX11_fault 6 [rk_a 12 m] Sh I R (fun r I' R' => r = (if (pfo (I 31 (R 12 m 6)) L (I 33 (R 12 m 10))).1.2 = true then nI (pfo (I 31 (R 12 m 6)) L (I 33 (R 12 m 10))).1.1 else -6) ∧ R' = R ∧ I' = pm_st I m (R 12 m 10) (nI (pfo (I 31 (R 12 m 6)) L (I 33 (R 12 m 10))).1.1) (wi (pfo (I 31 (R 12 m 6)) L (I 33 (R 12 m 10))).1.2) (nI (pfo (I 31 (R 12 m 6)) L (I 33 (R 12 m 10))).2.1) (pfo (I 31 (R 12 m 6)) L (I 33 (R 12 m 10))).2.2) := by
  refine rk_bJ (ls := [(0, _)]) (by decide) rfl (Nat.le_of_ble_eq_true rfl) ?_
  refine rk_aload_n 0 dX11_fault_0 rfl rfl ?_
  refine rk_cVi (cX11_faultOf_s h7 hL) rk_eX11_faultOf rfl ⟨rfl, rfl⟩ rk_kX11_173 dX11_fault_1 rfl (by decide) (Nat.le_of_ble_eq_true rfl) ⟨Nat.le_refl _, Nat.le_refl _⟩ (fun xz1 Iz1 Rz1 hz1 => ?_)
  refine rk_iretJ dX11_fault_4 rfl rfl ?_
  exact hz1
end MG

