section MG
variable {w : rk_W} {l : Launch} {Sh : rk_Sh} {I : rk_Mm} {R : rk_Rm}
theorem pm_i12 {m a : Nat} {v : Int32} : rk_uI I 12 m 12 v = pm_st I m a v (I 12 m 13) (I 12 m 11) (I 33 a) := by
  have e : I = pm_st I m a (I 12 m 12) (I 12 m 13) (I 12 m 11) (I 33 a) := by
    have e1 : sp_u (sp_u (sp_u (I 12 m) 12 (I 12 m 12)) 13 (I 12 m 13)) 11 (I 12 m 11) = I 12 m := by
      funext j
      simp only [sp_u]
      by_cases h1 : j = 11
      · simp [h1]
      · by_cases h2 : j = 13
        · simp [h2]
        · by_cases h3 : j = 12
          · simp [h3]
          · simp [h1, h2, h3]
    rw [pm_st, md_self, e1, md_self]
  conv => lhs; rw [e]
  rw [pm_u12]
def pk6 (kd : Int32) : Prop := kd = 121 ∨ kd = 108 ∨ kd = 106 ∨ kd = 116 ∨ kd = 102 ∨ kd = 100
noncomputable def pr (P : Nat → Int32) (L t mn : Nat) (J : Nat → Int32) : (Nat × Bool) × Nat × (Nat → Int32) := @ite _ (pk6 (pg P L t)) (Classical.propDecidable _) ((po P L (pg P L t) (t + 1, false) (sp_u J (5 * mn) (pg P L t)) (5 * mn)).1, mn + 1, (po P L (pg P L t) (t + 1, false) (sp_u J (5 * mn) (pg P L t)) (5 * mn)).2) ((t, true), mn, sp_u J (5 * mn) (pg P L t))
theorem cX11_readOne_s {m t L mn : Nat} {J : Nat → Int32} (h7 : I 12 m 7 = nI L) (ht : t ≤ L) (hL : L ≤ 80) (hm : mn ≤ 39) : rk_U w l rk_mX11_readOne 4 [rk_a 12 m] Sh (pm_st I m (R 12 m 10) (nI t) (wi false) (nI mn) J) R (fun I' R' => R' = R ∧ I' = pm_st I m (R 12 m 10) (nI (pr (I 31 (R 12 m 6)) L t mn J).1.1) (wi (pr (I 31 (R 12 m 6)) L t mn J).1.2) (nI (pr (I 31 (R 12 m 6)) L t mn J).2.1) (pr (I 31 (R 12 m 6)) L t mn J).2.2) := by
  have hno : ¬ pk6 (pg (I 31 (R 12 m 6)) L t) → pr (I 31 (R 12 m 6)) L t mn J = _ := fun h => if_neg h
  have hyes : pk6 (pg (I 31 (R 12 m 6)) L t) → pr (I 31 (R 12 m 6)) L t mn J = _ := fun h => if_pos h
  have hlt : pk6 (pg (I 31 (R 12 m 6)) L t) → t + 1 ≤ L := fun h => pg_in (P := I 31 (R 12 m 6)) (fun z => by
    rw [z] at h
    rcases h with h | h | h | h | h | h <;> exact absurd h (by decide))
  refine rk_bU (ls := [(0, _)]) (by decide) rfl (Nat.le_of_ble_eq_true rfl) ?_
  refine rk_iconst 5 dX11_readOne_0 (by decide) ?_
  refine rk_aload_n 0 dX11_readOne_1 rfl rfl ?_
  refine rk_g12_11 rk_kX11_159 dX11_readOne_2 ?_
  rw [pm_r11]
  refine rk_imul dX11_readOne_5 ?_
  refine rk_istore_n 1 (ls' := [(1, _), (0, _)]) dX11_readOne_6 rfl (by decide) rfl ?_
  refine rk_aload_n 0 dX11_readOne_7 rfl rfl ?_
  refine rk_pc (pc' := 8) rfl ?_
  refine rk_cVp (cX11_sign_s (t := t) (L := L) pm_r12 (pm_r7.trans h7) ht hL) rk_eX11_sign rfl ⟨rfl, rfl⟩ rk_kX11_152 dX11_readOne_8 rfl (by decide) (Nat.le_of_ble_eq_true rfl) ⟨Nat.le_refl _, Nat.le_refl _⟩ ?_
  rw [pm_r31]
  refine rk_istore_n 2 (ls' := [(2, _), (1, _), (0, _)]) dX11_readOne_11 rfl (by decide) rfl ?_
  refine rk_aload_n 0 dX11_readOne_12 rfl rfl ?_
  refine rk_g12_10 rk_kX11_32 dX11_readOne_13 ?_
  refine rk_iload_n 1 dX11_readOne_16 rfl rfl ?_
  refine rk_iload_n 2 dX11_readOne_17 rfl rfl ?_
  refine rk_pc (pc' := 18) rfl ?_
  refine rk_sn33 (5 * mn) dX11_readOne_18 (by first | rfl | decide | assumption | (simp only [rk_lit, nI_add, pk_mul, nI_1]; done) | (simp only [rk_lit, nI_add, pk_mul, nI_1]; congr 1; omega)) (by first | decide | assumption | omega) (fun Iz1 eIz1 => ?_)
  rw [pm_u33] at eIz1
  obtain rfl := eIz1.symm
  refine rk_aload_n 0 dX11_readOne_19 rfl rfl ?_
  refine rk_aload_n 0 dX11_readOne_20 rfl rfl ?_
  refine rk_g12_13 rk_kX11_149 dX11_readOne_21 ?_
  rw [pm_r13]
  refine rk_if_ne 63 dX11_readOne_24 (by decide) (fun qz24 => ?_) (fun qz24 => ?_)
  · skip
    exact absurd rfl qz24
  · skip
    refine rk_iload_n 2 dX11_readOne_27 rfl rfl ?_
    refine rk_bipush 121 dX11_readOne_28 (by decide) ?_
    refine rk_pc (pc' := 30) rfl ?_
    refine rk_icmp_eq 67 dX11_readOne_30 (by decide) (fun qz30 => ?_) (fun qz30 => ?_)
    · skip
      refine rk_iconst 0 dX11_readOne_67 (by decide) ?_
      refine rk_p12_13 rk_kX11_149 (by decide) dX11_readOne_68 (fun Iz2 eIz2 => ?_)
      rw [pm_u13] at eIz2
      obtain rfl := eIz2.symm
      refine rk_aload_n 0 dX11_readOne_71 rfl rfl ?_
      refine rk_g12_13 rk_kX11_149 dX11_readOne_72 ?_
      rw [pm_r13]
      refine rk_if_eq 79 dX11_readOne_75 (by decide) (fun qz75 => ?_) (fun qz75 => ?_)
      · skip
        refine rk_ord [0, 1, 2] (ls' := [(0, _), (1, _), (2, _)]) rfl ?_
        first | exact absurd qz75 (by decide) | skip
        have hk6 : pk6 (pg (I 31 (R 12 m 6)) L t) := by first | exact Or.inl qz30 | exact Or.inr (Or.inl qz36) | exact Or.inr (Or.inr (Or.inl qz42)) | exact Or.inr (Or.inr (Or.inr (Or.inl qz48))) | exact Or.inr (Or.inr (Or.inr (Or.inr (Or.inl qz54)))) | exact Or.inr (Or.inr (Or.inr (Or.inr (Or.inr qz60))))
        rw [hyes hk6]
        exact cX11_readOne_k h7 (hlt hk6) hL hm
      · skip
        refine rk_vretU dX11_readOne_78 rfl ?_
        first | exact absurd qz75 (by decide) | exact absurd (by decide) qz75 | (rw [hno (fun z => z.elim qz30 (fun z => z.elim qz36 (fun z => z.elim qz42 (fun z => z.elim qz48 (fun z => z.elim qz54 qz60)))))]; exact ⟨rfl, rfl⟩)
    · skip
      refine rk_iload_n 2 dX11_readOne_33 rfl rfl ?_
      refine rk_bipush 108 dX11_readOne_34 (by decide) ?_
      refine rk_pc (pc' := 36) rfl ?_
      refine rk_icmp_eq 67 dX11_readOne_36 (by decide) (fun qz36 => ?_) (fun qz36 => ?_)
      · skip
        refine rk_iconst 0 dX11_readOne_67 (by decide) ?_
        refine rk_p12_13 rk_kX11_149 (by decide) dX11_readOne_68 (fun Iz2 eIz2 => ?_)
        rw [pm_u13] at eIz2
        obtain rfl := eIz2.symm
        refine rk_aload_n 0 dX11_readOne_71 rfl rfl ?_
        refine rk_g12_13 rk_kX11_149 dX11_readOne_72 ?_
        rw [pm_r13]
        refine rk_if_eq 79 dX11_readOne_75 (by decide) (fun qz75 => ?_) (fun qz75 => ?_)
        · skip
          refine rk_ord [0, 1, 2] (ls' := [(0, _), (1, _), (2, _)]) rfl ?_
          first | exact absurd qz75 (by decide) | skip
          have hk6 : pk6 (pg (I 31 (R 12 m 6)) L t) := by first | exact Or.inl qz30 | exact Or.inr (Or.inl qz36) | exact Or.inr (Or.inr (Or.inl qz42)) | exact Or.inr (Or.inr (Or.inr (Or.inl qz48))) | exact Or.inr (Or.inr (Or.inr (Or.inr (Or.inl qz54)))) | exact Or.inr (Or.inr (Or.inr (Or.inr (Or.inr qz60))))
          rw [hyes hk6]
          exact cX11_readOne_k h7 (hlt hk6) hL hm
        · skip
          refine rk_vretU dX11_readOne_78 rfl ?_
          first | exact absurd qz75 (by decide) | exact absurd (by decide) qz75 | (rw [hno (fun z => z.elim qz30 (fun z => z.elim qz36 (fun z => z.elim qz42 (fun z => z.elim qz48 (fun z => z.elim qz54 qz60)))))]; exact ⟨rfl, rfl⟩)
      · skip
        refine rk_iload_n 2 dX11_readOne_39 rfl rfl ?_
        refine rk_bipush 106 dX11_readOne_40 (by decide) ?_
        refine rk_pc (pc' := 42) rfl ?_
        refine rk_icmp_eq 67 dX11_readOne_42 (by decide) (fun qz42 => ?_) (fun qz42 => ?_)
        · skip
          refine rk_iconst 0 dX11_readOne_67 (by decide) ?_
          refine rk_p12_13 rk_kX11_149 (by decide) dX11_readOne_68 (fun Iz2 eIz2 => ?_)
          rw [pm_u13] at eIz2
          obtain rfl := eIz2.symm
          refine rk_aload_n 0 dX11_readOne_71 rfl rfl ?_
          refine rk_g12_13 rk_kX11_149 dX11_readOne_72 ?_
          rw [pm_r13]
          refine rk_if_eq 79 dX11_readOne_75 (by decide) (fun qz75 => ?_) (fun qz75 => ?_)
          · skip
            refine rk_ord [0, 1, 2] (ls' := [(0, _), (1, _), (2, _)]) rfl ?_
            first | exact absurd qz75 (by decide) | skip
            have hk6 : pk6 (pg (I 31 (R 12 m 6)) L t) := by first | exact Or.inl qz30 | exact Or.inr (Or.inl qz36) | exact Or.inr (Or.inr (Or.inl qz42)) | exact Or.inr (Or.inr (Or.inr (Or.inl qz48))) | exact Or.inr (Or.inr (Or.inr (Or.inr (Or.inl qz54)))) | exact Or.inr (Or.inr (Or.inr (Or.inr (Or.inr qz60))))
            rw [hyes hk6]
            exact cX11_readOne_k h7 (hlt hk6) hL hm
          · skip
            refine rk_vretU dX11_readOne_78 rfl ?_
            first | exact absurd qz75 (by decide) | exact absurd (by decide) qz75 | (rw [hno (fun z => z.elim qz30 (fun z => z.elim qz36 (fun z => z.elim qz42 (fun z => z.elim qz48 (fun z => z.elim qz54 qz60)))))]; exact ⟨rfl, rfl⟩)
        · skip
          refine rk_iload_n 2 dX11_readOne_45 rfl rfl ?_
          refine rk_bipush 116 dX11_readOne_46 (by decide) ?_
          refine rk_pc (pc' := 48) rfl ?_
          refine rk_icmp_eq 67 dX11_readOne_48 (by decide) (fun qz48 => ?_) (fun qz48 => ?_)
          · skip
            refine rk_iconst 0 dX11_readOne_67 (by decide) ?_
            refine rk_p12_13 rk_kX11_149 (by decide) dX11_readOne_68 (fun Iz2 eIz2 => ?_)
            rw [pm_u13] at eIz2
            obtain rfl := eIz2.symm
            refine rk_aload_n 0 dX11_readOne_71 rfl rfl ?_
            refine rk_g12_13 rk_kX11_149 dX11_readOne_72 ?_
            rw [pm_r13]
            refine rk_if_eq 79 dX11_readOne_75 (by decide) (fun qz75 => ?_) (fun qz75 => ?_)
            · skip
              refine rk_ord [0, 1, 2] (ls' := [(0, _), (1, _), (2, _)]) rfl ?_
              first | exact absurd qz75 (by decide) | skip
              have hk6 : pk6 (pg (I 31 (R 12 m 6)) L t) := by first | exact Or.inl qz30 | exact Or.inr (Or.inl qz36) | exact Or.inr (Or.inr (Or.inl qz42)) | exact Or.inr (Or.inr (Or.inr (Or.inl qz48))) | exact Or.inr (Or.inr (Or.inr (Or.inr (Or.inl qz54)))) | exact Or.inr (Or.inr (Or.inr (Or.inr (Or.inr qz60))))
              rw [hyes hk6]
              exact cX11_readOne_k h7 (hlt hk6) hL hm
            · skip
              refine rk_vretU dX11_readOne_78 rfl ?_
              first | exact absurd qz75 (by decide) | exact absurd (by decide) qz75 | (rw [hno (fun z => z.elim qz30 (fun z => z.elim qz36 (fun z => z.elim qz42 (fun z => z.elim qz48 (fun z => z.elim qz54 qz60)))))]; exact ⟨rfl, rfl⟩)
          · skip
            refine rk_iload_n 2 dX11_readOne_51 rfl rfl ?_
            refine rk_bipush 102 dX11_readOne_52 (by decide) ?_
            refine rk_pc (pc' := 54) rfl ?_
            refine rk_icmp_eq 67 dX11_readOne_54 (by decide) (fun qz54 => ?_) (fun qz54 => ?_)
            · skip
              refine rk_iconst 0 dX11_readOne_67 (by decide) ?_
              refine rk_p12_13 rk_kX11_149 (by decide) dX11_readOne_68 (fun Iz2 eIz2 => ?_)
              rw [pm_u13] at eIz2
              obtain rfl := eIz2.symm
              refine rk_aload_n 0 dX11_readOne_71 rfl rfl ?_
              refine rk_g12_13 rk_kX11_149 dX11_readOne_72 ?_
              rw [pm_r13]
              refine rk_if_eq 79 dX11_readOne_75 (by decide) (fun qz75 => ?_) (fun qz75 => ?_)
              · skip
                refine rk_ord [0, 1, 2] (ls' := [(0, _), (1, _), (2, _)]) rfl ?_
                first | exact absurd qz75 (by decide) | skip
                have hk6 : pk6 (pg (I 31 (R 12 m 6)) L t) := by first | exact Or.inl qz30 | exact Or.inr (Or.inl qz36) | exact Or.inr (Or.inr (Or.inl qz42)) | exact Or.inr (Or.inr (Or.inr (Or.inl qz48))) | exact Or.inr (Or.inr (Or.inr (Or.inr (Or.inl qz54)))) | exact Or.inr (Or.inr (Or.inr (Or.inr (Or.inr qz60))))
                rw [hyes hk6]
                exact cX11_readOne_k h7 (hlt hk6) hL hm
              · skip
                refine rk_vretU dX11_readOne_78 rfl ?_
                first | exact absurd qz75 (by decide) | exact absurd (by decide) qz75 | (rw [hno (fun z => z.elim qz30 (fun z => z.elim qz36 (fun z => z.elim qz42 (fun z => z.elim qz48 (fun z => z.elim qz54 qz60)))))]; exact ⟨rfl, rfl⟩)
            · skip
              refine rk_iload_n 2 dX11_readOne_57 rfl rfl ?_
              refine rk_bipush 100 dX11_readOne_58 (by decide) ?_
              refine rk_pc (pc' := 60) rfl ?_
              refine rk_icmp_eq 67 dX11_readOne_60 (by decide) (fun qz60 => ?_) (fun qz60 => ?_)
              · skip
                refine rk_iconst 0 dX11_readOne_67 (by decide) ?_
                refine rk_p12_13 rk_kX11_149 (by decide) dX11_readOne_68 (fun Iz2 eIz2 => ?_)
                rw [pm_u13] at eIz2
                obtain rfl := eIz2.symm
                refine rk_aload_n 0 dX11_readOne_71 rfl rfl ?_
                refine rk_g12_13 rk_kX11_149 dX11_readOne_72 ?_
                rw [pm_r13]
                refine rk_if_eq 79 dX11_readOne_75 (by decide) (fun qz75 => ?_) (fun qz75 => ?_)
                · skip
                  refine rk_ord [0, 1, 2] (ls' := [(0, _), (1, _), (2, _)]) rfl ?_
                  first | exact absurd qz75 (by decide) | skip
                  have hk6 : pk6 (pg (I 31 (R 12 m 6)) L t) := by first | exact Or.inl qz30 | exact Or.inr (Or.inl qz36) | exact Or.inr (Or.inr (Or.inl qz42)) | exact Or.inr (Or.inr (Or.inr (Or.inl qz48))) | exact Or.inr (Or.inr (Or.inr (Or.inr (Or.inl qz54)))) | exact Or.inr (Or.inr (Or.inr (Or.inr (Or.inr qz60))))
                  rw [hyes hk6]
                  exact cX11_readOne_k h7 (hlt hk6) hL hm
                · skip
                  refine rk_vretU dX11_readOne_78 rfl ?_
                  first | exact absurd qz75 (by decide) | exact absurd (by decide) qz75 | (rw [hno (fun z => z.elim qz30 (fun z => z.elim qz36 (fun z => z.elim qz42 (fun z => z.elim qz48 (fun z => z.elim qz54 qz60)))))]; exact ⟨rfl, rfl⟩)
              · skip
                refine rk_iconst 1 dX11_readOne_63 (by decide) ?_
                refine rk_goto 68 dX11_readOne_64 (by decide) ?_
                refine rk_pc (pc' := 68) rfl ?_
                refine rk_p12_13 rk_kX11_149 (by decide) dX11_readOne_68 (fun Iz2 eIz2 => ?_)
                rw [pm_u13] at eIz2
                obtain rfl := eIz2.symm
                refine rk_aload_n 0 dX11_readOne_71 rfl rfl ?_
                refine rk_g12_13 rk_kX11_149 dX11_readOne_72 ?_
                rw [pm_r13]
                refine rk_if_eq 79 dX11_readOne_75 (by decide) (fun qz75 => ?_) (fun qz75 => ?_)
                · skip
                  refine rk_ord [0, 1, 2] (ls' := [(0, _), (1, _), (2, _)]) rfl ?_
                  first | exact absurd qz75 (by decide) | skip
                  have hk6 : pk6 (pg (I 31 (R 12 m 6)) L t) := by first | exact Or.inl qz30 | exact Or.inr (Or.inl qz36) | exact Or.inr (Or.inr (Or.inl qz42)) | exact Or.inr (Or.inr (Or.inr (Or.inl qz48))) | exact Or.inr (Or.inr (Or.inr (Or.inr (Or.inl qz54)))) | exact Or.inr (Or.inr (Or.inr (Or.inr (Or.inr qz60))))
                  rw [hyes hk6]
                  exact cX11_readOne_k h7 (hlt hk6) hL hm
                · skip
                  refine rk_vretU dX11_readOne_78 rfl ?_
                  first | exact absurd qz75 (by decide) | exact absurd (by decide) qz75 | (rw [hno (fun z => z.elim qz30 (fun z => z.elim qz36 (fun z => z.elim qz42 (fun z => z.elim qz48 (fun z => z.elim qz54 qz60)))))]; exact ⟨rfl, rfl⟩)
end MG

