section CR
variable {w : rk_W} {l : Launch} {Sh : rk_Sh} {I : rk_Mm} {R : rk_Rm}
theorem cX5_here_s {r t L : Nat} (h1 : I 6 r 1 = nI t) (hl : I 4 (R 6 r 0) 1 = nI L) (ht : t ≤ L) (hL : L ≤ 80) : rk_P w l rk_mX5_here 1 [rk_a 6 r] Sh I R (pg (I 15 (R 4 (R 6 r 0) 0)) L t) := by
  refine rk_bP (ls := [(0, _)]) (by decide) rfl (Nat.le_of_ble_eq_true rfl) ?_
  refine rk_aload_n 0 dX5_here_0 rfl rfl ?_
  refine rk_g6_1 rk_kX5_22 dX5_here_1 ?_
  rw [h1]
  refine rk_aload_n 0 dX5_here_4 rfl rfl ?_
  refine rk_g6_0 rk_kX5_12 dX5_here_5 ?_
  refine rk_g4_1 rk_kX5_33 dX5_here_8 ?_
  rw [hl]
  refine rk_icmp_ge 38 dX5_here_11 (by decide) (fun qz11 => ?_) (fun qz11 => ?_)
  · skip
    refine rk_iconst 0 dX5_here_38 (by decide) ?_
    refine rk_pc (pc' := 39) rfl ?_
    refine rk_iretP dX5_here_39 rfl rfl ?_
    first | exact (if_neg (fun z => absurd qz11 (nI_ge z (by omega)))).symm | exact (if_pos ((nI_ltI (by omega) (by omega)).mp (Int32.not_le.mp qz11))).symm
  · skip
    refine rk_aload_n 0 dX5_here_14 rfl rfl ?_
    refine rk_g6_1 rk_kX5_22 dX5_here_15 ?_
    rw [h1]
    refine rk_bipush 80 dX5_here_18 (by decide) ?_
    refine rk_icmp_ge 38 dX5_here_20 (by decide) (fun qz20 => ?_) (fun qz20 => ?_)
    · skip
      exact absurd qz20 (Int32.not_le.mpr (nI_lt (b := 80) (by have := (nI_ltI (by omega) (by omega)).mp (Int32.not_le.mp qz11); omega) (by decide)))
    · skip
      refine rk_aload_n 0 dX5_here_23 rfl rfl ?_
      refine rk_g6_0 rk_kX5_12 dX5_here_24 ?_
      refine rk_g4_0 rk_kX5_78 dX5_here_27 ?_
      refine rk_pc (pc' := 30) rfl ?_
      refine rk_aload_n 0 dX5_here_30 rfl rfl ?_
      refine rk_g6_1 rk_kX5_22 dX5_here_31 ?_
      rw [h1]
      have hlt : t < L := (nI_ltI (by omega) (by omega)).mp (Int32.not_le.mp qz11)
      refine rk_rn15 (t) dX5_here_34 (by first | rfl | decide | assumption | (simp only [rk_lit, nI_add, pk_mul, nI_1]; done) | (simp only [rk_lit, nI_add, pk_mul, nI_1]; congr 1; omega)) (by first | decide | assumption | omega) ?_
      refine rk_goto 39 dX5_here_35 (by decide) ?_
      refine rk_iretP dX5_here_39 rfl rfl ?_
      first | exact (if_neg (fun z => absurd qz11 (nI_ge z (by omega)))).symm | exact (if_pos ((nI_ltI (by omega) (by omega)).mp (Int32.not_le.mp qz11))).symm
theorem cX5_isDigit_s (x : Int32) : rk_P w l rk_mX5_isDigit 2 [rk_i x] Sh I R (sp_b (48 ≤ x ∧ x ≤ 57)) := by
  refine rk_bP (ls := [(0, _)]) (by decide) rfl (Nat.le_of_ble_eq_true rfl) ?_
  refine rk_iload_n 0 dX5_isDigit_0 rfl rfl ?_
  refine rk_bipush 48 dX5_isDigit_1 (by decide) ?_
  refine rk_bipush 57 dX5_isDigit_3 (by decide) ?_
  refine rk_cSNp (cX10_inRange_s _ _ _) rk_eX10_inRange rfl rk_nX5_89 dX5_isDigit_5 rfl (by decide) (Nat.le_of_ble_eq_true rfl) ⟨Nat.le_refl _, Nat.le_refl _⟩ ?_
  refine rk_iretP dX5_isDigit_8 rfl (by first | decide | exact rk_nz sp_bz) ?_
  rfl
theorem cX5_readSign_s {r t L : Nat} (h1 : I 6 r 1 = nI t) (hl : I 4 (R 6 r 0) 1 = nI L) (ht : t ≤ L) (hL : L ≤ 80) (c : Int32) : rk_J w l rk_mX5_readSign 2 [rk_a 6 r, rk_i c] Sh I R (fun x I' R' => R' = R ∧ ((pg (I 15 (R 4 (R 6 r 0) 0)) L t = c ∧ x = 1 ∧ I' = rk_uI I 6 r 1 (nI (t + 1))) ∨ (¬ pg (I 15 (R 4 (R 6 r 0) 0)) L t = c ∧ x = 0 ∧ I' = I))) := by
  refine rk_bJ (ls := [(0, _), (1, _)]) (by decide) rfl (Nat.le_of_ble_eq_true rfl) ?_
  refine rk_aload_n 0 dX5_readSign_0 rfl rfl ?_
  refine rk_cVp (cX5_here_s h1 hl ht hL) rk_eX5_here rfl ⟨rfl, rfl⟩ rk_kX5_40 dX5_readSign_1 rfl (by decide) (Nat.le_of_ble_eq_true rfl) ⟨Nat.le_refl _, Nat.le_refl _⟩ ?_
  refine rk_iload_n 1 dX5_readSign_4 rfl rfl ?_
  refine rk_icmp_eq 10 dX5_readSign_5 (by decide) (fun qz5 => ?_) (fun qz5 => ?_)
  · skip
    refine rk_aload_n 0 dX5_readSign_10 rfl rfl ?_
    refine rk_dup dX5_readSign_11 rfl ?_
    refine rk_g6_1 rk_kX5_22 dX5_readSign_12 ?_
    rw [h1]
    refine rk_pc (pc' := 15) rfl ?_
    refine rk_iconst 1 dX5_readSign_15 (by decide) ?_
    refine rk_iadd dX5_readSign_16 ?_
    rw [nI_1]
    refine rk_p6_1 rk_kX5_22 dX5_readSign_17 (fun Iz1 eIz1 => ?_)
    refine rk_iconst 1 dX5_readSign_20 (by decide) ?_
    refine rk_iretJ dX5_readSign_21 rfl (by decide) ?_
    exact ⟨rfl, Or.inl ⟨qz5, rfl, eIz1⟩⟩
  · skip
    refine rk_iconst 0 dX5_readSign_8 (by decide) ?_
    refine rk_iretJ dX5_readSign_9 rfl (by decide) ?_
    exact ⟨rfl, Or.inr ⟨qz5, rfl, rfl⟩⟩
theorem cX5_keep_s {r fd : Nat} (h4 : I 6 r 4 = nI fd) (hf : fd ≤ 3) (x : Int32) : rk_U w l rk_mX5_keep 1 [rk_a 6 r, rk_i x] Sh I R (fun I' R' => R' = R ∧ I' = rk_uI (rk_uI I 16 (R 6 r 3) fd x) 6 r 4 (nI (fd + 1))) := by
  refine rk_bU (ls := [(0, _), (1, _)]) (by decide) rfl (Nat.le_of_ble_eq_true rfl) ?_
  refine rk_aload_n 0 dX5_keep_0 rfl rfl ?_
  refine rk_g6_4 rk_kX5_56 dX5_keep_1 ?_
  rw [h4]
  refine rk_iconst 4 dX5_keep_4 (by decide) ?_
  refine rk_icmp_ge 28 dX5_keep_5 (by decide) (fun qz5 => ?_) (fun qz5 => ?_)
  · skip
    exact absurd qz5 (nI_ge (b := 4) (by omega) (by decide))
  · skip
    refine rk_aload_n 0 dX5_keep_8 rfl rfl ?_
    refine rk_g6_3 rk_kX5_18 dX5_keep_9 ?_
    refine rk_aload_n 0 dX5_keep_12 rfl rfl ?_
    refine rk_pc (pc' := 13) rfl ?_
    refine rk_g6_4 rk_kX5_56 dX5_keep_13 ?_
    rw [h4]
    refine rk_iload_n 1 dX5_keep_16 rfl rfl ?_
    refine rk_sn16 (fd) dX5_keep_17 (by first | rfl | decide | assumption | (simp only [rk_lit, nI_add, pk_mul, nI_1]; done) | (simp only [rk_lit, nI_add, pk_mul, nI_1]; congr 1; omega)) (by first | decide | assumption | omega) (fun Iz1 eIz1 => ?_)
    refine rk_aload_n 0 dX5_keep_18 rfl rfl ?_
    refine rk_dup dX5_keep_19 rfl ?_
    refine rk_g6_4 rk_kX5_56 dX5_keep_20 ?_
    rw [show Iz1 6 r 4 = nI fd by rw [eIz1]; exact (congrFun (md_uc (by decide)) 4).trans h4]
    refine rk_pc (pc' := 23) rfl ?_
    refine rk_iconst 1 dX5_keep_23 (by decide) ?_
    refine rk_iadd dX5_keep_24 ?_
    rw [nI_1]
    refine rk_p6_4 rk_kX5_56 dX5_keep_25 (fun Iz2 eIz2 => ?_)
    refine rk_vretU dX5_keep_28 rfl ?_
    exact ⟨rfl, by rw [eIz2, eIz1]⟩
theorem cX5_rewind_s {r : Nat} : rk_U w l rk_mX5_rewind 1 [rk_a 6 r] Sh I R (fun I' R' => R' = R ∧ I' = rk_uI I 6 r 1 0) := by
  refine rk_bU (ls := [(0, _)]) (by decide) rfl (Nat.le_of_ble_eq_true rfl) ?_
  refine rk_aload_n 0 dX5_rewind_0 rfl rfl ?_
  refine rk_iconst 0 dX5_rewind_1 (by decide) ?_
  refine rk_p6_1 rk_kX5_22 dX5_rewind_2 (fun Iz1 eIz1 => ?_)
  refine rk_vretU dX5_rewind_5 rfl ?_
  exact ⟨rfl, eIz1⟩
theorem cX5_readDigit_s {r t L fd : Nat} (h1 : I 6 r 1 = nI t) (hl : I 4 (R 6 r 0) 1 = nI L) (ht : t ≤ L) (hL : L ≤ 80) (h4 : I 6 r 4 = nI fd) (hf : fd ≤ 3) (lo hi : Int32) : rk_J w l rk_mX5_readDigit 2 [rk_a 6 r, rk_i lo, rk_i hi] Sh I R (fun x I' R' => R' = R ∧ (((lo ≤ pg (I 15 (R 4 (R 6 r 0) 0)) L t ∧ pg (I 15 (R 4 (R 6 r 0) 0)) L t ≤ hi) ∧ x = 1 ∧ I' = rk_uI (rk_uI (rk_uI I 16 (R 6 r 3) fd (pg (I 15 (R 4 (R 6 r 0) 0)) L t - 48)) 6 r 4 (nI (fd + 1))) 6 r 1 (nI (t + 1))) ∨ (¬ (lo ≤ pg (I 15 (R 4 (R 6 r 0) 0)) L t ∧ pg (I 15 (R 4 (R 6 r 0) 0)) L t ≤ hi) ∧ x = 0 ∧ I' = I))) := by
  refine rk_bJ (ls := [(0, _), (1, _), (2, _)]) (by decide) rfl (Nat.le_of_ble_eq_true rfl) ?_
  refine rk_aload_n 0 dX5_readDigit_0 rfl rfl ?_
  refine rk_cVp (cX5_here_s h1 hl ht hL) rk_eX5_here rfl ⟨rfl, rfl⟩ rk_kX5_40 dX5_readDigit_1 rfl (by decide) (Nat.le_of_ble_eq_true rfl) ⟨Nat.le_refl _, Nat.le_refl _⟩ ?_
  refine rk_iload_n 1 dX5_readDigit_4 rfl rfl ?_
  refine rk_iload_n 2 dX5_readDigit_5 rfl rfl ?_
  refine rk_cSNp (cX10_inRange_s _ _ _) rk_eX10_inRange rfl rk_nX5_89 dX5_readDigit_6 rfl (by decide) (Nat.le_of_ble_eq_true rfl) ⟨Nat.le_refl _, Nat.le_refl _⟩ ?_
  refine rk_if_ne 14 dX5_readDigit_9 (by decide) (fun qz9 => ?_) (fun qz9 => ?_)
  · skip
    refine rk_aload_n 0 dX5_readDigit_14 rfl rfl ?_
    refine rk_pc (pc' := 15) rfl ?_
    refine rk_aload_n 0 dX5_readDigit_15 rfl rfl ?_
    refine rk_cVp (cX5_here_s h1 hl ht hL) rk_eX5_here rfl ⟨rfl, rfl⟩ rk_kX5_40 dX5_readDigit_16 rfl (by decide) (Nat.le_of_ble_eq_true rfl) ⟨Nat.le_refl _, Nat.le_refl _⟩ ?_
    refine rk_bipush 48 dX5_readDigit_19 (by decide) ?_
    refine rk_isub dX5_readDigit_21 ?_
    refine rk_cVv (cX5_keep_s h4 hf _) rk_eX5_keep rfl ⟨rfl, rfl⟩ rk_kX5_93 dX5_readDigit_22 rfl (by decide) (Nat.le_of_ble_eq_true rfl) ⟨Nat.le_refl _, Nat.le_refl _⟩ (fun Iz1 Rz1 hz1 => ?_)
    obtain ⟨qhz1, eIz1⟩ := hz1
    obtain rfl := qhz1.symm
    refine rk_aload_n 0 dX5_readDigit_25 rfl rfl ?_
    refine rk_pc (pc' := 26) rfl ?_
    refine rk_dup dX5_readDigit_26 rfl ?_
    refine rk_g6_1 rk_kX5_22 dX5_readDigit_27 ?_
    rw [show Iz1 6 r 1 = nI t by rw [eIz1, rk_uI_n (by omega)]; exact (congrFun (md_uc (by decide)) 1).trans h1]
    refine rk_iconst 1 dX5_readDigit_30 (by decide) ?_
    refine rk_iadd dX5_readDigit_31 ?_
    rw [nI_1]
    refine rk_p6_1 rk_kX5_22 dX5_readDigit_32 (fun Iz2 eIz2 => ?_)
    refine rk_iconst 1 dX5_readDigit_35 (by decide) ?_
    refine rk_pc (pc' := 36) rfl ?_
    refine rk_iretJ dX5_readDigit_36 rfl (by decide) ?_
    exact ⟨rfl, Or.inl ⟨sp_bt qz9, rfl, by rw [eIz2, eIz1]⟩⟩
  · skip
    refine rk_iconst 0 dX5_readDigit_12 (by decide) ?_
    refine rk_iretJ dX5_readDigit_13 rfl (by decide) ?_
    exact ⟨rfl, Or.inr ⟨sp_bf qz9, rfl, rfl⟩⟩
end CR

