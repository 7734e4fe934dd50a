section CR
variable {w : rk_W} {l : Launch} {Sh : rk_Sh} {I : rk_Mm} {R : rk_Rm}
theorem cX5_here_s {r t L : Nat} (h1 : I 6 r 1 = nI t) (hl : I 4 (R 6 r 0) 1 = nI L) (ht : t ≤ L) (hL : L ≤ 80) : rk_P w l rk_mX5_here 1 [rk_a 6 r] Sh I R (pg (I 15 (R 4 (R 6 r 0) 0)) L t) := by
  refine rk_bP (ls := [(0, _)]) (by decide) rfl (Nat.le_of_ble_eq_true rfl) ?_
  refine rk_aload_n 0 dX5_here_0 rfl rfl ?_
  refine rk_g6_1 rk_kX5_22 dX5_here_1 ?_
  rw [h1]
  refine rk_aload_n 0 dX5_here_4 rfl rfl ?_
  refine rk_g6_0 rk_kX5_12 dX5_here_5 ?_
  refine rk_g4_1 rk_kX5_33 dX5_here_8 ?_
  rw [hl]
  refine rk_icmp_ge 38 dX5_here_11 (by decide) (fun qz11 => ?_) (fun qz11 => ?_)
  · skip
    refine rk_iconst 0 dX5_here_38 (by decide) ?_
    refine rk_pc (pc' := 39) rfl ?_
    refine rk_iretP dX5_here_39 rfl rfl ?_
    first | exact (if_neg (fun z => absurd qz11 (nI_ge z (by omega)))).symm | exact (if_pos ((nI_ltI (by omega) (by omega)).mp (Int32.not_le.mp qz11))).symm
  · skip
    refine rk_aload_n 0 dX5_here_14 rfl rfl ?_
    refine rk_g6_1 rk_kX5_22 dX5_here_15 ?_
    rw [h1]
    refine rk_bipush 80 dX5_here_18 (by decide) ?_
    refine rk_icmp_ge 38 dX5_here_20 (by decide) (fun qz20 => ?_) (fun qz20 => ?_)
    · skip
      exact absurd qz20 (Int32.not_le.mpr (nI_lt (b := 80) (by have := (nI_ltI (by omega) (by omega)).mp (Int32.not_le.mp qz11); omega) (by decide)))
    · skip
      refine rk_aload_n 0 dX5_here_23 rfl rfl ?_
      refine rk_g6_0 rk_kX5_12 dX5_here_24 ?_
      refine rk_g4_0 rk_kX5_78 dX5_here_27 ?_
      refine rk_pc (pc' := 30) rfl ?_
      refine rk_aload_n 0 dX5_here_30 rfl rfl ?_
      refine rk_g6_1 rk_kX5_22 dX5_here_31 ?_
      rw [h1]
      have hlt : t < L := (nI_ltI (by omega) (by omega)).mp (Int32.not_le.mp qz11)
      refine rk_rn15 (t) dX5_here_34 (by first | rfl | decide | assumption | (simp only [rk_lit, nI_add, pk_mul, nI_1]; done) | (simp only [rk_lit, nI_add, pk_mul, nI_1]; congr 1; omega)) (by first | decide | assumption | omega) ?_
      refine rk_goto 39 dX5_here_35 (by decide) ?_
      refine rk_iretP dX5_here_39 rfl rfl ?_
      first | exact (if_neg (fun z => absurd qz11 (nI_ge z (by omega)))).symm | exact (if_pos ((nI_ltI (by omega) (by omega)).mp (Int32.not_le.mp qz11))).symm
theorem cX5_isDigit_s (x : Int32) : rk_P w l rk_mX5_isDigit 2 [rk_i x] Sh I R (sp_b (48 ≤ x ∧ x ≤ 57)) := by
  refine rk_bP (ls := [(0, _)]) (by decide) rfl (Nat.le_of_ble_eq_true rfl) ?_
  refine rk_iload_n 0 dX5_isDigit_0 rfl rfl ?_
  refine rk_bipush 48 dX5_isDigit_1 (by decide) ?_
  refine rk_bipush 57 dX5_isDigit_3 (by decide) ?_
  refine rk_cSNp (cX10_inRange_s _ _ _) rk_eX10_inRange rfl rk_nX5_89 dX5_isDigit_5 rfl (by decide) (Nat.le_of_ble_eq_true rfl) ⟨Nat.le_refl _, Nat.le_refl _⟩ ?_
  refine rk_iretP dX5_isDigit_8 rfl (by first | decide | exact rk_nz sp_bz) ?_
  rfl
theorem cX5_readSign_s {r t L : Nat} (h1 : I 6 r 1 = nI t) (hl : I 4 (R 6 r 0) 1 = nI L) (ht : t ≤ L) (hL : L ≤ 80) (c : Int32) : rk_J w l rk_mX5_readSign 2 [rk_a 6 r, rk_i c] Sh I R (fun x I' R' => R' = R ∧ ((pg (I 15 (R 4 (R 6 r 0) 0)) L t = c ∧ x = 1 ∧ I' = rk_uI I 6 r 1 (nI (t + 1))) ∨ (¬ pg (I 15 (R 4 (R 6 r 0) 0)) L t = c ∧ x = 0 ∧ I' = I))) := by
  refine rk_bJ (ls := [(0, _), (1, _)]) (by decide) rfl (Nat.le_of_ble_eq_true rfl) ?_
  refine rk_aload_n 0 dX5_readSign_0 rfl rfl ?_
  refine rk_cVp (cX5_here_s h1 hl ht hL) rk_eX5_here rfl ⟨rfl, rfl⟩ rk_kX5_40 dX5_readSign_1 rfl (by decide) (Nat.le_of_ble_eq_true rfl) ⟨Nat.le_refl _, Nat.le_refl _⟩ ?_
  refine rk_iload_n 1 dX5_readSign_4 rfl rfl ?_
  refine rk_icmp_eq 10 dX5_readSign_5 (by decide) (fun qz5 => ?_) (fun qz5 => ?_)
  · skip
    refine rk_aload_n 0 dX5_readSign_10 rfl rfl ?_
    refine rk_dup dX5_readSign_11 rfl ?_
    refine rk_g6_1 rk_kX5_22 dX5_readSign_12 ?_
    rw [h1]
    refine rk_pc (pc' := 15) rfl ?_
    refine rk_iconst 1 dX5_readSign_15 (by decide) ?_
    refine rk_iadd dX5_readSign_16 ?_
    rw [nI_1]
    refine rk_p6_1 rk_kX5_22 dX5_readSign_17 (fun Iz1 eIz1 => ?_)
    refine rk_iconst 1 dX5_readSign_20 (by decide) ?_
    refine rk_iretJ dX5_readSign_21 rfl (by decide) ?_
    exact ⟨rfl, Or.inl ⟨qz5, rfl, eIz1⟩⟩
  · skip
    refine rk_iconst 0 dX5_readSign_8 (by decide) ?_
    refine rk_iretJ dX5_readSign_9 rfl (by decide) ?_
    exact ⟨rfl, Or.inr ⟨qz5, rfl, rfl⟩⟩
end CR

