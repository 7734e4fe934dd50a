section ML
variable {w : rk_W} {l : Launch} {Sh : rk_Sh} {I : rk_Mm} {R : rk_Rm}
theorem cX11_in_s (v lo hi : Int32) : rk_P w l rk_mX11_in 1 [rk_i v, rk_i lo, rk_i hi] Sh I R (sp_b (lo ≤ v ∧ v ≤ hi)) := by
  refine rk_bP (ls := [(0, _), (1, _), (2, _)]) (by decide) rfl (Nat.le_of_ble_eq_true rfl) ?_
  refine rk_iload_n 0 dX11_in_0 rfl rfl ?_
  refine rk_iload_n 1 dX11_in_1 rfl rfl ?_
  refine rk_icmp_lt 14 dX11_in_2 (by decide) (fun qz2 => ?_) (fun qz2 => ?_)
  · skip
    refine rk_iconst 0 dX11_in_14 (by decide) ?_
    refine rk_iretP dX11_in_15 rfl (by decide) ?_
    first | exact sp_b1 ⟨Int32.not_lt.mp qz2, Int32.not_lt.mp qz7⟩ | exact sp_b0 (fun h => Int32.not_lt.mpr h.1 qz2) | exact sp_b0 (fun h => Int32.not_lt.mpr h.2 qz7)
  · skip
    refine rk_iload_n 0 dX11_in_5 rfl rfl ?_
    refine rk_iload_n 2 dX11_in_6 rfl rfl ?_
    refine rk_icmp_gt 14 dX11_in_7 (by decide) (fun qz7 => ?_) (fun qz7 => ?_)
    · skip
      refine rk_iconst 0 dX11_in_14 (by decide) ?_
      refine rk_pc (pc' := 15) rfl ?_
      refine rk_iretP dX11_in_15 rfl (by decide) ?_
      first | exact sp_b1 ⟨Int32.not_lt.mp qz2, Int32.not_lt.mp qz7⟩ | exact sp_b0 (fun h => Int32.not_lt.mpr h.1 qz2) | exact sp_b0 (fun h => Int32.not_lt.mpr h.2 qz7)
    · skip
      refine rk_iconst 1 dX11_in_10 (by decide) ?_
      refine rk_goto 15 dX11_in_11 (by decide) ?_
      refine rk_iretP dX11_in_15 rfl (by decide) ?_
      first | exact sp_b1 ⟨Int32.not_lt.mp qz2, Int32.not_lt.mp qz7⟩ | exact sp_b0 (fun h => Int32.not_lt.mpr h.1 qz2) | exact sp_b0 (fun h => Int32.not_lt.mpr h.2 qz7)
theorem cX11_up_s (v b : Int32) (h : ¬ b = 0) : rk_P w l rk_mX11_up 1 [rk_i v, rk_i b] Sh I R (sp_up v b) := by
  refine rk_bP (ls := [(0, _), (1, _)]) (by decide) rfl (Nat.le_of_ble_eq_true rfl) ?_
  refine rk_iload_n 0 dX11_up_0 rfl rfl ?_
  refine rk_iload_n 1 dX11_up_1 rfl rfl ?_
  refine rk_iadd dX11_up_2 ?_
  refine rk_iconst 1 dX11_up_3 (by decide) ?_
  refine rk_isub dX11_up_4 ?_
  refine rk_iload_n 1 dX11_up_5 rfl rfl ?_
  refine rk_pc (pc' := 6) rfl ?_
  refine rk_idiv dX11_up_6 (by exact h) ?_
  refine rk_iretP dX11_up_7 rfl rfl ?_
  rfl
theorem cX11_isFibre_s (f : Int32) : rk_P w l rk_mX11_isFibre 2 [rk_i f] Sh I R (sp_b (0 ≤ f ∧ f ≤ 2)) := by
  refine rk_bP (ls := [(0, _)]) (by decide) rfl (Nat.le_of_ble_eq_true rfl) ?_
  refine rk_iload_n 0 dX11_isFibre_0 rfl rfl ?_
  refine rk_iconst 0 dX11_isFibre_1 (by decide) ?_
  refine rk_iconst 2 dX11_isFibre_2 (by decide) ?_
  refine rk_cSp (cX11_in_s _ _ _) rk_eX11_in rfl rk_kX11_43 dX11_isFibre_3 rfl (by decide) (Nat.le_of_ble_eq_true rfl) ⟨Nat.le_refl _, Nat.le_refl _⟩ ?_
  refine rk_iretP dX11_isFibre_6 rfl (by exact rk_nz sp_bz) ?_
  rfl
theorem cX11_areStrands_s (s y : Int32) : rk_P w l rk_mX11_areStrands 2 [rk_i s, rk_i y] Sh I R (sp_b ((3 ≤ s ∧ s ≤ 4) ∧ (1 ≤ y ∧ y ≤ 40))) := by
  refine rk_bP (ls := [(0, _), (1, _)]) (by decide) rfl (Nat.le_of_ble_eq_true rfl) ?_
  refine rk_iload_n 0 dX11_areStrands_0 rfl rfl ?_
  refine rk_iconst 3 dX11_areStrands_1 (by decide) ?_
  refine rk_iconst 4 dX11_areStrands_2 (by decide) ?_
  refine rk_cSp (cX11_in_s _ _ _) rk_eX11_in rfl rk_kX11_43 dX11_areStrands_3 rfl (by decide) (Nat.le_of_ble_eq_true rfl) ⟨Nat.le_refl _, Nat.le_refl _⟩ ?_
  refine rk_if_eq 23 dX11_areStrands_6 (by decide) (fun qz6 => ?_) (fun qz6 => ?_)
  · skip
    refine rk_iconst 0 dX11_areStrands_23 (by decide) ?_
    refine rk_iretP dX11_areStrands_24 rfl (by decide) ?_
    first | exact sp_b0 (fun z => sp_bf qz6 z.1) | exact sp_b0 (fun z => sp_bf qz16 z.2) | exact sp_b1 ⟨sp_bt qz6, sp_bt qz16⟩
  · skip
    refine rk_iload_n 1 dX11_areStrands_9 rfl rfl ?_
    refine rk_pc (pc' := 10) rfl ?_
    refine rk_iconst 1 dX11_areStrands_10 (by decide) ?_
    refine rk_bipush 40 dX11_areStrands_11 (by decide) ?_
    refine rk_cSp (cX11_in_s _ _ _) rk_eX11_in rfl rk_kX11_43 dX11_areStrands_13 rfl (by decide) (Nat.le_of_ble_eq_true rfl) ⟨Nat.le_refl _, Nat.le_refl _⟩ ?_
    refine rk_if_eq 23 dX11_areStrands_16 (by decide) (fun qz16 => ?_) (fun qz16 => ?_)
    · skip
      refine rk_iconst 0 dX11_areStrands_23 (by decide) ?_
      refine rk_iretP dX11_areStrands_24 rfl (by decide) ?_
      first | exact sp_b0 (fun z => sp_bf qz6 z.1) | exact sp_b0 (fun z => sp_bf qz16 z.2) | exact sp_b1 ⟨sp_bt qz6, sp_bt qz16⟩
    · skip
      refine rk_iconst 1 dX11_areStrands_19 (by decide) ?_
      refine rk_goto 24 dX11_areStrands_20 (by decide) ?_
      refine rk_pc (pc' := 24) rfl ?_
      refine rk_iretP dX11_areStrands_24 rfl (by decide) ?_
      first | exact sp_b0 (fun z => sp_bf qz6 z.1) | exact sp_b0 (fun z => sp_bf qz16 z.2) | exact sp_b1 ⟨sp_bt qz6, sp_bt qz16⟩
theorem cX11_strandOf_s {m : Nat} (f : Int32) : rk_P w l rk_mX11_strandOf 2 [rk_a 12 m, rk_i f] Sh I R (sp_strand (I 26 (R 12 m 0)) f) := by
  refine rk_bP (ls := [(0, _), (1, _)]) (by decide) rfl (Nat.le_of_ble_eq_true rfl) ?_
  refine rk_iload_n 1 dX11_strandOf_0 rfl rfl ?_
  refine rk_bipush 100 dX11_strandOf_1 (by decide) ?_
  refine rk_aload_n 0 dX11_strandOf_3 rfl rfl ?_
  refine rk_g12_0 rk_kX11_7 dX11_strandOf_4 ?_
  refine rk_iconst 2 dX11_strandOf_7 (by decide) ?_
  refine rk_rn26 2 dX11_strandOf_8 rfl (by first | decide | assumption | omega) ?_
  refine rk_pc (pc' := 9) rfl ?_
  refine rk_iadd dX11_strandOf_9 ?_
  refine rk_imul dX11_strandOf_10 ?_
  refine rk_bipush 100 dX11_strandOf_11 (by decide) ?_
  refine rk_cSp (cX11_up_s _ _ (by decide)) rk_eX11_up rfl rk_kX11_63 dX11_strandOf_13 rfl (by decide) (Nat.le_of_ble_eq_true rfl) ⟨Nat.le_refl _, Nat.le_refl _⟩ ?_
  refine rk_iretP dX11_strandOf_16 rfl rfl ?_
  rfl
theorem cX11_yarnOf_s {m : Nat} (f : Int32) : rk_P w l rk_mX11_yarnOf 3 [rk_a 12 m, rk_i f] Sh I R (sp_yarn (I 26 (R 12 m 0)) f) := by
  refine rk_bP (ls := [(0, _), (1, _)]) (by decide) rfl (Nat.le_of_ble_eq_true rfl) ?_
  refine rk_aload_n 0 dX11_yarnOf_0 rfl rfl ?_
  refine rk_iload_n 1 dX11_yarnOf_1 rfl rfl ?_
  refine rk_cVp (cX11_strandOf_s _) rk_eX11_strandOf rfl ⟨rfl, rfl⟩ rk_kX11_67 dX11_yarnOf_2 rfl (by decide) (Nat.le_of_ble_eq_true rfl) ⟨Nat.le_refl _, Nat.le_refl _⟩ ?_
  refine rk_bipush 100 dX11_yarnOf_5 (by decide) ?_
  refine rk_aload_n 0 dX11_yarnOf_7 rfl rfl ?_
  refine rk_g12_0 rk_kX11_7 dX11_yarnOf_8 ?_
  refine rk_pc (pc' := 11) rfl ?_
  refine rk_iconst 1 dX11_yarnOf_11 (by decide) ?_
  refine rk_rn26 1 dX11_yarnOf_12 rfl (by first | decide | assumption | omega) ?_
  refine rk_iadd dX11_yarnOf_13 ?_
  refine rk_imul dX11_yarnOf_14 ?_
  refine rk_bipush 100 dX11_yarnOf_15 (by decide) ?_
  refine rk_cSp (cX11_up_s _ _ (by decide)) rk_eX11_up rfl rk_kX11_63 dX11_yarnOf_17 rfl (by decide) (Nat.le_of_ble_eq_true rfl) ⟨Nat.le_refl _, Nat.le_refl _⟩ ?_
  refine rk_pc (pc' := 20) rfl ?_
  refine rk_iretP dX11_yarnOf_20 rfl rfl ?_
  rfl
theorem cX11_hoursOf_s {m : Nat} (h8 : 1 ≤ I 26 (R 12 m 0) 8) (s f : Int32) : rk_P w l rk_mX11_hoursOf 3 [rk_a 12 m, rk_i s, rk_i f] Sh I R (sp_hours (I 26 (R 12 m 0)) s f) := by
  refine rk_bP (ls := [(0, _), (1, _), (2, _)]) (by decide) rfl (Nat.le_of_ble_eq_true rfl) ?_
  refine rk_iload_n 1 dX11_hoursOf_0 rfl rfl ?_
  refine rk_aload_n 0 dX11_hoursOf_1 rfl rfl ?_
  refine rk_iload_n 2 dX11_hoursOf_2 rfl rfl ?_
  refine rk_cVp (cX11_strandOf_s _) rk_eX11_strandOf rfl ⟨rfl, rfl⟩ rk_kX11_67 dX11_hoursOf_3 rfl (by decide) (Nat.le_of_ble_eq_true rfl) ⟨Nat.le_refl _, Nat.le_refl _⟩ ?_
  refine rk_imul dX11_hoursOf_6 ?_
  refine rk_aload_n 0 dX11_hoursOf_7 rfl rfl ?_
  refine rk_pc (pc' := 8) rfl ?_
  refine rk_g12_0 rk_kX11_7 dX11_hoursOf_8 ?_
  refine rk_bipush 8 dX11_hoursOf_11 (by decide) ?_
  refine rk_rn26 8 dX11_hoursOf_13 rfl (by first | decide | assumption | omega) ?_
  refine rk_cSp (cX11_up_s _ _ (rk_ne0 h8)) rk_eX11_up rfl rk_kX11_63 dX11_hoursOf_14 rfl (by decide) (Nat.le_of_ble_eq_true rfl) ⟨Nat.le_refl _, Nat.le_refl _⟩ ?_
  refine rk_iretP dX11_hoursOf_17 rfl rfl ?_
  rfl
theorem cX11_qualityOf_s {m fi : Nat} (hf : fi < 3) : rk_P w l rk_mX11_qualityOf 1 [rk_a 12 m, rk_i (nI fi)] Sh I R (sp_qual (I 26 (R 12 m 0)) fi) := by
  refine rk_bP (ls := [(0, _), (1, _)]) (by decide) rfl (Nat.le_of_ble_eq_true rfl) ?_
  refine rk_aload_n 0 dX11_qualityOf_0 rfl rfl ?_
  refine rk_g12_0 rk_kX11_7 dX11_qualityOf_1 ?_
  refine rk_iconst 1 dX11_qualityOf_4 (by decide) ?_
  refine rk_rn26 1 dX11_qualityOf_5 rfl (by first | decide | assumption | omega) ?_
  refine rk_aload_n 0 dX11_qualityOf_6 rfl rfl ?_
  refine rk_g12_0 rk_kX11_7 dX11_qualityOf_7 ?_
  refine rk_pc (pc' := 10) rfl ?_
  refine rk_bipush 20 dX11_qualityOf_10 (by decide) ?_
  refine rk_iconst 3 dX11_qualityOf_12 (by decide) ?_
  refine rk_iload_n 1 dX11_qualityOf_13 rfl rfl ?_
  refine rk_imul dX11_qualityOf_14 ?_
  refine rk_iadd dX11_qualityOf_15 ?_
  refine rk_iconst 1 dX11_qualityOf_16 (by decide) ?_
  refine rk_pc (pc' := 17) rfl ?_
  refine rk_iadd dX11_qualityOf_17 ?_
  refine rk_rn26 (20 + 3 * fi + 1) dX11_qualityOf_18 (by first | rfl | decide | assumption | (simp only [rk_lit, nI_add, pk_mul, nI_1]; done) | (simp only [rk_lit, nI_add, pk_mul, nI_1]; congr 1; omega)) (by first | decide | assumption | omega) ?_
  refine rk_isub dX11_qualityOf_19 ?_
  refine rk_istore_n 2 (ls' := [(2, _), (0, _), (1, _)]) dX11_qualityOf_20 rfl (by decide) rfl ?_
  refine rk_bipush 100 dX11_qualityOf_21 (by decide) ?_
  refine rk_iconst 2 dX11_qualityOf_23 (by decide) ?_
  refine rk_pc (pc' := 24) rfl ?_
  refine rk_iload_n 2 dX11_qualityOf_24 rfl rfl ?_
  refine rk_if_ge 33 dX11_qualityOf_25 (by decide) (fun qz25 => ?_) (fun qz25 => ?_)
  · skip
    refine rk_iload_n 2 dX11_qualityOf_33 rfl rfl ?_
    refine rk_imul dX11_qualityOf_34 ?_
    refine rk_isub dX11_qualityOf_35 ?_
    refine rk_istore_n 3 (ls' := [(3, _), (2, _), (0, _), (1, _)]) dX11_qualityOf_36 rfl (by decide) rfl ?_
    refine rk_iload_n 3 dX11_qualityOf_37 rfl rfl ?_
    refine rk_pc (pc' := 38) rfl ?_
    refine rk_bipush 40 dX11_qualityOf_38 (by decide) ?_
    refine rk_icmp_ge 48 dX11_qualityOf_40 (by decide) (fun qz40 => ?_) (fun qz40 => ?_)
    · skip
      refine rk_iload_n 3 dX11_qualityOf_48 rfl rfl ?_
      refine rk_iretP dX11_qualityOf_49 rfl rfl ?_
      simp only [sp_qual]; first | (rw [if_pos (Int32.not_le.mp qz25), if_pos (Int32.not_le.mp qz40)]; done) | (rw [if_pos (Int32.not_le.mp qz25), if_neg (Int32.not_lt.mpr qz40)]; done) | (rw [if_neg (Int32.not_lt.mpr qz25), if_pos (Int32.not_le.mp qz40)]; done) | (rw [if_neg (Int32.not_lt.mpr qz25), if_neg (Int32.not_lt.mpr qz40)]; done)
    · skip
      refine rk_bipush 40 dX11_qualityOf_43 (by decide) ?_
      refine rk_goto 49 dX11_qualityOf_45 (by decide) ?_
      refine rk_iretP dX11_qualityOf_49 rfl rfl ?_
      simp only [sp_qual]; first | (rw [if_pos (Int32.not_le.mp qz25), if_pos (Int32.not_le.mp qz40)]; done) | (rw [if_pos (Int32.not_le.mp qz25), if_neg (Int32.not_lt.mpr qz40)]; done) | (rw [if_neg (Int32.not_lt.mpr qz25), if_pos (Int32.not_le.mp qz40)]; done) | (rw [if_neg (Int32.not_lt.mpr qz25), if_neg (Int32.not_lt.mpr qz40)]; done)
  · skip
    refine rk_iload_n 2 dX11_qualityOf_28 rfl rfl ?_
    refine rk_ineg dX11_qualityOf_29 ?_
    refine rk_pc (pc' := 30) rfl ?_
    refine rk_goto 34 dX11_qualityOf_30 (by decide) ?_
    refine rk_imul dX11_qualityOf_34 ?_
    refine rk_isub dX11_qualityOf_35 ?_
    refine rk_istore_n 3 (ls' := [(3, _), (2, _), (0, _), (1, _)]) dX11_qualityOf_36 rfl (by decide) rfl ?_
    refine rk_iload_n 3 dX11_qualityOf_37 rfl rfl ?_
    refine rk_bipush 40 dX11_qualityOf_38 (by decide) ?_
    refine rk_pc (pc' := 40) rfl ?_
    refine rk_icmp_ge 48 dX11_qualityOf_40 (by decide) (fun qz40 => ?_) (fun qz40 => ?_)
    · skip
      refine rk_iload_n 3 dX11_qualityOf_48 rfl rfl ?_
      refine rk_iretP dX11_qualityOf_49 rfl rfl ?_
      simp only [sp_qual]; first | (rw [if_pos (Int32.not_le.mp qz25), if_pos (Int32.not_le.mp qz40)]; done) | (rw [if_pos (Int32.not_le.mp qz25), if_neg (Int32.not_lt.mpr qz40)]; done) | (rw [if_neg (Int32.not_lt.mpr qz25), if_pos (Int32.not_le.mp qz40)]; done) | (rw [if_neg (Int32.not_lt.mpr qz25), if_neg (Int32.not_lt.mpr qz40)]; done)
    · skip
      refine rk_bipush 40 dX11_qualityOf_43 (by decide) ?_
      refine rk_goto 49 dX11_qualityOf_45 (by decide) ?_
      refine rk_iretP dX11_qualityOf_49 rfl rfl ?_
      simp only [sp_qual]; first | (rw [if_pos (Int32.not_le.mp qz25), if_pos (Int32.not_le.mp qz40)]; done) | (rw [if_pos (Int32.not_le.mp qz25), if_neg (Int32.not_lt.mpr qz40)]; done) | (rw [if_neg (Int32.not_lt.mpr qz25), if_pos (Int32.not_le.mp qz40)]; done) | (rw [if_neg (Int32.not_lt.mpr qz25), if_neg (Int32.not_lt.mpr qz40)]; done)
theorem cX11_leftHours_s {m : Nat} : rk_P w l rk_mX11_leftHours 1 [rk_a 12 m] Sh I R (sp_left (I 26 (R 12 m 0))) := by
  refine rk_bP (ls := [(0, _)]) (by decide) rfl (Nat.le_of_ble_eq_true rfl) ?_
  refine rk_aload_n 0 dX11_leftHours_0 rfl rfl ?_
  refine rk_g12_0 rk_kX11_7 dX11_leftHours_1 ?_
  refine rk_bipush 7 dX11_leftHours_4 (by decide) ?_
  refine rk_rn26 7 dX11_leftHours_6 rfl (by first | decide | assumption | omega) ?_
  refine rk_aload_n 0 dX11_leftHours_7 rfl rfl ?_
  refine rk_g12_0 rk_kX11_7 dX11_leftHours_8 ?_
  refine rk_pc (pc' := 11) rfl ?_
  refine rk_bipush 11 dX11_leftHours_11 (by decide) ?_
  refine rk_rn26 11 dX11_leftHours_13 rfl (by first | decide | assumption | omega) ?_
  refine rk_icmp_le 35 dX11_leftHours_14 (by decide) (fun qz14 => ?_) (fun qz14 => ?_)
  · skip
    refine rk_iconst 0 dX11_leftHours_35 (by decide) ?_
    refine rk_iretP dX11_leftHours_36 rfl rfl ?_
    simp only [sp_left]; first | (rw [if_pos (Int32.not_le.mp qz14)]; done) | (rw [if_neg (Int32.not_lt.mpr qz14)]; done)
  · skip
    refine rk_aload_n 0 dX11_leftHours_17 rfl rfl ?_
    refine rk_g12_0 rk_kX11_7 dX11_leftHours_18 ?_
    refine rk_bipush 7 dX11_leftHours_21 (by decide) ?_
    refine rk_pc (pc' := 23) rfl ?_
    refine rk_rn26 7 dX11_leftHours_23 rfl (by first | decide | assumption | omega) ?_
    refine rk_aload_n 0 dX11_leftHours_24 rfl rfl ?_
    refine rk_g12_0 rk_kX11_7 dX11_leftHours_25 ?_
    refine rk_bipush 11 dX11_leftHours_28 (by decide) ?_
    refine rk_rn26 11 dX11_leftHours_30 rfl (by first | decide | assumption | omega) ?_
    refine rk_isub dX11_leftHours_31 ?_
    refine rk_pc (pc' := 32) rfl ?_
    refine rk_goto 36 dX11_leftHours_32 (by decide) ?_
    refine rk_iretP dX11_leftHours_36 rfl rfl ?_
    simp only [sp_left]; first | (rw [if_pos (Int32.not_le.mp qz14)]; done) | (rw [if_neg (Int32.not_lt.mpr qz14)]; done)
theorem cX11_canLay_s {m fi : Nat} (hf : fi < 3) (h8 : 1 ≤ I 26 (R 12 m 0) 8) (s y f : Int32) : rk_P w l rk_mX11_canLay 4 [rk_a 12 m, rk_i (nI fi), rk_i s, rk_i y, rk_i f] Sh I R (sp_b (sp_strand (I 26 (R 12 m 0)) f ≤ I 26 (R 12 m 0) 0 ∧ s * y * sp_yarn (I 26 (R 12 m 0)) f ≤ I 26 (R 12 m 0) (20 + 3 * fi + 2) ∧ sp_hours (I 26 (R 12 m 0)) s f ≤ sp_left (I 26 (R 12 m 0)))) := by
  refine rk_bP (ls := [(0, _), (1, _), (2, _), (3, _), (4, _)]) (by decide) rfl (Nat.le_of_ble_eq_true rfl) ?_
  refine rk_aload_n 0 dX11_canLay_0 rfl rfl ?_
  refine rk_iload dX11_canLay_1 rfl ?_
  refine rk_cVp (cX11_strandOf_s _) rk_eX11_strandOf rfl ⟨rfl, rfl⟩ rk_kX11_67 dX11_canLay_3 rfl (by decide) (Nat.le_of_ble_eq_true rfl) ⟨Nat.le_refl _, Nat.le_refl _⟩ ?_
  refine rk_aload_n 0 dX11_canLay_6 rfl rfl ?_
  refine rk_g12_0 rk_kX11_7 dX11_canLay_7 ?_
  refine rk_iconst 0 dX11_canLay_10 (by decide) ?_
  refine rk_pc (pc' := 11) rfl ?_
  refine rk_rn26 0 dX11_canLay_11 rfl (by first | decide | assumption | omega) ?_
  refine rk_icmp_gt 59 dX11_canLay_12 (by decide) (fun qz12 => ?_) (fun qz12 => ?_)
  · skip
    refine rk_iconst 0 dX11_canLay_59 (by decide) ?_
    refine rk_iretP dX11_canLay_60 rfl (by decide) ?_
    first | exact sp_b0 (fun z => Int32.not_lt.mpr z.1 qz12) | exact sp_b0 (fun z => Int32.not_lt.mpr z.2.1 qz38) | exact sp_b0 (fun z => Int32.not_lt.mpr z.2.2 qz52) | exact sp_b1 ⟨Int32.not_lt.mp qz12, Int32.not_lt.mp qz38, Int32.not_lt.mp qz52⟩
  · skip
    refine rk_iload_n 2 dX11_canLay_15 rfl rfl ?_
    refine rk_iload_n 3 dX11_canLay_16 rfl rfl ?_
    refine rk_imul dX11_canLay_17 ?_
    refine rk_aload_n 0 dX11_canLay_18 rfl rfl ?_
    refine rk_pc (pc' := 19) rfl ?_
    refine rk_iload dX11_canLay_19 rfl ?_
    refine rk_cVp (cX11_yarnOf_s _) rk_eX11_yarnOf rfl ⟨rfl, rfl⟩ rk_kX11_70 dX11_canLay_21 rfl (by decide) (Nat.le_of_ble_eq_true rfl) ⟨Nat.le_refl _, Nat.le_refl _⟩ ?_
    refine rk_imul dX11_canLay_24 ?_
    refine rk_aload_n 0 dX11_canLay_25 rfl rfl ?_
    refine rk_g12_0 rk_kX11_7 dX11_canLay_26 ?_
    refine rk_bipush 20 dX11_canLay_29 (by decide) ?_
    refine rk_pc (pc' := 31) rfl ?_
    refine rk_iconst 3 dX11_canLay_31 (by decide) ?_
    refine rk_iload_n 1 dX11_canLay_32 rfl rfl ?_
    refine rk_imul dX11_canLay_33 ?_
    refine rk_iadd dX11_canLay_34 ?_
    refine rk_iconst 2 dX11_canLay_35 (by decide) ?_
    refine rk_iadd dX11_canLay_36 ?_
    refine rk_pc (pc' := 37) rfl ?_
    refine rk_rn26 (20 + 3 * fi + 2) dX11_canLay_37 (by first | rfl | decide | assumption | (simp only [rk_lit, nI_add, pk_mul, nI_1]; done) | (simp only [rk_lit, nI_add, pk_mul, nI_1]; congr 1; omega)) (by first | decide | assumption | omega) ?_
    refine rk_icmp_gt 59 dX11_canLay_38 (by decide) (fun qz38 => ?_) (fun qz38 => ?_)
    · skip
      refine rk_iconst 0 dX11_canLay_59 (by decide) ?_
      refine rk_iretP dX11_canLay_60 rfl (by decide) ?_
      first | exact sp_b0 (fun z => Int32.not_lt.mpr z.1 qz12) | exact sp_b0 (fun z => Int32.not_lt.mpr z.2.1 qz38) | exact sp_b0 (fun z => Int32.not_lt.mpr z.2.2 qz52) | exact sp_b1 ⟨Int32.not_lt.mp qz12, Int32.not_lt.mp qz38, Int32.not_lt.mp qz52⟩
    · skip
      refine rk_aload_n 0 dX11_canLay_41 rfl rfl ?_
      refine rk_iload_n 2 dX11_canLay_42 rfl rfl ?_
      refine rk_iload dX11_canLay_43 rfl ?_
      refine rk_cVp (cX11_hoursOf_s h8 _ _) rk_eX11_hoursOf rfl ⟨rfl, rfl⟩ rk_kX11_73 dX11_canLay_45 rfl (by decide) (Nat.le_of_ble_eq_true rfl) ⟨Nat.le_refl _, Nat.le_refl _⟩ ?_
      refine rk_pc (pc' := 48) rfl ?_
      refine rk_aload_n 0 dX11_canLay_48 rfl rfl ?_
      refine rk_cVp (cX11_leftHours_s) rk_eX11_leftHours rfl ⟨rfl, rfl⟩ rk_kX11_76 dX11_canLay_49 rfl (by decide) (Nat.le_of_ble_eq_true rfl) ⟨Nat.le_refl _, Nat.le_refl _⟩ ?_
      refine rk_icmp_gt 59 dX11_canLay_52 (by decide) (fun qz52 => ?_) (fun qz52 => ?_)
      · skip
        refine rk_iconst 0 dX11_canLay_59 (by decide) ?_
        refine rk_iretP dX11_canLay_60 rfl (by decide) ?_
        first | exact sp_b0 (fun z => Int32.not_lt.mpr z.1 qz12) | exact sp_b0 (fun z => Int32.not_lt.mpr z.2.1 qz38) | exact sp_b0 (fun z => Int32.not_lt.mpr z.2.2 qz52) | exact sp_b1 ⟨Int32.not_lt.mp qz12, Int32.not_lt.mp qz38, Int32.not_lt.mp qz52⟩
      · skip
        refine rk_iconst 1 dX11_canLay_55 (by decide) ?_
        refine rk_goto 60 dX11_canLay_56 (by decide) ?_
        refine rk_iretP dX11_canLay_60 rfl (by decide) ?_
        first | exact sp_b0 (fun z => Int32.not_lt.mpr z.1 qz12) | exact sp_b0 (fun z => Int32.not_lt.mpr z.2.1 qz38) | exact sp_b0 (fun z => Int32.not_lt.mpr z.2.2 qz52) | exact sp_b1 ⟨Int32.not_lt.mp qz12, Int32.not_lt.mp qz38, Int32.not_lt.mp qz52⟩
theorem cX11_isPiece_s {m : Nat} (p : Int32) : rk_P w l rk_mX11_isPiece 2 [rk_a 12 m, rk_i p] Sh I R (sp_b (0 ≤ p ∧ p ≤ I 26 (R 12 m 0) 12 - 1)) := by
  refine rk_bP (ls := [(0, _), (1, _)]) (by decide) rfl (Nat.le_of_ble_eq_true rfl) ?_
  refine rk_iload_n 1 dX11_isPiece_0 rfl rfl ?_
  refine rk_iconst 0 dX11_isPiece_1 (by decide) ?_
  refine rk_aload_n 0 dX11_isPiece_2 rfl rfl ?_
  refine rk_g12_0 rk_kX11_7 dX11_isPiece_3 ?_
  refine rk_bipush 12 dX11_isPiece_6 (by decide) ?_
  refine rk_rn26 12 dX11_isPiece_8 rfl (by first | decide | assumption | omega) ?_
  refine rk_pc (pc' := 9) rfl ?_
  refine rk_iconst 1 dX11_isPiece_9 (by decide) ?_
  refine rk_isub dX11_isPiece_10 ?_
  refine rk_cSp (cX11_in_s _ _ _) rk_eX11_in rfl rk_kX11_43 dX11_isPiece_11 rfl (by decide) (Nat.le_of_ble_eq_true rfl) ⟨Nat.le_refl _, Nat.le_refl _⟩ ?_
  refine rk_iretP dX11_isPiece_14 rfl (by exact rk_nz sp_bz) ?_
  rfl
theorem cX11_isOrder_s {m : Nat} (p : Int32) : rk_P w l rk_mX11_isOrder 2 [rk_a 12 m, rk_i p] Sh I R (sp_b (0 ≤ p ∧ p ≤ I 26 (R 12 m 0) 13 - 1)) := by
  refine rk_bP (ls := [(0, _), (1, _)]) (by decide) rfl (Nat.le_of_ble_eq_true rfl) ?_
  refine rk_iload_n 1 dX11_isOrder_0 rfl rfl ?_
  refine rk_iconst 0 dX11_isOrder_1 (by decide) ?_
  refine rk_aload_n 0 dX11_isOrder_2 rfl rfl ?_
  refine rk_g12_0 rk_kX11_7 dX11_isOrder_3 ?_
  refine rk_bipush 13 dX11_isOrder_6 (by decide) ?_
  refine rk_rn26 13 dX11_isOrder_8 rfl (by first | decide | assumption | omega) ?_
  refine rk_pc (pc' := 9) rfl ?_
  refine rk_iconst 1 dX11_isOrder_9 (by decide) ?_
  refine rk_isub dX11_isOrder_10 ?_
  refine rk_cSp (cX11_in_s _ _ _) rk_eX11_in rfl rk_kX11_43 dX11_isOrder_11 rfl (by decide) (Nat.le_of_ble_eq_true rfl) ⟨Nat.le_refl _, Nat.le_refl _⟩ ?_
  refine rk_iretP dX11_isOrder_14 rfl (by exact rk_nz sp_bz) ?_
  rfl
theorem cX11_ofPiece_s {m : Nat} (p k : Nat) {x y : Int32} (hx : x = nI p) (hy : y = nI k) (hp : p < 24) (hk : k < 7) : rk_P w l rk_mX11_ofPiece 1 [rk_a 12 m, rk_i x, rk_i y] Sh I R (I 26 (R 12 m 0) (50 + 7 * p + k)) := by
  subst hx hy
  refine rk_bP (ls := [(0, _), (1, _), (2, _)]) (by decide) rfl (Nat.le_of_ble_eq_true rfl) ?_
  refine rk_aload_n 0 dX11_ofPiece_0 rfl rfl ?_
  refine rk_g12_0 rk_kX11_7 dX11_ofPiece_1 ?_
  refine rk_bipush 50 dX11_ofPiece_4 (by decide) ?_
  refine rk_bipush 7 dX11_ofPiece_6 (by decide) ?_
  refine rk_iload_n 1 dX11_ofPiece_8 rfl rfl ?_
  refine rk_imul dX11_ofPiece_9 ?_
  refine rk_pc (pc' := 10) rfl ?_
  refine rk_iadd dX11_ofPiece_10 ?_
  refine rk_iload_n 2 dX11_ofPiece_11 rfl rfl ?_
  refine rk_iadd dX11_ofPiece_12 ?_
  refine rk_rn26 (50 + 7 * p + k) dX11_ofPiece_13 (by first | rfl | decide | assumption | (simp only [rk_lit, nI_add, pk_mul, nI_1]; done) | (simp only [rk_lit, nI_add, pk_mul, nI_1]; congr 1; omega)) (by first | decide | assumption | omega) ?_
  refine rk_iretP dX11_ofPiece_14 rfl rfl ?_
  rfl
theorem cX11_orderAt_s {m : Nat} (p k : Nat) {x y : Int32} (hx : x = nI p) (hy : y = nI k) (hp : p < 16) (hk : k < 7) : rk_P w l rk_mX11_orderAt 1 [rk_a 12 m, rk_i x, rk_i y] Sh I R (I 26 (R 12 m 0) (220 + 7 * p + k)) := by
  subst hx hy
  refine rk_bP (ls := [(0, _), (1, _), (2, _)]) (by decide) rfl (Nat.le_of_ble_eq_true rfl) ?_
  refine rk_aload_n 0 dX11_orderAt_0 rfl rfl ?_
  refine rk_g12_0 rk_kX11_7 dX11_orderAt_1 ?_
  refine rk_sipush 220 dX11_orderAt_4 (by decide) ?_
  refine rk_bipush 7 dX11_orderAt_7 (by decide) ?_
  refine rk_iload_n 1 dX11_orderAt_9 rfl rfl ?_
  refine rk_imul dX11_orderAt_10 ?_
  refine rk_pc (pc' := 11) rfl ?_
  refine rk_iadd dX11_orderAt_11 ?_
  refine rk_iload_n 2 dX11_orderAt_12 rfl rfl ?_
  refine rk_iadd dX11_orderAt_13 ?_
  refine rk_rn26 (220 + 7 * p + k) dX11_orderAt_14 (by first | rfl | decide | assumption | (simp only [rk_lit, nI_add, pk_mul, nI_1]; done) | (simp only [rk_lit, nI_add, pk_mul, nI_1]; congr 1; omega)) (by first | decide | assumption | omega) ?_
  refine rk_iretP dX11_orderAt_15 rfl rfl ?_
  rfl
theorem cX11_strengthOf_s {m : Nat} (p fi : Nat) {x : Int32} (hx : x = nI p) (hp : p < 24) (hf : fi < 3) (h0 : I 26 (R 12 m 0) (50 + 7 * p + 0) = nI fi) : rk_P w l rk_mX11_strengthOf 2 [rk_a 12 m, rk_i x] Sh I R (sp_st (I 26 (R 12 m 0)) (sp_P (I 26 (R 12 m 0)) p)) := by
  subst hx
  have hc : (sp_P (I 26 (R 12 m 0)) p 0).toNatClampNeg = fi := by show (I 26 (R 12 m 0) (50 + 7 * p + 0)).toNatClampNeg = fi; rw [h0]; exact nI_clamp (by omega)
  refine rk_bP (ls := [(0, _), (1, _)]) (by decide) rfl (Nat.le_of_ble_eq_true rfl) ?_
  refine rk_aload_n 0 dX11_strengthOf_0 rfl rfl ?_
  refine rk_iload_n 1 dX11_strengthOf_1 rfl rfl ?_
  refine rk_iconst 1 dX11_strengthOf_2 (by decide) ?_
  refine rk_cVp (cX11_ofPiece_s p 1 rfl rfl hp (by decide)) rk_eX11_ofPiece rfl ⟨rfl, rfl⟩ rk_kX11_91 dX11_strengthOf_3 rfl (by decide) (Nat.le_of_ble_eq_true rfl) ⟨Nat.le_refl _, Nat.le_refl _⟩ ?_
  refine rk_aload_n 0 dX11_strengthOf_6 rfl rfl ?_
  refine rk_iload_n 1 dX11_strengthOf_7 rfl rfl ?_
  refine rk_pc (pc' := 8) rfl ?_
  refine rk_iconst 2 dX11_strengthOf_8 (by decide) ?_
  refine rk_cVp (cX11_ofPiece_s p 2 rfl rfl hp (by decide)) rk_eX11_ofPiece rfl ⟨rfl, rfl⟩ rk_kX11_91 dX11_strengthOf_9 rfl (by decide) (Nat.le_of_ble_eq_true rfl) ⟨Nat.le_refl _, Nat.le_refl _⟩ ?_
  refine rk_imul dX11_strengthOf_12 ?_
  refine rk_aload_n 0 dX11_strengthOf_13 rfl rfl ?_
  refine rk_g12_0 rk_kX11_7 dX11_strengthOf_14 ?_
  refine rk_bipush 20 dX11_strengthOf_17 (by decide) ?_
  refine rk_pc (pc' := 19) rfl ?_
  refine rk_iconst 3 dX11_strengthOf_19 (by decide) ?_
  refine rk_aload_n 0 dX11_strengthOf_20 rfl rfl ?_
  refine rk_iload_n 1 dX11_strengthOf_21 rfl rfl ?_
  refine rk_iconst 0 dX11_strengthOf_22 (by decide) ?_
  refine rk_cVp (cX11_ofPiece_s p 0 rfl rfl hp (by decide)) rk_eX11_ofPiece rfl ⟨rfl, rfl⟩ rk_kX11_91 dX11_strengthOf_23 rfl (by decide) (Nat.le_of_ble_eq_true rfl) ⟨Nat.le_refl _, Nat.le_refl _⟩ ?_
  rw [h0]
  refine rk_imul dX11_strengthOf_26 ?_
  refine rk_pc (pc' := 27) rfl ?_
  refine rk_iadd dX11_strengthOf_27 ?_
  refine rk_rn26 (20 + 3 * fi) dX11_strengthOf_28 (by first | rfl | decide | assumption | (simp only [rk_lit, nI_add, pk_mul, nI_1]; done) | (simp only [rk_lit, nI_add, pk_mul, nI_1]; congr 1; omega)) (by first | decide | assumption | omega) ?_
  refine rk_imul dX11_strengthOf_29 ?_
  refine rk_aload_n 0 dX11_strengthOf_30 rfl rfl ?_
  refine rk_iload_n 1 dX11_strengthOf_31 rfl rfl ?_
  refine rk_iconst 5 dX11_strengthOf_32 (by decide) ?_
  refine rk_pc (pc' := 33) rfl ?_
  refine rk_cVp (cX11_ofPiece_s p 5 rfl rfl hp (by decide)) rk_eX11_ofPiece rfl ⟨rfl, rfl⟩ rk_kX11_91 dX11_strengthOf_33 rfl (by decide) (Nat.le_of_ble_eq_true rfl) ⟨Nat.le_refl _, Nat.le_refl _⟩ ?_
  refine rk_imul dX11_strengthOf_36 ?_
  refine rk_bipush 100 dX11_strengthOf_37 (by decide) ?_
  refine rk_idiv dX11_strengthOf_39 (by decide) ?_
  refine rk_istore_n 2 (ls' := [(2, _), (0, _), (1, _)]) dX11_strengthOf_40 rfl (by decide) rfl ?_
  refine rk_aload_n 0 dX11_strengthOf_41 rfl rfl ?_
  refine rk_pc (pc' := 42) rfl ?_
  refine rk_iload_n 1 dX11_strengthOf_42 rfl rfl ?_
  refine rk_bipush 6 dX11_strengthOf_43 (by decide) ?_
  refine rk_cVp (cX11_ofPiece_s p 6 rfl rfl hp (by decide)) rk_eX11_ofPiece rfl ⟨rfl, rfl⟩ rk_kX11_91 dX11_strengthOf_45 rfl (by decide) (Nat.le_of_ble_eq_true rfl) ⟨Nat.le_refl _, Nat.le_refl _⟩ ?_
  refine rk_if_ne 55 dX11_strengthOf_48 (by decide) (fun qz48 => ?_) (fun qz48 => ?_)
  · skip
    refine rk_iload_n 2 dX11_strengthOf_55 rfl rfl ?_
    refine rk_bipush 100 dX11_strengthOf_56 (by decide) ?_
    refine rk_aload_n 0 dX11_strengthOf_58 rfl rfl ?_
    refine rk_pc (pc' := 59) rfl ?_
    refine rk_g12_0 rk_kX11_7 dX11_strengthOf_59 ?_
    refine rk_iconst 3 dX11_strengthOf_62 (by decide) ?_
    refine rk_rn26 3 dX11_strengthOf_63 rfl (by first | decide | assumption | omega) ?_
    refine rk_isub dX11_strengthOf_64 ?_
    refine rk_imul dX11_strengthOf_65 ?_
    refine rk_bipush 100 dX11_strengthOf_66 (by decide) ?_
    refine rk_pc (pc' := 68) rfl ?_
    refine rk_idiv dX11_strengthOf_68 (by decide) ?_
    refine rk_iretP dX11_strengthOf_69 rfl rfl ?_
    simp only [sp_st, hc]; first | (rw [if_pos qz48]; done) | (rw [if_neg qz48]; done)
  · skip
    refine rk_iload_n 2 dX11_strengthOf_51 rfl rfl ?_
    refine rk_goto 69 dX11_strengthOf_52 (by decide) ?_
    refine rk_iretP dX11_strengthOf_69 rfl rfl ?_
    simp only [sp_st, hc]; first | (rw [if_pos qz48]; done) | (rw [if_neg qz48]; done)
end ML

