section CR
variable {w : rk_W} {l : Launch} {Sh : rk_Sh} {I : rk_Mm} {R : rk_Rm}
/-- the class's rules at a hold N's settings and fibres -/
def cl_ru (I : rk_Mm) (R : rk_Rm) (a : Nat) (N : Nat → Int32) : Prop := (∀ j, j < 10 → I 17 (R 7 a 0) j = N j) ∧ (∀ f, f < 3 → I 18 (R 7 a 1) f = N (20 + 3 * f)) ∧ (∀ f, f < 3 → I 19 (R 7 a 2) f = N (20 + 3 * f + 1))
theorem cX10_inRange_s (v lo hi : Int32) : rk_P w l rk_mX10_inRange 1 [rk_i v, rk_i lo, rk_i hi] Sh I R (sp_b (lo ≤ v ∧ v ≤ hi)) := by
  refine rk_bP (ls := [(0, _), (1, _), (2, _)]) (by decide) rfl (Nat.le_of_ble_eq_true rfl) ?_
  refine rk_iload_n 0 dX10_inRange_0 rfl rfl ?_
  refine rk_iload_n 1 dX10_inRange_1 rfl rfl ?_
  refine rk_icmp_lt 14 dX10_inRange_2 (by decide) (fun qz2 => ?_) (fun qz2 => ?_)
  · skip
    refine rk_iconst 0 dX10_inRange_14 (by decide) ?_
    refine rk_iretP dX10_inRange_15 rfl (by decide) ?_
    first | exact sp_b1 ⟨Int32.not_lt.mp qz2, Int32.not_lt.mp qz7⟩ | exact sp_b0 (fun h => Int32.not_lt.mpr h.1 qz2) | exact sp_b0 (fun h => Int32.not_lt.mpr h.2 qz7)
  · skip
    refine rk_iload_n 0 dX10_inRange_5 rfl rfl ?_
    refine rk_iload_n 2 dX10_inRange_6 rfl rfl ?_
    refine rk_icmp_gt 14 dX10_inRange_7 (by decide) (fun qz7 => ?_) (fun qz7 => ?_)
    · skip
      refine rk_iconst 0 dX10_inRange_14 (by decide) ?_
      refine rk_pc (pc' := 15) rfl ?_
      refine rk_iretP dX10_inRange_15 rfl (by decide) ?_
      first | exact sp_b1 ⟨Int32.not_lt.mp qz2, Int32.not_lt.mp qz7⟩ | exact sp_b0 (fun h => Int32.not_lt.mpr h.1 qz2) | exact sp_b0 (fun h => Int32.not_lt.mpr h.2 qz7)
    · skip
      refine rk_iconst 1 dX10_inRange_10 (by decide) ?_
      refine rk_goto 15 dX10_inRange_11 (by decide) ?_
      refine rk_iretP dX10_inRange_15 rfl (by decide) ?_
      first | exact sp_b1 ⟨Int32.not_lt.mp qz2, Int32.not_lt.mp qz7⟩ | exact sp_b0 (fun h => Int32.not_lt.mpr h.1 qz2) | exact sp_b0 (fun h => Int32.not_lt.mpr h.2 qz7)
theorem cX6_lengthened_s (v p : Int32) : rk_P w l rk_mX6_lengthened 1 [rk_i v, rk_i p] Sh I R (sp_up (v * (100 + p)) 100) := by
  refine rk_bP (ls := [(0, _), (1, _)]) (by decide) rfl (Nat.le_of_ble_eq_true rfl) ?_
  refine rk_iload_n 0 dX6_lengthened_0 rfl rfl ?_
  refine rk_bipush 100 dX6_lengthened_1 (by decide) ?_
  refine rk_iload_n 1 dX6_lengthened_3 rfl rfl ?_
  refine rk_iadd dX6_lengthened_4 ?_
  refine rk_imul dX6_lengthened_5 ?_
  refine rk_bipush 99 dX6_lengthened_6 (by decide) ?_
  refine rk_pc (pc' := 8) rfl ?_
  refine rk_iadd dX6_lengthened_8 ?_
  refine rk_bipush 100 dX6_lengthened_9 (by decide) ?_
  refine rk_idiv dX6_lengthened_11 (by decide) ?_
  refine rk_iretP dX6_lengthened_12 rfl rfl ?_
  simp only [sp_up]; congr 1; grind
theorem cX6_strandLength_s {a : Nat} {N : Nat → Int32} (h : cl_ru I R a N) (f : Int32) : rk_P w l rk_mX6_strandLength 2 [rk_a 7 a, rk_i f] Sh I R (sp_strand N f) := by
  refine rk_bP (ls := [(0, _), (1, _)]) (by decide) rfl (Nat.le_of_ble_eq_true rfl) ?_
  refine rk_iload_n 1 dX6_strandLength_0 rfl rfl ?_
  refine rk_aload_n 0 dX6_strandLength_1 rfl rfl ?_
  refine rk_g7_0 rk_kX6_9 dX6_strandLength_2 ?_
  refine rk_iconst 2 dX6_strandLength_5 (by decide) ?_
  refine rk_rn17 2 dX6_strandLength_6 rfl (by first | decide | assumption | omega) ?_
  refine rk_cSp (cX6_lengthened_s _ _) rk_eX6_lengthened rfl rk_kX6_36 dX6_strandLength_7 rfl (by decide) (Nat.le_of_ble_eq_true rfl) ⟨Nat.le_refl _, Nat.le_refl _⟩ ?_
  refine rk_pc (pc' := 10) rfl ?_
  refine rk_iretP dX6_strandLength_10 rfl rfl ?_
  rw [h.1 2 (by decide)]; rfl
theorem cX6_yarnLength_s {a : Nat} {N : Nat → Int32} (h : cl_ru I R a N) (f : Int32) : rk_P w l rk_mX6_yarnLength 2 [rk_a 7 a, rk_i f] Sh I R (sp_yarn N f) := by
  refine rk_bP (ls := [(0, _), (1, _)]) (by decide) rfl (Nat.le_of_ble_eq_true rfl) ?_
  refine rk_iload_n 1 dX6_yarnLength_0 rfl rfl ?_
  refine rk_aload_n 0 dX6_yarnLength_1 rfl rfl ?_
  refine rk_g7_0 rk_kX6_9 dX6_yarnLength_2 ?_
  refine rk_iconst 2 dX6_yarnLength_5 (by decide) ?_
  refine rk_rn17 2 dX6_yarnLength_6 rfl (by first | decide | assumption | omega) ?_
  refine rk_cSp (cX6_lengthened_s _ _) rk_eX6_lengthened rfl rk_kX6_36 dX6_yarnLength_7 rfl (by decide) (Nat.le_of_ble_eq_true rfl) ⟨Nat.le_refl _, Nat.le_refl _⟩ ?_
  refine rk_pc (pc' := 10) rfl ?_
  refine rk_aload_n 0 dX6_yarnLength_10 rfl rfl ?_
  refine rk_g7_0 rk_kX6_9 dX6_yarnLength_11 ?_
  refine rk_iconst 1 dX6_yarnLength_14 (by decide) ?_
  refine rk_rn17 1 dX6_yarnLength_15 rfl (by first | decide | assumption | omega) ?_
  refine rk_cSp (cX6_lengthened_s _ _) rk_eX6_lengthened rfl rk_kX6_36 dX6_yarnLength_16 rfl (by decide) (Nat.le_of_ble_eq_true rfl) ⟨Nat.le_refl _, Nat.le_refl _⟩ ?_
  refine rk_iretP dX6_yarnLength_19 rfl rfl ?_
  rw [h.1 2 (by decide), h.1 1 (by decide)]; rfl
theorem cX6_yarnFor_s {a : Nat} {N : Nat → Int32} (h : cl_ru I R a N) (s y f : Int32) : rk_P w l rk_mX6_yarnFor 3 [rk_a 7 a, rk_i s, rk_i y, rk_i f] Sh I R (s * y * sp_yarn N f) := by
  refine rk_bP (ls := [(0, _), (1, _), (2, _), (3, _)]) (by decide) rfl (Nat.le_of_ble_eq_true rfl) ?_
  refine rk_iload_n 1 dX6_yarnFor_0 rfl rfl ?_
  refine rk_iload_n 2 dX6_yarnFor_1 rfl rfl ?_
  refine rk_imul dX6_yarnFor_2 ?_
  refine rk_aload_n 0 dX6_yarnFor_3 rfl rfl ?_
  refine rk_iload_n 3 dX6_yarnFor_4 rfl rfl ?_
  refine rk_cVp (cX6_yarnLength_s h _) rk_eX6_yarnLength rfl ⟨rfl, rfl⟩ rk_kX6_40 dX6_yarnFor_5 rfl (by decide) (Nat.le_of_ble_eq_true rfl) ⟨Nat.le_refl _, Nat.le_refl _⟩ ?_
  refine rk_pc (pc' := 8) rfl ?_
  refine rk_imul dX6_yarnFor_8 ?_
  refine rk_iretP dX6_yarnFor_9 rfl rfl ?_
  rfl
theorem rk_max1 {x : Int32} (h : 1 ≤ x) : (if 1 < x then x else 1) = x := by
  split
  · rfl
  · rename_i g; exact Int32.le_antisymm h (Int32.not_lt.mp g)
theorem rk_ne0 {x : Int32} (h : 1 ≤ x) : ¬ x = 0 := fun e => by rw [e] at h; exact absurd h (by decide)
theorem cX6_hoursFor_s {a : Nat} {N : Nat → Int32} (h : cl_ru I R a N) (h8 : 1 ≤ N 8) (s f : Int32) : rk_P w l rk_mX6_hoursFor 3 [rk_a 7 a, rk_i s, rk_i f] Sh I R (sp_hours N s f) := by
  refine rk_bP (ls := [(0, _), (1, _), (2, _)]) (by decide) rfl (Nat.le_of_ble_eq_true rfl) ?_
  refine rk_iconst 1 dX6_hoursFor_0 (by decide) ?_
  refine rk_aload_n 0 dX6_hoursFor_1 rfl rfl ?_
  refine rk_g7_0 rk_kX6_9 dX6_hoursFor_2 ?_
  refine rk_bipush 8 dX6_hoursFor_5 (by decide) ?_
  refine rk_rn17 8 dX6_hoursFor_7 rfl (by first | decide | assumption | omega) ?_
  refine rk_mmax dX6_hoursFor_8 (by exact rk_inT 478 (by decide +kernel) (by decide +kernel)) (by decide) (Nat.le_of_ble_eq_true rfl) ⟨Nat.le_refl _, Nat.le_refl _⟩ ?_
  refine rk_pc (pc' := 11) rfl ?_
  refine rk_istore_n 3 (ls' := [(3, _), (0, _), (1, _), (2, _)]) dX6_hoursFor_11 rfl (by decide) rfl ?_
  refine rk_iload_n 1 dX6_hoursFor_12 rfl rfl ?_
  refine rk_aload_n 0 dX6_hoursFor_13 rfl rfl ?_
  refine rk_iload_n 2 dX6_hoursFor_14 rfl rfl ?_
  refine rk_cVp (cX6_strandLength_s h _) rk_eX6_strandLength rfl ⟨rfl, rfl⟩ rk_kX6_49 dX6_hoursFor_15 rfl (by decide) (Nat.le_of_ble_eq_true rfl) ⟨Nat.le_refl _, Nat.le_refl _⟩ ?_
  refine rk_imul dX6_hoursFor_18 ?_
  refine rk_pc (pc' := 19) rfl ?_
  refine rk_iload_n 3 dX6_hoursFor_19 rfl rfl ?_
  refine rk_iadd dX6_hoursFor_20 ?_
  refine rk_iconst 1 dX6_hoursFor_21 (by decide) ?_
  refine rk_isub dX6_hoursFor_22 ?_
  refine rk_iload_n 3 dX6_hoursFor_23 rfl rfl ?_
  refine rk_idiv dX6_hoursFor_24 (by rw [h.1 8 (by decide), rk_max1 h8]; exact rk_ne0 h8) ?_
  refine rk_pc (pc' := 25) rfl ?_
  refine rk_iretP dX6_hoursFor_25 rfl rfl ?_
  rw [h.1 8 (by decide), rk_max1 h8]; rfl
theorem rk_qu (x : Int32) : (if 40 < x then x else 40) = (if x < 40 then 40 else x) := by
  by_cases h1 : 40 < x
  · rw [if_pos h1, if_neg (fun h => Int32.lt_irrefl (Int32.lt_trans h1 h))]
  · by_cases h2 : x < 40
    · rw [if_neg h1, if_pos h2]
    · rw [if_neg h1, if_neg h2]; exact Int32.le_antisymm (Int32.not_lt.mp h2) (Int32.not_lt.mp h1)
theorem rk_ab (x : Int32) : (if 0 ≤ x then x else 0 - x) = (if x < 0 then -x else x) := by
  by_cases h : x < 0
  · rw [if_neg (Int32.not_le.mpr h), if_pos h]; grind
  · rw [if_pos (Int32.not_lt.mp h), if_neg h]
theorem cX6_qualityNow_s {a fi : Nat} {N : Nat → Int32} (h : cl_ru I R a N) (hf : fi < 3) : rk_P w l rk_mX6_qualityNow 2 [rk_a 7 a, rk_i (nI fi)] Sh I R (sp_qual N fi) := by
  refine rk_bP (ls := [(0, _), (1, _)]) (by decide) rfl (Nat.le_of_ble_eq_true rfl) ?_
  refine rk_aload_n 0 dX6_qualityNow_0 rfl rfl ?_
  refine rk_g7_0 rk_kX6_9 dX6_qualityNow_1 ?_
  refine rk_iconst 1 dX6_qualityNow_4 (by decide) ?_
  refine rk_rn17 1 dX6_qualityNow_5 rfl (by first | decide | assumption | omega) ?_
  refine rk_aload_n 0 dX6_qualityNow_6 rfl rfl ?_
  refine rk_g7_2 rk_kX6_18 dX6_qualityNow_7 ?_
  refine rk_pc (pc' := 10) rfl ?_
  refine rk_iload_n 1 dX6_qualityNow_10 rfl rfl ?_
  refine rk_rn19 (fi) dX6_qualityNow_11 (by first | rfl | decide | assumption | (simp only [rk_lit, nI_add, pk_mul, nI_1]; done) | (simp only [rk_lit, nI_add, pk_mul, nI_1]; congr 1; omega)) (by first | decide | assumption | omega) ?_
  refine rk_isub dX6_qualityNow_12 ?_
  refine rk_mabs dX6_qualityNow_13 (by exact rk_inT 483 (by decide +kernel) (by decide +kernel)) (by decide) (Nat.le_of_ble_eq_true rfl) ⟨Nat.le_refl _, Nat.le_refl _⟩ ?_
  refine rk_istore_n 2 (ls' := [(2, _), (0, _), (1, _)]) dX6_qualityNow_16 rfl (by decide) rfl ?_
  refine rk_bipush 40 dX6_qualityNow_17 (by decide) ?_
  refine rk_pc (pc' := 19) rfl ?_
  refine rk_bipush 100 dX6_qualityNow_19 (by decide) ?_
  refine rk_iconst 2 dX6_qualityNow_21 (by decide) ?_
  refine rk_iload_n 2 dX6_qualityNow_22 rfl rfl ?_
  refine rk_imul dX6_qualityNow_23 ?_
  refine rk_isub dX6_qualityNow_24 ?_
  refine rk_mmax dX6_qualityNow_25 (by exact rk_inT 478 (by decide +kernel) (by decide +kernel)) (by decide) (Nat.le_of_ble_eq_true rfl) ⟨Nat.le_refl _, Nat.le_refl _⟩ ?_
  refine rk_pc (pc' := 28) rfl ?_
  refine rk_iretP dX6_qualityNow_28 rfl rfl ?_
  rw [h.1 1 (by decide), h.2.2 fi hf, rk_ab, rk_qu]; rfl
theorem cX6_newStrength_s {a fi : Nat} {N : Nat → Int32} (h : cl_ru I R a N) (hf : fi < 3) (s y : Int32) : rk_P w l rk_mX6_newStrength 3 [rk_a 7 a, rk_i (nI fi), rk_i s, rk_i y] Sh I R (sp_news N fi s y) := by
  refine rk_bP (ls := [(0, _), (1, _), (2, _), (3, _)]) (by decide) rfl (Nat.le_of_ble_eq_true rfl) ?_
  refine rk_iload_n 2 dX6_newStrength_0 rfl rfl ?_
  refine rk_iload_n 3 dX6_newStrength_1 rfl rfl ?_
  refine rk_imul dX6_newStrength_2 ?_
  refine rk_aload_n 0 dX6_newStrength_3 rfl rfl ?_
  refine rk_g7_1 rk_kX6_15 dX6_newStrength_4 ?_
  refine rk_iload_n 1 dX6_newStrength_7 rfl rfl ?_
  refine rk_pc (pc' := 8) rfl ?_
  refine rk_rn18 (fi) dX6_newStrength_8 (by first | rfl | decide | assumption | (simp only [rk_lit, nI_add, pk_mul, nI_1]; done) | (simp only [rk_lit, nI_add, pk_mul, nI_1]; congr 1; omega)) (by first | decide | assumption | omega) ?_
  refine rk_imul dX6_newStrength_9 ?_
  refine rk_aload_n 0 dX6_newStrength_10 rfl rfl ?_
  refine rk_iload_n 1 dX6_newStrength_11 rfl rfl ?_
  refine rk_cVp (cX6_qualityNow_s h hf) rk_eX6_qualityNow rfl ⟨rfl, rfl⟩ rk_kX6_55 dX6_newStrength_12 rfl (by decide) (Nat.le_of_ble_eq_true rfl) ⟨Nat.le_refl _, Nat.le_refl _⟩ ?_
  refine rk_imul dX6_newStrength_15 ?_
  refine rk_pc (pc' := 16) rfl ?_
  refine rk_bipush 100 dX6_newStrength_16 (by decide) ?_
  refine rk_idiv dX6_newStrength_18 (by decide) ?_
  refine rk_iretP dX6_newStrength_19 rfl rfl ?_
  rw [h.2.1 fi hf]; rfl
end CR

