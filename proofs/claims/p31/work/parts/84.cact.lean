section CR
variable {w : rk_W} {l : Launch} {Sh : rk_Sh} {rg : Nat → Nat} {I : rk_Mm} {R : rk_Rm} {y t : Nat} {N : Nat → Int32} {T : Int}
theorem cX10_isFibre_s {f : Int32} : rk_P w l rk_mX10_isFibre 2 [rk_i f] Sh I R (sp_b (0 ≤ f ∧ f ≤ 2)) := by
  refine rk_bP (ls := [(0, _)]) (by decide) rfl (Nat.le_of_ble_eq_true rfl) ?_
  refine rk_iload_n 0 dX10_isFibre_0 rfl rfl ?_
  refine rk_iconst 0 dX10_isFibre_1 (by decide) ?_
  refine rk_iconst 2 dX10_isFibre_2 (by decide) ?_
  refine rk_cSp (cX10_inRange_s _ _ _) rk_eX10_inRange rfl rk_kX10_114 dX10_isFibre_3 rfl (by decide) (Nat.le_of_ble_eq_true rfl) ⟨Nat.le_refl _, Nat.le_refl _⟩ ?_
  refine rk_iretP dX10_isFibre_6 rfl (by first | decide | exact rk_nz sp_bz) ?_
  rfl
theorem cX10_isMake_s {s b : Int32} : rk_P w l rk_mX10_isMake 2 [rk_i s, rk_i b] Sh I R (sp_b ((3 ≤ s ∧ s ≤ 4) ∧ (1 ≤ b ∧ b ≤ 40))) := by
  refine rk_bP (ls := [(0, _), (1, _)]) (by decide) rfl (Nat.le_of_ble_eq_true rfl) ?_
  refine rk_iload_n 0 dX10_isMake_0 rfl rfl ?_
  refine rk_iconst 3 dX10_isMake_1 (by decide) ?_
  refine rk_iconst 4 dX10_isMake_2 (by decide) ?_
  refine rk_cSp (cX10_inRange_s _ _ _) rk_eX10_inRange rfl rk_kX10_114 dX10_isMake_3 rfl (by decide) (Nat.le_of_ble_eq_true rfl) ⟨Nat.le_refl _, Nat.le_refl _⟩ ?_
  refine rk_if_eq 23 dX10_isMake_6 (by decide) (fun qz6 => ?_) (fun qz6 => ?_)
  · skip
    refine rk_iconst 0 dX10_isMake_23 (by decide) ?_
    refine rk_iretP dX10_isMake_24 rfl (by decide) ?_
    first | exact sp_b1 ⟨sp_bt qz6, sp_bt qz16⟩ | exact sp_b0 (fun z => sp_bf qz6 z.1) | exact sp_b0 (fun z => sp_bf qz16 z.2)
  · skip
    refine rk_iload_n 1 dX10_isMake_9 rfl rfl ?_
    refine rk_pc (pc' := 10) rfl ?_
    refine rk_iconst 1 dX10_isMake_10 (by decide) ?_
    refine rk_bipush 40 dX10_isMake_11 (by decide) ?_
    refine rk_cSp (cX10_inRange_s _ _ _) rk_eX10_inRange rfl rk_kX10_114 dX10_isMake_13 rfl (by decide) (Nat.le_of_ble_eq_true rfl) ⟨Nat.le_refl _, Nat.le_refl _⟩ ?_
    refine rk_if_eq 23 dX10_isMake_16 (by decide) (fun qz16 => ?_) (fun qz16 => ?_)
    · skip
      refine rk_iconst 0 dX10_isMake_23 (by decide) ?_
      refine rk_iretP dX10_isMake_24 rfl (by decide) ?_
      first | exact sp_b1 ⟨sp_bt qz6, sp_bt qz16⟩ | exact sp_b0 (fun z => sp_bf qz6 z.1) | exact sp_b0 (fun z => sp_bf qz16 z.2)
    · skip
      refine rk_iconst 1 dX10_isMake_19 (by decide) ?_
      refine rk_goto 24 dX10_isMake_20 (by decide) ?_
      refine rk_pc (pc' := 24) rfl ?_
      refine rk_iretP dX10_isMake_24 rfl (by decide) ?_
      first | exact sp_b1 ⟨sp_bt qz6, sp_bt qz16⟩ | exact sp_b0 (fun z => sp_bf qz6 z.1) | exact sp_b0 (fun z => sp_bf qz16 z.2)
theorem cl_ru.s17 {a j : Nat} {v : Int32} (h : cl_ru I R a N) (hj : j < 10) : cl_ru (rk_uI I 17 (R 7 a 0) j v) R a (sp_u N j v) := by
  refine ⟨fun i hi => ?_, fun f hf => ?_, fun f hf => ?_⟩
  · by_cases hij : i = j
    · subst hij; rw [rk_uI_s, sp_us]
    · rw [rk_uI_n (fun z => hij z.2.2), sp_un hij]; exact h.1 i hi
  · rw [rk_uI_n (fun z => absurd z.1 (by decide)), sp_un (by omega)]; exact h.2.1 f hf
  · rw [rk_uI_n (fun z => absurd z.1 (by decide)), sp_un (by omega)]; exact h.2.2 f hf
theorem cl_ru.s18 {a j : Nat} {v : Int32} (h : cl_ru I R a N) (hj : j < 3) : cl_ru (rk_uI I 18 (R 7 a 1) j v) R a (sp_u N (20 + 3 * j) v) := by
  refine ⟨fun i hi => ?_, fun f hf => ?_, fun f hf => ?_⟩
  · rw [rk_uI_n (fun z => absurd z.1 (by decide)), sp_un (by omega)]; exact h.1 i hi
  · by_cases hij : f = j
    · subst hij; rw [rk_uI_s, sp_us]
    · rw [rk_uI_n (fun z => hij z.2.2), sp_un (by omega)]; exact h.2.1 f hf
  · rw [rk_uI_n (fun z => absurd z.1 (by decide)), sp_un (by omega)]; exact h.2.2 f hf
theorem cl_ru.s19 {a j : Nat} {v : Int32} (h : cl_ru I R a N) (hj : j < 3) : cl_ru (rk_uI I 19 (R 7 a 2) j v) R a (sp_u N (20 + 3 * j + 1) v) := by
  refine ⟨fun i hi => ?_, fun f hf => ?_, fun f hf => ?_⟩
  · rw [rk_uI_n (fun z => absurd z.1 (by decide)), sp_un (by omega)]; exact h.1 i hi
  · rw [rk_uI_n (fun z => absurd z.1 (by decide)), sp_un (by omega)]; exact h.2.1 f hf
  · by_cases hij : f = j
    · subst hij; rw [rk_uI_s, sp_us]
    · rw [rk_uI_n (fun z => hij z.2.2), sp_un (by omega)]; exact h.2.2 f hf
theorem cX9_changeSetting_s (hw : cl_W w) (hv : sp_iv T N) (h : cl_y rg I R y t N) (s v : Int32) : rk_J w l rk_mX9_changeSetting 2 [rk_a 10 y, rk_i s, rk_i v] Sh I R (cl_Q rg I R y t N (sp_set N s v)) := by
  have hru := h.2.1
  by_cases h9 : 0 ≤ s ∧ s ≤ 9
  · obtain ⟨j, hj, rfl⟩ := rk_in_n (n := 9) rfl (by decide) h9
    have hcl : (nI j).toNatClampNeg = j := nI_clamp (by omega)
    have b1 : vp_in (nI j) (rk_fz w 1).2.1 := by rw [hw.2.1.1]; exact vp_in_nI (by omega) (by decide)
    have b2 : vp_in (nI j) (rk_fz w 2).2.1 := by rw [hw.2.2.1.1]; exact vp_in_nI (by omega) (by decide)
    refine rk_bJ (ls := [(0, _), (1, _), (2, _)]) (by decide) rfl (Nat.le_of_ble_eq_true rfl) ?_
    refine rk_iload_n 1 dX9_changeSetting_0 rfl rfl ?_
    refine rk_iconst 0 dX9_changeSetting_1 (by decide) ?_
    refine rk_bipush 9 dX9_changeSetting_2 (by decide) ?_
    refine rk_cSNp (cX10_inRange_s _ _ _) rk_eX10_inRange rfl rk_nX9_58 dX9_changeSetting_4 rfl (by decide) (Nat.le_of_ble_eq_true rfl) ⟨Nat.le_refl _, Nat.le_refl _⟩ ?_
    refine rk_if_eq 27 dX9_changeSetting_7 (by decide) (fun qz7 => ?_) (fun qz7 => ?_)
    · skip
      exact absurd h9 (sp_bf qz7)
    · skip
      refine rk_iload_n 2 dX9_changeSetting_10 rfl rfl ?_
      refine rk_gets 1 (by decide) rk_kX9_62 dX9_changeSetting_11 ?_
      refine rk_pc (pc' := 14) rfl ?_
      refine rk_iload_n 1 dX9_changeSetting_14 rfl rfl ?_
      refine rk_fald 101 1 (by decide) rfl dX9_changeSetting_15 (by first | decide | assumption | omega) ?_
      rw [hcl, hw.2.1.2 j (by omega)]
      refine rk_gets 2 (by decide) rk_kX9_66 dX9_changeSetting_16 ?_
      refine rk_iload_n 1 dX9_changeSetting_19 rfl rfl ?_
      refine rk_fald 102 2 (by decide) rfl dX9_changeSetting_20 (by first | decide | assumption | omega) ?_
      rw [hcl, hw.2.2.1.2 j (by omega)]
      refine rk_cSNp (cX10_inRange_s _ _ _) rk_eX10_inRange rfl rk_nX9_58 dX9_changeSetting_21 rfl (by decide) (Nat.le_of_ble_eq_true rfl) ⟨Nat.le_refl _, Nat.le_refl _⟩ ?_
      refine rk_pc (pc' := 24) rfl ?_
      refine rk_if_ne 30 dX9_changeSetting_24 (by decide) (fun qz24 => ?_) (fun qz24 => ?_)
      · skip
        refine rk_aload_n 0 dX9_changeSetting_30 rfl rfl ?_
        refine rk_g10_0 rk_kX9_12 dX9_changeSetting_31 ?_
        refine rk_g7_0 rk_kX9_69 dX9_changeSetting_34 ?_
        refine rk_iload_n 1 dX9_changeSetting_37 rfl rfl ?_
        refine rk_rn17 (j) dX9_changeSetting_38 (by first | rfl | decide | assumption | (simp only [rk_lit, nI_add, pk_mul, nI_1]; done) | (simp only [rk_lit, nI_add, pk_mul, nI_1]; congr 1; omega)) (by first | decide | assumption | omega) ?_
        rw [hru.1 j (by omega)]
        refine rk_istore_n 3 (ls' := [(3, _), (0, _), (1, _), (2, _)]) dX9_changeSetting_39 rfl (by decide) rfl ?_
        refine rk_pc (pc' := 40) rfl ?_
        refine rk_aload_n 0 dX9_changeSetting_40 rfl rfl ?_
        refine rk_g10_0 rk_kX9_12 dX9_changeSetting_41 ?_
        refine rk_g7_0 rk_kX9_69 dX9_changeSetting_44 ?_
        refine rk_iload_n 1 dX9_changeSetting_47 rfl rfl ?_
        refine rk_iload_n 2 dX9_changeSetting_48 rfl rfl ?_
        refine rk_sn17 (j) dX9_changeSetting_49 (by first | rfl | decide | assumption | (simp only [rk_lit, nI_add, pk_mul, nI_1]; done) | (simp only [rk_lit, nI_add, pk_mul, nI_1]; congr 1; omega)) (by first | decide | assumption | omega) (fun Iz1 eIz1 => ?_)
        refine rk_pc (pc' := 50) rfl ?_
        refine rk_iload_n 3 dX9_changeSetting_50 rfl rfl ?_
        refine rk_iretJ dX9_changeSetting_51 rfl rfl ?_
        refine cl_Q1 (M := sp_u N j v) (by unfold sp_set; rw [hcl, if_pos ⟨h9, sp_bt qz24⟩]) ?_ ?_
        · rw [eIz1]; exact cl_fr.ui (by rw [h.1.2.1.2.1]; omega)
        · rw [eIz1]; exact h.rl hv.c12 hv.c13 (hru.s17 (by omega)) (cl_fr.ui h.1.2.1.2.1) (fun i hi => sp_un (by omega))
      · skip
        refine rk_bipush (-2) dX9_changeSetting_27 (by decide) ?_
        refine rk_iretJ dX9_changeSetting_29 rfl rfl ?_
        exact cl_Q0 h (by unfold sp_set; rw [if_neg (fun z => sp_bf qz24 (by rw [hcl] at z; exact z.2))])
  · skip
    refine rk_bJ (ls := [(0, _), (1, _), (2, _)]) (by decide) rfl (Nat.le_of_ble_eq_true rfl) ?_
    refine rk_iload_n 1 dX9_changeSetting_0 rfl rfl ?_
    refine rk_iconst 0 dX9_changeSetting_1 (by decide) ?_
    refine rk_bipush 9 dX9_changeSetting_2 (by decide) ?_
    refine rk_cSNp (cX10_inRange_s _ _ _) rk_eX10_inRange rfl rk_nX9_58 dX9_changeSetting_4 rfl (by decide) (Nat.le_of_ble_eq_true rfl) ⟨Nat.le_refl _, Nat.le_refl _⟩ ?_
    refine rk_if_eq 27 dX9_changeSetting_7 (by decide) (fun qz7 => ?_) (fun qz7 => ?_)
    · skip
      refine rk_bipush (-2) dX9_changeSetting_27 (by decide) ?_
      refine rk_iretJ dX9_changeSetting_29 rfl rfl ?_
      exact cl_Q0 h (by unfold sp_set; rw [if_neg (fun z => h9 z.1)])
    · skip
      exact absurd (sp_bt qz7) h9
theorem cX9_changeFibre_s (hv : sp_iv T N) (h : cl_y rg I R y t N) (f st tw : Int32) : rk_J w l rk_mX9_changeFibre 3 [rk_a 10 y, rk_i f, rk_i st, rk_i tw] Sh I R (cl_Q rg I R y t N (sp_fibre N f st tw)) := by
  have hru := h.2.1
  by_cases h9 : 0 ≤ f ∧ f ≤ 2
  · have hbad : ¬ ((1 ≤ st ∧ st ≤ 200) ∧ 10 ≤ tw ∧ tw ≤ 60) → sp_fibre N f st tw = (-2, none) := fun z => by unfold sp_fibre; rw [if_pos h9, if_neg z]
    obtain ⟨j, hj, rfl⟩ := rk_in_n (n := 2) rfl (by decide) h9
    have hcl : (nI j).toNatClampNeg = j := nI_clamp (by omega)
    have hgood : ((1 ≤ st ∧ st ≤ 200) ∧ 10 ≤ tw ∧ tw ≤ 60) → sp_fibre N (nI j) st tw = (100 * N (20 + 3 * j) + N (20 + 3 * j + 1), some (sp_u (sp_u N (20 + 3 * j) st) (20 + 3 * j + 1) tw)) := fun z => by unfold sp_fibre; rw [if_pos h9, if_pos z, hcl]
    refine rk_bJ (ls := [(0, _), (1, _), (2, _), (3, _)]) (by decide) rfl (Nat.le_of_ble_eq_true rfl) ?_
    refine rk_iload_n 1 dX9_changeFibre_0 rfl rfl ?_
    refine rk_cSNp (cX10_isFibre_s) rk_eX10_isFibre rfl rk_nX9_72 dX9_changeFibre_1 rfl (by decide) (Nat.le_of_ble_eq_true rfl) ⟨Nat.le_refl _, Nat.le_refl _⟩ ?_
    refine rk_if_ne 9 dX9_changeFibre_4 (by decide) (fun qz4 => ?_) (fun qz4 => ?_)
    · skip
      refine rk_iload_n 2 dX9_changeFibre_9 rfl rfl ?_
      refine rk_iconst 1 dX9_changeFibre_10 (by decide) ?_
      refine rk_sipush 200 dX9_changeFibre_11 (by decide) ?_
      refine rk_cSNp (cX10_inRange_s _ _ _) rk_eX10_inRange rfl rk_nX9_58 dX9_changeFibre_14 rfl (by decide) (Nat.le_of_ble_eq_true rfl) ⟨Nat.le_refl _, Nat.le_refl _⟩ ?_
      refine rk_pc (pc' := 17) rfl ?_
      refine rk_if_eq 31 dX9_changeFibre_17 (by decide) (fun qz17 => ?_) (fun qz17 => ?_)
      · skip
        refine rk_bipush (-2) dX9_changeFibre_31 (by decide) ?_
        refine rk_iretJ dX9_changeFibre_33 rfl rfl ?_
        first | exact cl_Q0 h (hbad (fun z => sp_bf qz17 z.1)) | exact cl_Q0 h (hbad (fun z => sp_bf qz28 z.2))
      · skip
        refine rk_iload_n 3 dX9_changeFibre_20 rfl rfl ?_
        refine rk_bipush 10 dX9_changeFibre_21 (by decide) ?_
        refine rk_bipush 60 dX9_changeFibre_23 (by decide) ?_
        refine rk_cSNp (cX10_inRange_s _ _ _) rk_eX10_inRange rfl rk_nX9_58 dX9_changeFibre_25 rfl (by decide) (Nat.le_of_ble_eq_true rfl) ⟨Nat.le_refl _, Nat.le_refl _⟩ ?_
        refine rk_if_ne 34 dX9_changeFibre_28 (by decide) (fun qz28 => ?_) (fun qz28 => ?_)
        · skip
          refine rk_bipush 100 dX9_changeFibre_34 (by decide) ?_
          refine rk_pc (pc' := 36) rfl ?_
          refine rk_aload_n 0 dX9_changeFibre_36 rfl rfl ?_
          refine rk_g10_0 rk_kX9_12 dX9_changeFibre_37 ?_
          refine rk_g7_1 rk_kX9_76 dX9_changeFibre_40 ?_
          refine rk_iload_n 1 dX9_changeFibre_43 rfl rfl ?_
          refine rk_rn18 (j) dX9_changeFibre_44 (by first | rfl | decide | assumption | (simp only [rk_lit, nI_add, pk_mul, nI_1]; done) | (simp only [rk_lit, nI_add, pk_mul, nI_1]; congr 1; omega)) (by first | decide | assumption | omega) ?_
          rw [hru.2.1 j (by omega)]
          refine rk_imul dX9_changeFibre_45 ?_
          refine rk_pc (pc' := 46) rfl ?_
          refine rk_aload_n 0 dX9_changeFibre_46 rfl rfl ?_
          refine rk_g10_0 rk_kX9_12 dX9_changeFibre_47 ?_
          refine rk_g7_2 rk_kX9_79 dX9_changeFibre_50 ?_
          refine rk_iload_n 1 dX9_changeFibre_53 rfl rfl ?_
          refine rk_rn19 (j) dX9_changeFibre_54 (by first | rfl | decide | assumption | (simp only [rk_lit, nI_add, pk_mul, nI_1]; done) | (simp only [rk_lit, nI_add, pk_mul, nI_1]; congr 1; omega)) (by first | decide | assumption | omega) ?_
          rw [hru.2.2 j (by omega)]
          refine rk_iadd dX9_changeFibre_55 ?_
          refine rk_pc (pc' := 56) rfl ?_
          refine rk_istore (ls' := [(4, _), (0, _), (1, _), (2, _), (3, _)]) dX9_changeFibre_56 (by decide) rfl ?_
          refine rk_aload_n 0 dX9_changeFibre_58 rfl rfl ?_
          refine rk_g10_0 rk_kX9_12 dX9_changeFibre_59 ?_
          refine rk_g7_1 rk_kX9_76 dX9_changeFibre_62 ?_
          refine rk_iload_n 1 dX9_changeFibre_65 rfl rfl ?_
          refine rk_iload_n 2 dX9_changeFibre_66 rfl rfl ?_
          refine rk_pc (pc' := 67) rfl ?_
          refine rk_sn18 (j) dX9_changeFibre_67 (by first | rfl | decide | assumption | (simp only [rk_lit, nI_add, pk_mul, nI_1]; done) | (simp only [rk_lit, nI_add, pk_mul, nI_1]; congr 1; omega)) (by first | decide | assumption | omega) (fun Iz1 eIz1 => ?_)
          refine rk_aload_n 0 dX9_changeFibre_68 rfl rfl ?_
          refine rk_g10_0 rk_kX9_12 dX9_changeFibre_69 ?_
          refine rk_g7_2 rk_kX9_79 dX9_changeFibre_72 ?_
          refine rk_iload_n 1 dX9_changeFibre_75 rfl rfl ?_
          refine rk_iload_n 3 dX9_changeFibre_76 rfl rfl ?_
          refine rk_pc (pc' := 77) rfl ?_
          refine rk_sn19 (j) dX9_changeFibre_77 (by first | rfl | decide | assumption | (simp only [rk_lit, nI_add, pk_mul, nI_1]; done) | (simp only [rk_lit, nI_add, pk_mul, nI_1]; congr 1; omega)) (by first | decide | assumption | omega) (fun Iz2 eIz2 => ?_)
          refine rk_iload dX9_changeFibre_78 rfl ?_
          refine rk_iretJ dX9_changeFibre_80 rfl rfl ?_
          refine cl_Q1 (hgood ⟨sp_bt qz17, sp_bt qz28⟩) ?_ ?_
          · have g1 : cl_fr rg (fun z => z / 4 = t) I R Iz1 R := by rw [eIz1]; exact cl_fr.ui (by rw [h.1.2.1.2.2.1]; omega)
            have g2 : cl_fr rg (fun z => z / 4 = t) Iz1 R Iz2 R := by rw [eIz2]; exact cl_fr.ui (by rw [h.1.2.1.2.2.2]; omega)
            exact g1.tr g2
          · have g1 : cl_fr rg (fun z => z = 4 * t + 1) I R Iz1 R := by rw [eIz1]; exact cl_fr.ui h.1.2.1.2.2.1
            have g2 : cl_fr rg (fun z => z = 4 * t + 1) Iz1 R Iz2 R := by rw [eIz2]; exact cl_fr.ui h.1.2.1.2.2.2
            have r2 : cl_ru Iz2 R (R 10 y 0) (sp_u (sp_u N (20 + 3 * j) st) (20 + 3 * j + 1) tw) := by rw [eIz2, eIz1]; exact (hru.s18 (by omega)).s19 (by omega)
            exact h.rl hv.c12 hv.c13 r2 (g1.tr g2) (fun i hi => by rw [sp_un (by omega), sp_un (by omega)])
        · skip
          refine rk_bipush (-2) dX9_changeFibre_31 (by decide) ?_
          refine rk_iretJ dX9_changeFibre_33 rfl rfl ?_
          first | exact cl_Q0 h (hbad (fun z => sp_bf qz17 z.1)) | exact cl_Q0 h (hbad (fun z => sp_bf qz28 z.2))
    · skip
      exact absurd h9 (sp_bf qz4)
  · skip
    refine rk_bJ (ls := [(0, _), (1, _), (2, _), (3, _)]) (by decide) rfl (Nat.le_of_ble_eq_true rfl) ?_
    refine rk_iload_n 1 dX9_changeFibre_0 rfl rfl ?_
    refine rk_cSNp (cX10_isFibre_s) rk_eX10_isFibre rfl rk_nX9_72 dX9_changeFibre_1 rfl (by decide) (Nat.le_of_ble_eq_true rfl) ⟨Nat.le_refl _, Nat.le_refl _⟩ ?_
    refine rk_if_ne 9 dX9_changeFibre_4 (by decide) (fun qz4 => ?_) (fun qz4 => ?_)
    · skip
      exact absurd (sp_bt qz4) h9
    · skip
      refine rk_iconst (-1) dX9_changeFibre_7 (by decide) ?_
      refine rk_iretJ dX9_changeFibre_8 rfl rfl ?_
      exact cl_Q0 h (by unfold sp_fibre; rw [if_neg h9])
theorem sp_acc_s {M : Nat → Int32} {f g k : Nat} {v : Int32} (hf : f < 3) (hg : g < 3) (hk : k < 6) (h12 : ∃ c, c ≤ 24 ∧ M 12 = nI c) : sp_acc (sp_u M (20 + 3 * f + 2) v) g k = if g = f ∧ k = 1 then v else sp_acc M g k := by
  by_cases hh : g = f ∧ k = 1
  · obtain ⟨rfl, rfl⟩ := hh
    rw [if_pos ⟨rfl, rfl⟩]
    show sp_u M (20 + 3 * g + 2) v (20 + 3 * g + 2) = v
    exact sp_us
  · rw [if_neg hh]
    by_cases hgf : g = f
    · subst hgf
      obtain ⟨c, hc2, hc⟩ := h12
      have e12 : sp_c (sp_u M (20 + 3 * g + 2) v) 12 = sp_c M 12 := by unfold sp_c; rw [sp_un (by omega)]
      have h24 : sp_c M 12 ≤ 24 := by rw [sp_cN hc (by omega)]; exact hc2
      simp only [sp_acc]
      rw [e12, sp_yp_c (N := M) (M := sp_u M (20 + 3 * g + 2) v) (fun i hi => ⟨sp_un (by omega), sp_un (by omega)⟩), if_neg (show ¬ k = 1 from fun z => hh ⟨rfl, z⟩), if_neg (show ¬ k = 1 from fun z => hh ⟨rfl, z⟩), sp_un (by omega), sp_un (by omega)]
    · obtain ⟨c, hc2, hc⟩ := h12
      have e12 : sp_c (sp_u M (20 + 3 * f + 2) v) 12 = sp_c M 12 := by unfold sp_c; rw [sp_un (by omega)]
      have h24 : sp_c M 12 ≤ 24 := by rw [sp_cN hc (by omega)]; exact hc2
      simp only [sp_acc]
      rw [e12, sp_yp_c (N := M) (M := sp_u M (20 + 3 * f + 2) v) (fun i hi => ⟨sp_un (by omega), sp_un (by omega)⟩), sp_un (by omega), sp_un (by omega), sp_un (by omega)]
theorem cl_spin {q r j : Nat} {ft : Int32} {I1 : rk_Mm} (hst : cl_st rg I R q r N) (h12 : ∃ c, c ≤ 24 ∧ N 12 = nI c) (hj : j < 3) (e1 : I1 = md_a I 22 (R 21 (R 8 q 2) j) (sp_u (sp_u (I 22 (R 21 (R 8 q 2) j)) 0 (I 22 (R 21 (R 8 q 2) j) 0 + ft)) 1 (I 22 (R 21 (R 8 q 2) j) 1 + ft))) : cl_st rg I1 R q r (sp_u (sp_u N (20 + 3 * j + 2) (N (20 + 3 * j + 2) + ft)) (30 + 4 * j) (N (30 + 4 * j) + ft)) ∧ cl_fr rg (fun z => z = r) I R I1 R := by
  obtain ⟨c, hc2, hc⟩ := h12
  obtain ⟨hs, hp, ha⟩ := hst
  have hA := ha.md (G := sp_u (sp_u (I 22 (R 21 (R 8 q 2) j)) 0 (I 22 (R 21 (R 8 q 2) j) 0 + ft)) 1 (I 22 (R 21 (R 8 q 2) j) 1 + ft)) hs hj
  rw [← e1] at hA
  have hP := hp.md (b := R 21 (R 8 q 2) j) (F := sp_u (sp_u (I 22 (R 21 (R 8 q 2) j)) 0 (I 22 (R 21 (R 8 q 2) j) 0 + ft)) 1 (I 22 (R 21 (R 8 q 2) j) 1 + ft))
  rw [← e1] at hP
  refine ⟨⟨hs, hP.cg hc hc2 (fun i hi => by rw [sp_un (by omega), sp_un (by omega)]), hA.cg (fun g hg k hk => ?_)⟩, by rw [e1]; exact cl_fr.ma (hs.2.2.2.2.1 j hj)⟩
  have e : sp_acc (sp_u (sp_u N (20 + 3 * j + 2) (N (20 + 3 * j + 2) + ft)) (30 + 4 * j) (N (30 + 4 * j) + ft)) g k = if g = j ∧ k = 0 then N (30 + 4 * j) + ft else sp_acc (sp_u N (20 + 3 * j + 2) (N (20 + 3 * j + 2) + ft)) g k := sp_acc_u (j := 0) hj hg (by decide) hk
  rw [e, sp_acc_s hj hg hk ⟨c, hc2, hc⟩, ha j hj 0 (by decide), ha j hj 1 (by decide)]
  by_cases hgj : g = j
  · subst hgj
    rw [if_pos rfl]
    by_cases h0 : k = 0
    · subst h0; rw [sp_un (by decide), sp_us, if_pos ⟨rfl, rfl⟩]; rfl
    · rw [if_neg (fun z => h0 z.2)]
      by_cases h1 : k = 1
      · subst h1; rw [sp_us, if_pos ⟨rfl, rfl⟩]; rfl
      · rw [sp_un h1, sp_un h0, if_neg (fun z => h1 z.2)]; exact ha g hg k hk
  · rw [if_neg hgj, if_neg (fun z => hgj z.1), if_neg (fun z => hgj z.1)]
theorem cX9_spinYarn_s (hv : sp_iv T N) (h : cl_y rg I R y t N) (f ft : Int32) : rk_J w l rk_mX9_spinYarn 3 [rk_a 10 y, rk_i f, rk_i ft] Sh I R (cl_Q rg I R y t N (sp_spin N f ft)) := by
  by_cases h9 : 0 ≤ f ∧ f ≤ 2
  · obtain ⟨j, hj, rfl⟩ := rk_in_n (n := 2) rfl (by decide) h9
    have hcl : (nI j).toNatClampNeg = j := nI_clamp (by omega)
    have hbad : ¬ (1 ≤ ft ∧ ft ≤ 3000000) → sp_spin N (nI j) ft = (-2, none) := fun z => by unfold sp_spin; rw [if_pos h9, if_neg z]
    have hful : (1 ≤ ft ∧ ft ≤ 3000000) → ¬ N (20 + 3 * j + 2) + ft ≤ 9000000 → sp_spin N (nI j) ft = (-5, none) := fun z z2 => by unfold sp_spin; rw [if_pos h9, if_pos z, hcl, if_neg z2]
    have hgood : (1 ≤ ft ∧ ft ≤ 3000000) → N (20 + 3 * j + 2) + ft ≤ 9000000 → sp_spin N (nI j) ft = (N (20 + 3 * j + 2) + ft, some (sp_u (sp_u N (20 + 3 * j + 2) (N (20 + 3 * j + 2) + ft)) (30 + 4 * j) (N (30 + 4 * j) + ft))) := fun z z2 => by unfold sp_spin; rw [if_pos h9, if_pos z, hcl, if_pos z2]
    have ha : I 22 (R 21 (R 8 (R 10 y 1) 2) j) 1 = N (20 + 3 * j + 2) := h.2.2.1.2.2 j (by omega) 1 (by decide)
    refine rk_bJ (ls := [(0, _), (1, _), (2, _)]) (by decide) rfl (Nat.le_of_ble_eq_true rfl) ?_
    refine rk_iload_n 1 dX9_spinYarn_0 rfl rfl ?_
    refine rk_cSNp (cX10_isFibre_s) rk_eX10_isFibre rfl rk_nX9_72 dX9_spinYarn_1 rfl (by decide) (Nat.le_of_ble_eq_true rfl) ⟨Nat.le_refl _, Nat.le_refl _⟩ ?_
    refine rk_if_ne 9 dX9_spinYarn_4 (by decide) (fun qz4 => ?_) (fun qz4 => ?_)
    · skip
      refine rk_iload_n 2 dX9_spinYarn_9 rfl rfl ?_
      refine rk_iconst 1 dX9_spinYarn_10 (by decide) ?_
      refine rk_ldc 3000000 dX9_spinYarn_11 (by first | exact rk_inT 432 (by decide +kernel) (by decide +kernel)) ?_
      refine rk_cSNp (cX10_inRange_s _ _ _) rk_eX10_inRange rfl rk_nX9_58 dX9_spinYarn_13 rfl (by decide) (Nat.le_of_ble_eq_true rfl) ⟨Nat.le_refl _, Nat.le_refl _⟩ ?_
      refine rk_pc (pc' := 16) rfl ?_
      refine rk_if_ne 22 dX9_spinYarn_16 (by decide) (fun qz16 => ?_) (fun qz16 => ?_)
      · skip
        refine rk_aload_n 0 dX9_spinYarn_22 rfl rfl ?_
        refine rk_g10_1 rk_kX9_21 dX9_spinYarn_23 ?_
        refine rk_g8_2 rk_kX9_83 dX9_spinYarn_26 ?_
        refine rk_iload_n 1 dX9_spinYarn_29 rfl rfl ?_
        refine rk_rn21 (j) dX9_spinYarn_30 (by first | rfl | decide | assumption | (simp only [rk_lit, nI_add, pk_mul, nI_1]; done) | (simp only [rk_lit, nI_add, pk_mul, nI_1]; congr 1; omega)) (by first | decide | assumption | omega) ?_
        refine rk_iconst 1 dX9_spinYarn_31 (by decide) ?_
        refine rk_pc (pc' := 32) rfl ?_
        refine rk_rn22 1 dX9_spinYarn_32 rfl (by first | decide | assumption | omega) ?_
        rw [ha]
        refine rk_iload_n 2 dX9_spinYarn_33 rfl rfl ?_
        refine rk_iadd dX9_spinYarn_34 ?_
        refine rk_ldc 9000000 dX9_spinYarn_35 (by first | exact rk_inT 433 (by decide +kernel) (by decide +kernel)) ?_
        refine rk_icmp_le 43 dX9_spinYarn_37 (by decide) (fun qz37 => ?_) (fun qz37 => ?_)
        · skip
          refine rk_aload_n 0 dX9_spinYarn_43 rfl rfl ?_
          refine rk_g10_1 rk_kX9_21 dX9_spinYarn_44 ?_
          refine rk_pc (pc' := 47) rfl ?_
          refine rk_iload_n 1 dX9_spinYarn_47 rfl rfl ?_
          refine rk_iload_n 2 dX9_spinYarn_48 rfl rfl ?_
          refine rk_cVi (cX7_addYarn_s (by omega)) rk_eX7_addYarn rfl ⟨rfl, rfl⟩ rk_kX9_88 dX9_spinYarn_49 rfl (by decide) (Nat.le_of_ble_eq_true rfl) ⟨Nat.le_refl _, Nat.le_refl _⟩ (fun xz1 Iz1 Rz1 hz1 => ?_)
          obtain ⟨rfl, qhz1, eIz1⟩ := hz1
          obtain rfl := qhz1.symm
          rw [ha]
          refine rk_iretJ dX9_spinYarn_52 rfl rfl ?_
          have g := cl_spin h.2.2.1 hv.c12 (by omega) eIz1
          exact cl_Q1 (hgood (sp_bt qz16) qz37) (g.2.mo (fun z hz => by omega)) (h.st hv.c13 g.1 g.2 (fun i hi => by rw [sp_un (by omega), sp_un (by omega)]))
        · skip
          refine rk_bipush (-5) dX9_spinYarn_40 (by decide) ?_
          refine rk_iretJ dX9_spinYarn_42 rfl rfl ?_
          exact cl_Q0 h (hful (sp_bt qz16) qz37)
      · skip
        refine rk_bipush (-2) dX9_spinYarn_19 (by decide) ?_
        refine rk_iretJ dX9_spinYarn_21 rfl rfl ?_
        exact cl_Q0 h (hbad (sp_bf qz16))
    · skip
      exact absurd h9 (sp_bf qz4)
  · skip
    refine rk_bJ (ls := [(0, _), (1, _), (2, _)]) (by decide) rfl (Nat.le_of_ble_eq_true rfl) ?_
    refine rk_iload_n 1 dX9_spinYarn_0 rfl rfl ?_
    refine rk_cSNp (cX10_isFibre_s) rk_eX10_isFibre rfl rk_nX9_72 dX9_spinYarn_1 rfl (by decide) (Nat.le_of_ble_eq_true rfl) ⟨Nat.le_refl _, Nat.le_refl _⟩ ?_
    refine rk_if_ne 9 dX9_spinYarn_4 (by decide) (fun qz4 => ?_) (fun qz4 => ?_)
    · skip
      exact absurd (sp_bt qz4) h9
    · skip
      refine rk_iconst (-1) dX9_spinYarn_7 (by decide) ?_
      refine rk_iretJ dX9_spinYarn_8 rfl rfl ?_
      exact cl_Q0 h (by unfold sp_spin; rw [if_neg h9])
end CR

