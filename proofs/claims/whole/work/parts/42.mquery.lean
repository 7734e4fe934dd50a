section MU
variable {w : rk_W} {l : Launch} {Sh : rk_Sh} {I : rk_Mm} {R : rk_Rm}
noncomputable def sp_piece (N : Nat → Int32) (p k : Int32) : Int32 := @ite _ (sp_ispc N p) (Classical.propDecidable _) (@ite _ (0 ≤ k ∧ k ≤ 6) (Classical.propDecidable _) (N (50 + 7 * p.toNatClampNeg + k.toNatClampNeg)) (if k = 7 then sp_st N (sp_P N p.toNatClampNeg) else -2)) (-1)
theorem cX11_piece_s {m c : Nat} {T : Int} (hv : sp_pv T (I 26 (R 12 m 0)) c) (x k : Int32) : rk_P w l rk_mX11_piece 3 [rk_a 12 m, rk_i x, rk_i k] Sh I R (sp_piece (I 26 (R 12 m 0)) x k) := by
  have h12 := hv.2.1
  have hc := hv.1
  refine rk_bP (ls := [(0, _), (1, _), (2, _)]) (by decide) rfl (Nat.le_of_ble_eq_true rfl) ?_
  refine rk_aload_n 0 dX11_piece_0 rfl rfl ?_
  refine rk_iload_n 1 dX11_piece_1 rfl rfl ?_
  refine rk_cVp (cX11_isPiece_s _) rk_eX11_isPiece rfl ⟨rfl, rfl⟩ rk_kX11_98 dX11_piece_2 rfl (by decide) (Nat.le_of_ble_eq_true rfl) ⟨Nat.le_refl _, Nat.le_refl _⟩ ?_
  refine rk_if_ne 10 dX11_piece_5 (by decide) (fun qz5 => ?_) (fun qz5 => ?_)
  · skip
    obtain ⟨p, hp, rfl⟩ := sp_is_n h12 (by omega) (sp_bt qz5)
    have clp : (nI p).toNatClampNeg = p := nI_clamp (by omega)
    obtain ⟨f, hf, hf0⟩ := hv.2.2.1 p hp
    refine rk_iload_n 2 dX11_piece_10 rfl rfl ?_
    refine rk_iconst 0 dX11_piece_11 (by decide) ?_
    refine rk_bipush 6 dX11_piece_12 (by decide) ?_
    refine rk_pc (pc' := 14) rfl ?_
    refine rk_cSp (cX11_in_s _ _ _) rk_eX11_in rfl rk_kX11_43 dX11_piece_14 rfl (by decide) (Nat.le_of_ble_eq_true rfl) ⟨Nat.le_refl _, Nat.le_refl _⟩ ?_
    refine rk_if_eq 29 dX11_piece_17 (by decide) (fun qz17 => ?_) (fun qz17 => ?_)
    · skip
      refine rk_iload_n 2 dX11_piece_29 rfl rfl ?_
      refine rk_bipush 7 dX11_piece_30 (by decide) ?_
      refine rk_icmp_ne 43 dX11_piece_32 (by decide) (fun qz32 => ?_) (fun qz32 => ?_)
      · skip
        refine rk_bipush (-2) dX11_piece_43 (by decide) ?_
        refine rk_iretP dX11_piece_45 rfl rfl ?_
        first | exact ((if_pos (sp_bt qz5)).trans ((if_pos (sp_bt qz17)).trans (by rw [clp, clq]))).symm | exact ((if_pos (sp_bt qz5)).trans ((if_neg (sp_bf qz17)).trans ((if_pos qz32).trans (by rw [clp])))).symm | exact ((if_pos (sp_bt qz5)).trans ((if_neg (sp_bf qz17)).trans (if_neg qz32))).symm
      · skip
        refine rk_aload_n 0 dX11_piece_35 rfl rfl ?_
        refine rk_iload_n 1 dX11_piece_36 rfl rfl ?_
        refine rk_pc (pc' := 37) rfl ?_
        refine rk_cVp (cX11_strengthOf_s p f rfl (by omega) hf hf0) rk_eX11_strengthOf rfl ⟨rfl, rfl⟩ rk_kX11_101 dX11_piece_37 rfl (by decide) (Nat.le_of_ble_eq_true rfl) ⟨Nat.le_refl _, Nat.le_refl _⟩ ?_
        refine rk_goto 45 dX11_piece_40 (by decide) ?_
        refine rk_iretP dX11_piece_45 rfl rfl ?_
        first | exact ((if_pos (sp_bt qz5)).trans ((if_pos (sp_bt qz17)).trans (by rw [clp, clq]))).symm | exact ((if_pos (sp_bt qz5)).trans ((if_neg (sp_bf qz17)).trans ((if_pos qz32).trans (by rw [clp])))).symm | exact ((if_pos (sp_bt qz5)).trans ((if_neg (sp_bf qz17)).trans (if_neg qz32))).symm
    · skip
      obtain ⟨q, hq, rfl⟩ := rk_in_n (n := 6) rfl (by decide) (sp_bt qz17)
      have clq : (nI q).toNatClampNeg = q := nI_clamp (by omega)
      refine rk_aload_n 0 dX11_piece_20 rfl rfl ?_
      refine rk_iload_n 1 dX11_piece_21 rfl rfl ?_
      refine rk_iload_n 2 dX11_piece_22 rfl rfl ?_
      refine rk_cVp (cX11_ofPiece_s p q rfl rfl (by omega) (by omega)) rk_eX11_ofPiece rfl ⟨rfl, rfl⟩ rk_kX11_91 dX11_piece_23 rfl (by decide) (Nat.le_of_ble_eq_true rfl) ⟨Nat.le_refl _, Nat.le_refl _⟩ ?_
      refine rk_pc (pc' := 26) rfl ?_
      refine rk_goto 45 dX11_piece_26 (by decide) ?_
      refine rk_iretP dX11_piece_45 rfl rfl ?_
      first | exact ((if_pos (sp_bt qz5)).trans ((if_pos (sp_bt qz17)).trans (by rw [clp, clq]))).symm | exact ((if_pos (sp_bt qz5)).trans ((if_neg (sp_bf qz17)).trans ((if_pos qz32).trans (by rw [clp])))).symm | exact ((if_pos (sp_bt qz5)).trans ((if_neg (sp_bf qz17)).trans (if_neg qz32))).symm
  · skip
    refine rk_iconst (-1) dX11_piece_8 (by decide) ?_
    refine rk_iretP dX11_piece_9 rfl rfl ?_
    exact (if_neg (sp_bf qz5)).symm
noncomputable def sp_ofOrder (N : Nat → Int32) (p k : Int32) : Int32 := @ite _ (sp_isor N p) (Classical.propDecidable _) (@ite _ (0 ≤ k ∧ k ≤ 6) (Classical.propDecidable _) (N (220 + 7 * p.toNatClampNeg + k.toNatClampNeg)) (if k = 7 then sp_ns N (sp_P N) (sp_O N p.toNatClampNeg) (sp_c N 12) else -2)) (-1)
theorem cX11_ofOrder_s {m c oc : Nat} {T : Int} (hv : sp_pv T (I 26 (R 12 m 0)) c) (h13 : I 26 (R 12 m 0) 13 = nI oc) (hoc : oc ≤ 16) (x k : Int32) : rk_P w l rk_mX11_ofOrder 5 [rk_a 12 m, rk_i x, rk_i k] Sh I R (sp_ofOrder (I 26 (R 12 m 0)) x k) := by
  have h12 := hv.2.1
  have hc := hv.1
  have hcc : sp_c (I 26 (R 12 m 0)) 12 = c := sp_cN h12 (by omega)
  refine rk_bP (ls := [(0, _), (1, _), (2, _)]) (by decide) rfl (Nat.le_of_ble_eq_true rfl) ?_
  refine rk_aload_n 0 dX11_ofOrder_0 rfl rfl ?_
  refine rk_iload_n 1 dX11_ofOrder_1 rfl rfl ?_
  refine rk_cVp (cX11_isOrder_s _) rk_eX11_isOrder rfl ⟨rfl, rfl⟩ rk_kX11_118 dX11_ofOrder_2 rfl (by decide) (Nat.le_of_ble_eq_true rfl) ⟨Nat.le_refl _, Nat.le_refl _⟩ ?_
  refine rk_if_ne 10 dX11_ofOrder_5 (by decide) (fun qz5 => ?_) (fun qz5 => ?_)
  · skip
    obtain ⟨p, hp, rfl⟩ := sp_is_n h13 (by omega) (sp_bt qz5)
    have clp : (nI p).toNatClampNeg = p := nI_clamp (by omega)
    refine rk_iload_n 2 dX11_ofOrder_10 rfl rfl ?_
    refine rk_iconst 0 dX11_ofOrder_11 (by decide) ?_
    refine rk_bipush 6 dX11_ofOrder_12 (by decide) ?_
    refine rk_pc (pc' := 14) rfl ?_
    refine rk_cSp (cX11_in_s _ _ _) rk_eX11_in rfl rk_kX11_43 dX11_ofOrder_14 rfl (by decide) (Nat.le_of_ble_eq_true rfl) ⟨Nat.le_refl _, Nat.le_refl _⟩ ?_
    refine rk_if_eq 29 dX11_ofOrder_17 (by decide) (fun qz17 => ?_) (fun qz17 => ?_)
    · skip
      refine rk_iload_n 2 dX11_ofOrder_29 rfl rfl ?_
      refine rk_bipush 7 dX11_ofOrder_30 (by decide) ?_
      refine rk_icmp_ne 43 dX11_ofOrder_32 (by decide) (fun qz32 => ?_) (fun qz32 => ?_)
      · skip
        refine rk_bipush (-2) dX11_ofOrder_43 (by decide) ?_
        refine rk_iretP dX11_ofOrder_45 rfl rfl ?_
        first | exact ((if_pos (sp_bt qz5)).trans ((if_pos (sp_bt qz17)).trans (by rw [clp, clq]))).symm | exact ((if_pos (sp_bt qz5)).trans ((if_neg (sp_bf qz17)).trans ((if_pos qz32).trans (by rw [clp, hcc])))).symm | exact ((if_pos (sp_bt qz5)).trans ((if_neg (sp_bf qz17)).trans (if_neg qz32))).symm
      · skip
        refine rk_aload_n 0 dX11_ofOrder_35 rfl rfl ?_
        refine rk_iload_n 1 dX11_ofOrder_36 rfl rfl ?_
        refine rk_pc (pc' := 37) rfl ?_
        refine rk_cVp (cX11_suiting_s rfl (by omega) hc h12 hv.2.2.1) rk_eX11_suiting rfl ⟨rfl, rfl⟩ rk_kX11_130 dX11_ofOrder_37 rfl (by decide) (Nat.le_of_ble_eq_true rfl) ⟨Nat.le_refl _, Nat.le_refl _⟩ ?_
        refine rk_goto 45 dX11_ofOrder_40 (by decide) ?_
        refine rk_iretP dX11_ofOrder_45 rfl rfl ?_
        first | exact ((if_pos (sp_bt qz5)).trans ((if_pos (sp_bt qz17)).trans (by rw [clp, clq]))).symm | exact ((if_pos (sp_bt qz5)).trans ((if_neg (sp_bf qz17)).trans ((if_pos qz32).trans (by rw [clp, hcc])))).symm | exact ((if_pos (sp_bt qz5)).trans ((if_neg (sp_bf qz17)).trans (if_neg qz32))).symm
    · skip
      obtain ⟨q, hq, rfl⟩ := rk_in_n (n := 6) rfl (by decide) (sp_bt qz17)
      have clq : (nI q).toNatClampNeg = q := nI_clamp (by omega)
      refine rk_aload_n 0 dX11_ofOrder_20 rfl rfl ?_
      refine rk_iload_n 1 dX11_ofOrder_21 rfl rfl ?_
      refine rk_iload_n 2 dX11_ofOrder_22 rfl rfl ?_
      refine rk_cVp (cX11_orderAt_s p q rfl rfl (by omega) (by omega)) rk_eX11_orderAt rfl ⟨rfl, rfl⟩ rk_kX11_109 dX11_ofOrder_23 rfl (by decide) (Nat.le_of_ble_eq_true rfl) ⟨Nat.le_refl _, Nat.le_refl _⟩ ?_
      refine rk_pc (pc' := 26) rfl ?_
      refine rk_goto 45 dX11_ofOrder_26 (by decide) ?_
      refine rk_iretP dX11_ofOrder_45 rfl rfl ?_
      first | exact ((if_pos (sp_bt qz5)).trans ((if_pos (sp_bt qz17)).trans (by rw [clp, clq]))).symm | exact ((if_pos (sp_bt qz5)).trans ((if_neg (sp_bf qz17)).trans ((if_pos qz32).trans (by rw [clp, hcc])))).symm | exact ((if_pos (sp_bt qz5)).trans ((if_neg (sp_bf qz17)).trans (if_neg qz32))).symm
  · skip
    refine rk_iconst (-1) dX11_ofOrder_8 (by decide) ?_
    refine rk_iretP dX11_ofOrder_9 rfl rfl ?_
    exact (if_neg (sp_bf qz5)).symm
theorem cX11_newStrength_s {m fi : Nat} (hf : fi < 3) (s y : Int32) : rk_P w l rk_mX11_newStrength 2 [rk_a 12 m, rk_i (nI fi), rk_i s, rk_i y] Sh I R (sp_news (I 26 (R 12 m 0)) fi s y) := by
  refine rk_bP (ls := [(0, _), (1, _), (2, _), (3, _)]) (by decide) rfl (Nat.le_of_ble_eq_true rfl) ?_
  refine rk_iload_n 2 dX11_newStrength_0 rfl rfl ?_
  refine rk_iload_n 3 dX11_newStrength_1 rfl rfl ?_
  refine rk_imul dX11_newStrength_2 ?_
  refine rk_aload_n 0 dX11_newStrength_3 rfl rfl ?_
  refine rk_g12_0 rk_kX11_7 dX11_newStrength_4 ?_
  refine rk_bipush 20 dX11_newStrength_7 (by decide) ?_
  refine rk_pc (pc' := 9) rfl ?_
  refine rk_iconst 3 dX11_newStrength_9 (by decide) ?_
  refine rk_iload_n 1 dX11_newStrength_10 rfl rfl ?_
  refine rk_imul dX11_newStrength_11 ?_
  refine rk_iadd dX11_newStrength_12 ?_
  refine rk_rn26 (20 + 3 * fi) dX11_newStrength_13 (by first | rfl | decide | assumption | (simp only [rk_lit, nI_add, pk_mul, nI_1]; done) | (simp only [rk_lit, nI_add, pk_mul, nI_1]; congr 1; omega)) (by first | decide | assumption | omega) ?_
  refine rk_imul dX11_newStrength_14 ?_
  refine rk_pc (pc' := 15) rfl ?_
  refine rk_aload_n 0 dX11_newStrength_15 rfl rfl ?_
  refine rk_iload_n 1 dX11_newStrength_16 rfl rfl ?_
  refine rk_cVp (cX11_qualityOf_s hf) rk_eX11_qualityOf rfl ⟨rfl, rfl⟩ rk_kX11_88 dX11_newStrength_17 rfl (by decide) (Nat.le_of_ble_eq_true rfl) ⟨Nat.le_refl _, Nat.le_refl _⟩ ?_
  refine rk_imul dX11_newStrength_20 ?_
  refine rk_bipush 100 dX11_newStrength_21 (by decide) ?_
  refine rk_idiv dX11_newStrength_23 (by decide) ?_
  refine rk_pc (pc' := 24) rfl ?_
  refine rk_iretP dX11_newStrength_24 rfl rfl ?_
  rfl
noncomputable def sp_takes (N : Nat → Int32) (f s y ft k : Int32) : Int32 := @ite _ (0 ≤ f ∧ f ≤ 2) (Classical.propDecidable _) (@ite _ (((3 ≤ s ∧ s ≤ 4) ∧ (1 ≤ y ∧ y ≤ 40)) ∧ 1 ≤ ft ∧ ft ≤ 2000) (Classical.propDecidable _) (sp_take N f.toNatClampNeg s y ft k) (-2)) (-1)
theorem cX11_takes_s {m : Nat} (h8 : 1 ≤ I 26 (R 12 m 0) 8) (f s y ft k : Int32) : rk_P w l rk_mX11_takes 4 [rk_a 12 m, rk_i f, rk_i s, rk_i y, rk_i ft, rk_i k] Sh I R (sp_takes (I 26 (R 12 m 0)) f s y ft k) := by
  refine rk_bP (ls := [(0, _), (1, _), (2, _), (3, _), (4, _), (5, _)]) (by decide) rfl (Nat.le_of_ble_eq_true rfl) ?_
  refine rk_iload_n 1 dX11_takes_0 rfl rfl ?_
  refine rk_cSp (cX11_isFibre_s _) rk_eX11_isFibre rfl rk_kX11_57 dX11_takes_1 rfl (by decide) (Nat.le_of_ble_eq_true rfl) ⟨Nat.le_refl _, Nat.le_refl _⟩ ?_
  refine rk_if_ne 9 dX11_takes_4 (by decide) (fun qz4 => ?_) (fun qz4 => ?_)
  · skip
    obtain ⟨fi, hfi, rfl⟩ := rk_in_n (n := 2) rfl (by decide) (sp_bt qz4)
    have hcl : (nI fi).toNatClampNeg = fi := nI_clamp (by omega)
    refine rk_iload_n 2 dX11_takes_9 rfl rfl ?_
    refine rk_iload_n 3 dX11_takes_10 rfl rfl ?_
    refine rk_cSp (cX11_areStrands_s _ _) rk_eX11_areStrands rfl rk_kX11_80 dX11_takes_11 rfl (by decide) (Nat.le_of_ble_eq_true rfl) ⟨Nat.le_refl _, Nat.le_refl _⟩ ?_
    refine rk_if_eq 29 dX11_takes_14 (by decide) (fun qz14 => ?_) (fun qz14 => ?_)
    · skip
      refine rk_bipush (-2) dX11_takes_29 (by decide) ?_
      refine rk_pc (pc' := 31) rfl ?_
      refine rk_iretP dX11_takes_31 rfl rfl ?_
      exact ((if_pos (sp_bt qz4)).trans (by first | exact if_neg (fun z => sp_bf qz14 z.1) | exact if_neg (fun z => sp_bf qz26 z.2))).symm
    · skip
      refine rk_iload dX11_takes_17 rfl ?_
      refine rk_iconst 1 dX11_takes_19 (by decide) ?_
      refine rk_sipush 2000 dX11_takes_20 (by decide) ?_
      refine rk_cSp (cX11_in_s _ _ _) rk_eX11_in rfl rk_kX11_43 dX11_takes_23 rfl (by decide) (Nat.le_of_ble_eq_true rfl) ⟨Nat.le_refl _, Nat.le_refl _⟩ ?_
      refine rk_if_ne 32 dX11_takes_26 (by decide) (fun qz26 => ?_) (fun qz26 => ?_)
      · skip
        have hgo : sp_takes (I 26 (R 12 m 0)) (nI fi) s y ft k = sp_take (I 26 (R 12 m 0)) fi s y ft k := (if_pos (sp_bt qz4)).trans ((if_pos ⟨sp_bt qz14, sp_bt qz26⟩).trans (by rw [hcl]))
        refine rk_iload dX11_takes_32 rfl ?_
        refine rk_tsw 107 dX11_takes_34 (by decide) (by decide) (by decide) ?_ (fun qz34 => ?_)
        · refine ⟨fun qz34 => ?_, fun qz34 => ?_, fun qz34 => ?_, fun qz34 => ?_, fun qz34 => ?_, trivial⟩
          · skip
            have hw : k = 0 := rk_toI qz34 (by decide)
            refine rk_pc (pc' := 68) (by decide) ?_
            refine rk_aload_n 0 dX11_takes_68 rfl rfl ?_
            refine rk_pc (pc' := 69) rfl ?_
            refine rk_iload dX11_takes_69 rfl ?_
            refine rk_cVp (cX11_strandOf_s _) rk_eX11_strandOf rfl ⟨rfl, rfl⟩ rk_kX11_67 dX11_takes_71 rfl (by decide) (Nat.le_of_ble_eq_true rfl) ⟨Nat.le_refl _, Nat.le_refl _⟩ ?_
            refine rk_iretP dX11_takes_74 rfl rfl ?_
            rw [hgo]; exact sp_take0 hw
          · skip
            have hw : k = 1 := rk_toI qz34 (by decide)
            refine rk_pc (pc' := 75) (by decide) ?_
            refine rk_aload_n 0 dX11_takes_75 rfl rfl ?_
            refine rk_iload dX11_takes_76 rfl ?_
            refine rk_cVp (cX11_yarnOf_s _) rk_eX11_yarnOf rfl ⟨rfl, rfl⟩ rk_kX11_70 dX11_takes_78 rfl (by decide) (Nat.le_of_ble_eq_true rfl) ⟨Nat.le_refl _, Nat.le_refl _⟩ ?_
            refine rk_iretP dX11_takes_81 rfl rfl ?_
            rw [hgo]; exact sp_take1 hw
          · skip
            have hw : k = 2 := rk_toI qz34 (by decide)
            refine rk_pc (pc' := 82) (by decide) ?_
            refine rk_iload_n 2 dX11_takes_82 rfl rfl ?_
            refine rk_pc (pc' := 83) rfl ?_
            refine rk_iload_n 3 dX11_takes_83 rfl rfl ?_
            refine rk_imul dX11_takes_84 ?_
            refine rk_aload_n 0 dX11_takes_85 rfl rfl ?_
            refine rk_iload dX11_takes_86 rfl ?_
            refine rk_cVp (cX11_yarnOf_s _) rk_eX11_yarnOf rfl ⟨rfl, rfl⟩ rk_kX11_70 dX11_takes_88 rfl (by decide) (Nat.le_of_ble_eq_true rfl) ⟨Nat.le_refl _, Nat.le_refl _⟩ ?_
            refine rk_imul dX11_takes_91 ?_
            refine rk_pc (pc' := 92) rfl ?_
            refine rk_iretP dX11_takes_92 rfl rfl ?_
            rw [hgo]; exact sp_take2 hw
          · skip
            have hw : k = 3 := rk_toI qz34 (by decide)
            refine rk_pc (pc' := 93) (by decide) ?_
            refine rk_aload_n 0 dX11_takes_93 rfl rfl ?_
            refine rk_iload_n 2 dX11_takes_94 rfl rfl ?_
            refine rk_iload dX11_takes_95 rfl ?_
            refine rk_cVp (cX11_hoursOf_s h8 _ _) rk_eX11_hoursOf rfl ⟨rfl, rfl⟩ rk_kX11_73 dX11_takes_97 rfl (by decide) (Nat.le_of_ble_eq_true rfl) ⟨Nat.le_refl _, Nat.le_refl _⟩ ?_
            refine rk_iretP dX11_takes_100 rfl rfl ?_
            rw [hgo]; exact sp_take3 hw
          · skip
            have hw : k = 4 := rk_toI qz34 (by decide)
            refine rk_pc (pc' := 101) (by decide) ?_
            refine rk_aload_n 0 dX11_takes_101 rfl rfl ?_
            refine rk_iload_n 1 dX11_takes_102 rfl rfl ?_
            refine rk_pc (pc' := 103) rfl ?_
            refine rk_cVp (cX11_qualityOf_s (by omega)) rk_eX11_qualityOf rfl ⟨rfl, rfl⟩ rk_kX11_88 dX11_takes_103 rfl (by decide) (Nat.le_of_ble_eq_true rfl) ⟨Nat.le_refl _, Nat.le_refl _⟩ ?_
            refine rk_iretP dX11_takes_106 rfl rfl ?_
            rw [hgo]; exact sp_take4 hw
        · skip
          refine rk_iload dX11_takes_107 rfl ?_
          refine rk_iconst 5 dX11_takes_109 (by decide) ?_
          refine rk_icmp_ne 123 dX11_takes_110 (by decide) (fun qz110 => ?_) (fun qz110 => ?_)
          · skip
            refine rk_bipush (-2) dX11_takes_123 (by decide) ?_
            refine rk_iretP dX11_takes_125 rfl rfl ?_
            rw [hgo]
            have n0 : ¬ k = 0 := fun z => by rw [z] at qz34; exact absurd qz34 (by decide)
            have n1 : ¬ k = 1 := fun z => by rw [z] at qz34; exact absurd qz34 (by decide)
            have n2 : ¬ k = 2 := fun z => by rw [z] at qz34; exact absurd qz34 (by decide)
            have n3 : ¬ k = 3 := fun z => by rw [z] at qz34; exact absurd qz34 (by decide)
            have n4 : ¬ k = 4 := fun z => by rw [z] at qz34; exact absurd qz34 (by decide)
            first | exact sp_take5 qz110 | (simp only [sp_take, if_neg n0, if_neg n1, if_neg n2, if_neg n3, if_neg n4, if_neg qz110]; done)
          · skip
            refine rk_aload_n 0 dX11_takes_113 rfl rfl ?_
            refine rk_iload_n 1 dX11_takes_114 rfl rfl ?_
            refine rk_pc (pc' := 115) rfl ?_
            refine rk_iload_n 2 dX11_takes_115 rfl rfl ?_
            refine rk_iload_n 3 dX11_takes_116 rfl rfl ?_
            refine rk_cVp (cX11_newStrength_s (by omega) _ _) rk_eX11_newStrength rfl ⟨rfl, rfl⟩ rk_kX11_136 dX11_takes_117 rfl (by decide) (Nat.le_of_ble_eq_true rfl) ⟨Nat.le_refl _, Nat.le_refl _⟩ ?_
            refine rk_goto 125 dX11_takes_120 (by decide) ?_
            refine rk_iretP dX11_takes_125 rfl rfl ?_
            rw [hgo]
            have n0 : ¬ k = 0 := fun z => by rw [z] at qz34; exact absurd qz34 (by decide)
            have n1 : ¬ k = 1 := fun z => by rw [z] at qz34; exact absurd qz34 (by decide)
            have n2 : ¬ k = 2 := fun z => by rw [z] at qz34; exact absurd qz34 (by decide)
            have n3 : ¬ k = 3 := fun z => by rw [z] at qz34; exact absurd qz34 (by decide)
            have n4 : ¬ k = 4 := fun z => by rw [z] at qz34; exact absurd qz34 (by decide)
            first | exact sp_take5 qz110 | (simp only [sp_take, if_neg n0, if_neg n1, if_neg n2, if_neg n3, if_neg n4, if_neg qz110]; done)
      · skip
        refine rk_bipush (-2) dX11_takes_29 (by decide) ?_
        refine rk_iretP dX11_takes_31 rfl rfl ?_
        exact ((if_pos (sp_bt qz4)).trans (by first | exact if_neg (fun z => sp_bf qz14 z.1) | exact if_neg (fun z => sp_bf qz26 z.2))).symm
  · skip
    refine rk_iconst (-1) dX11_takes_7 (by decide) ?_
    refine rk_pc (pc' := 8) rfl ?_
    refine rk_iretP dX11_takes_8 rfl rfl ?_
    exact (if_neg (sp_bf qz4)).symm
noncomputable def sp_longest (N : Nat → Int32) (f s y : Int32) : Int32 := @ite _ (0 ≤ f ∧ f ≤ 2) (Classical.propDecidable _) (@ite _ ((3 ≤ s ∧ s ≤ 4) ∧ (1 ≤ y ∧ y ≤ 40)) (Classical.propDecidable _) (sp_last (fun ft => sp_can N f.toNatClampNeg s y (nI ft)) 2000) (-2)) (-1)
theorem cX11_longest_l {m fi : Nat} {s y : Int32} (hf : fi < 3) (h8 : 1 ≤ I 26 (R 12 m 0) 8) : ∀ n : Nat, ∀ z : Int32, n ≤ 2000 → sp_last (fun ft => sp_can (I 26 (R 12 m 0)) fi s y (nI ft)) 2000 = sp_last (fun ft => sp_can (I 26 (R 12 m 0)) fi s y (nI ft)) n → rk_Wp w l rk_mX11_longest 5 0 0 (rk_GP w Sh I R (sp_last (fun ft => sp_can (I 26 (R 12 m 0)) fi s y (nI ft)) 2000)) 25 [(0, rk_a 12 m), (1, rk_i (nI fi)), (2, rk_i s), (3, rk_i y), (4, rk_i (nI n))] [] (Sh, 0, 0) I R := by
  intro n
  induction n with
  | zero =>
    intro z hn he
    refine rk_iload dX11_longest_25 rfl ?_
    refine rk_if_le 51 dX11_longest_27 (by decide) (fun qz27 => ?_) (fun qz27 => ?_)
    · skip
      refine rk_bipush (-6) dX11_longest_51 (by decide) ?_
      refine rk_iretP dX11_longest_53 rfl rfl ?_
      exact he.symm
    · skip
      exact absurd (by decide) qz27
  | succ n ih =>
    intro z hn he
    have hnle : ¬ nI (n + 1) ≤ 0 := nI_nle (by omega) (by omega)
    refine rk_iload dX11_longest_25 rfl ?_
    refine rk_if_le 51 dX11_longest_27 (by decide) (fun qz27 => ?_) (fun qz27 => ?_)
    · skip
      exact absurd qz27 hnle
    · skip
      refine rk_aload_n 0 dX11_longest_30 rfl rfl ?_
      refine rk_iload_n 1 dX11_longest_31 rfl rfl ?_
      refine rk_iload_n 2 dX11_longest_32 rfl rfl ?_
      refine rk_iload_n 3 dX11_longest_33 rfl rfl ?_
      refine rk_iload dX11_longest_34 rfl ?_
      refine rk_pc (pc' := 36) rfl ?_
      refine rk_cVp (cX11_canLay_s hf h8 _ _ _) rk_eX11_canLay rfl ⟨rfl, rfl⟩ rk_kX11_84 dX11_longest_36 rfl (by decide) (Nat.le_of_ble_eq_true rfl) ⟨Nat.le_refl _, Nat.le_refl _⟩ ?_
      refine rk_if_eq 45 dX11_longest_39 (by decide) (fun qz39 => ?_) (fun qz39 => ?_)
      · skip
        refine rk_iinc (-1) (ls' := [(4, _), (0, _), (1, _), (2, _), (3, _)]) dX11_longest_45 (by decide) rfl (by decide) rfl ?_
        refine rk_goto 25 dX11_longest_48 (by decide) ?_
        refine rk_ord [0, 1, 2, 3, 4] (ls' := [(0, _), (1, _), (2, _), (3, _), (4, _)]) rfl ?_
        rw [pk_m1]
        exact ih z (by omega) (by rw [he, sp_last0 (sp_bf qz39)])
      · skip
        refine rk_iload dX11_longest_42 rfl ?_
        refine rk_iretP dX11_longest_44 rfl rfl ?_
        rw [he]; exact sp_last1 (sp_bt qz39)
theorem cX11_longest_s {m : Nat} (h8 : 1 ≤ I 26 (R 12 m 0) 8) (f s y : Int32) : rk_P w l rk_mX11_longest 5 [rk_a 12 m, rk_i f, rk_i s, rk_i y] Sh I R (sp_longest (I 26 (R 12 m 0)) f s y) := by
  refine rk_bP (ls := [(0, _), (1, _), (2, _), (3, _)]) (by decide) rfl (Nat.le_of_ble_eq_true rfl) ?_
  refine rk_iload_n 1 dX11_longest_0 rfl rfl ?_
  refine rk_cSp (cX11_isFibre_s _) rk_eX11_isFibre rfl rk_kX11_57 dX11_longest_1 rfl (by decide) (Nat.le_of_ble_eq_true rfl) ⟨Nat.le_refl _, Nat.le_refl _⟩ ?_
  refine rk_if_ne 9 dX11_longest_4 (by decide) (fun qz4 => ?_) (fun qz4 => ?_)
  · skip
    refine rk_iload_n 2 dX11_longest_9 rfl rfl ?_
    refine rk_iload_n 3 dX11_longest_10 rfl rfl ?_
    refine rk_cSp (cX11_areStrands_s _ _) rk_eX11_areStrands rfl rk_kX11_80 dX11_longest_11 rfl (by decide) (Nat.le_of_ble_eq_true rfl) ⟨Nat.le_refl _, Nat.le_refl _⟩ ?_
    refine rk_if_ne 20 dX11_longest_14 (by decide) (fun qz14 => ?_) (fun qz14 => ?_)
    · skip
      refine rk_sipush 2000 dX11_longest_20 (by decide) ?_
      refine rk_pc (pc' := 23) rfl ?_
      refine rk_istore (ls' := [(4, _), (0, _), (1, _), (2, _), (3, _)]) dX11_longest_23 (by decide) rfl ?_
      refine rk_ord [0, 1, 2, 3, 4] (ls' := [(0, _), (1, _), (2, _), (3, _), (4, _)]) rfl ?_
      obtain ⟨fi, hfi, rfl⟩ := rk_in_n (n := 2) rfl (by decide) (sp_bt qz4)
      have hcl : (nI fi).toNatClampNeg = fi := nI_clamp (by omega)
      have hgo : sp_longest (I 26 (R 12 m 0)) (nI fi) s y = sp_last (fun ft => sp_can (I 26 (R 12 m 0)) fi s y (nI ft)) 2000 := (if_pos (sp_bt qz4)).trans ((if_pos (sp_bt qz14)).trans (by rw [hcl]))
      rw [hgo]
      have key : ∀ n : Nat, ∀ z : Int32, n ≤ 2000 → sp_last (fun ft => sp_can (I 26 (R 12 m 0)) fi s y (nI ft)) 2000 = sp_last (fun ft => sp_can (I 26 (R 12 m 0)) fi s y (nI ft)) n → rk_Wp w l rk_mX11_longest 5 0 0 (rk_GP w Sh I R (sp_last (fun ft => sp_can (I 26 (R 12 m 0)) fi s y (nI ft)) 2000)) 25 [(0, rk_a 12 m), (1, rk_i (nI fi)), (2, rk_i s), (3, rk_i y), (4, rk_i (nI n))] [] (Sh, 0, 0) I R := cX11_longest_l (by omega) h8
      exact key 2000 0 (Nat.le_refl _) rfl
    · skip
      refine rk_bipush (-2) dX11_longest_17 (by decide) ?_
      refine rk_iretP dX11_longest_19 rfl rfl ?_
      exact ((if_pos (sp_bt qz4)).trans (if_neg (sp_bf qz14))).symm
  · skip
    refine rk_iconst (-1) dX11_longest_7 (by decide) ?_
    refine rk_iretP dX11_longest_8 rfl rfl ?_
    exact (if_neg (sp_bf qz4)).symm
end MU

