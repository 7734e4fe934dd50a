section MT
variable {w : rk_W} {l : Launch} {Sh : rk_Sh} {I : rk_Mm} {R : rk_Rm}
def sp_testN (N : Nat → Int32) (p : Nat) : Nat → Int32 := sp_u (sp_cut N p (N 5)) (30 + 4 * sp_c N (50 + 7 * p + 0) + 2) (N (30 + 4 * sp_c N (50 + 7 * p + 0) + 2) + sp_yin (N (50 + 7 * p + 4)) (N 5) (N (50 + 7 * p + 3)))
noncomputable def sp_test (N : Nat → Int32) (p : Int32) : sp_R := @ite _ (sp_ispc N p) (Classical.propDecidable _) (if N 5 ≤ N (50 + 7 * p.toNatClampNeg + 3) then (sp_st N (sp_P N p.toNatClampNeg), some (sp_testN N p.toNatClampNeg)) else (-5, none)) (-1, none)
theorem cX11_test_s {m u c : Nat} {T : Int} (hu : I 12 m 3 = nI u) (hu6 : u ≤ 6) (hv : sp_pv T (I 26 (R 12 m 0)) c) (x : Int32) : rk_J w l rk_mX11_test 4 [rk_a 12 m, rk_i x] Sh I R (md_Q I R m (sp_test (I 26 (R 12 m 0)) x)) := by
  have h26 : md_rec I R m 26 = I 26 := md_rec_c (by decide) (by decide)
  have h12 := hv.2.1
  have hc := hv.1
  refine rk_bJ (ls := [(0, _), (1, _)]) (by decide) rfl (Nat.le_of_ble_eq_true rfl) ?_
  refine rk_aload_n 0 dX11_test_0 rfl rfl ?_
  refine rk_iload_n 1 dX11_test_1 rfl rfl ?_
  refine rk_cVp (cX11_isPiece_s _) rk_eX11_isPiece rfl ⟨rfl, rfl⟩ rk_kX11_98 dX11_test_2 rfl (by decide) (Nat.le_of_ble_eq_true rfl) ⟨Nat.le_refl _, Nat.le_refl _⟩ ?_
  refine rk_if_ne 10 dX11_test_5 (by decide) (fun qz5 => ?_) (fun qz5 => ?_)
  · skip
    obtain ⟨p, hp, rfl⟩ := sp_is_n h12 (by omega) (sp_bt qz5)
    have clp : (nI p).toNatClampNeg = p := nI_clamp (by omega)
    obtain ⟨f, hf, hf0⟩ := hv.2.2.1 p hp
    have hsc : sp_c (I 26 (R 12 m 0)) (50 + 7 * p + 0) = f := sp_cN hf0 (by omega)
    refine rk_aload_n 0 dX11_test_10 rfl rfl ?_
    refine rk_iload_n 1 dX11_test_11 rfl rfl ?_
    refine rk_iconst 3 dX11_test_12 (by decide) ?_
    refine rk_pc (pc' := 13) rfl ?_
    refine rk_cVp (cX11_ofPiece_s p 3 rfl rfl (by omega) (by decide)) rk_eX11_ofPiece rfl ⟨rfl, rfl⟩ rk_kX11_91 dX11_test_13 rfl (by decide) (Nat.le_of_ble_eq_true rfl) ⟨Nat.le_refl _, Nat.le_refl _⟩ ?_
    refine rk_aload_n 0 dX11_test_16 rfl rfl ?_
    refine rk_g12_0 rk_kX11_7 dX11_test_17 ?_
    refine rk_iconst 5 dX11_test_20 (by decide) ?_
    refine rk_rn26 5 dX11_test_21 rfl (by first | decide | assumption | omega) ?_
    refine rk_icmp_ge 28 dX11_test_22 (by decide) (fun qz22 => ?_) (fun qz22 => ?_)
    · skip
      refine rk_aload_n 0 dX11_test_28 rfl rfl ?_
      refine rk_pc (pc' := 29) rfl ?_
      refine rk_cVv (cX11_record_s hu hu6) rk_eX11_record rfl ⟨rfl, rfl⟩ rk_kX11_54 dX11_test_29 rfl (by decide) (Nat.le_of_ble_eq_true rfl) ⟨Nat.le_refl _, Nat.le_refl _⟩ (fun Iz1 Rz1 hz1 => ?_)
      obtain ⟨qhz1, eIz1⟩ := hz1
      obtain rfl := qhz1.symm
      have h26z : Iz1 26 = I 26 := by rw [eIz1, h26]
      refine rk_aload_n 0 dX11_test_32 rfl rfl ?_
      refine rk_iload_n 1 dX11_test_33 rfl rfl ?_
      refine rk_cVp (cX11_strengthOf_s p f rfl (by omega) hf (by rw [h26z]; exact hf0)) rk_eX11_strengthOf rfl ⟨rfl, rfl⟩ rk_kX11_101 dX11_test_34 rfl (by decide) (Nat.le_of_ble_eq_true rfl) ⟨Nat.le_refl _, Nat.le_refl _⟩ ?_
      rw [h26z]
      refine rk_istore_n 2 (ls' := [(2, _), (0, _), (1, _)]) dX11_test_37 rfl (by decide) rfl ?_
      refine rk_aload_n 0 dX11_test_38 rfl rfl ?_
      refine rk_pc (pc' := 39) rfl ?_
      refine rk_iload_n 1 dX11_test_39 rfl rfl ?_
      refine rk_iconst 0 dX11_test_40 (by decide) ?_
      refine rk_cVp (cX11_ofPiece_s p 0 rfl rfl (by omega) (by decide)) rk_eX11_ofPiece rfl ⟨rfl, rfl⟩ rk_kX11_91 dX11_test_41 rfl (by decide) (Nat.le_of_ble_eq_true rfl) ⟨Nat.le_refl _, Nat.le_refl _⟩ ?_
      rw [h26z, hf0]
      refine rk_istore_n 3 (ls' := [(3, _), (2, _), (0, _), (1, _)]) dX11_test_44 rfl (by decide) rfl ?_
      refine rk_aload_n 0 dX11_test_45 rfl rfl ?_
      refine rk_g12_0 rk_kX11_7 dX11_test_46 ?_
      refine rk_pc (pc' := 49) rfl ?_
      refine rk_bipush 30 dX11_test_49 (by decide) ?_
      refine rk_iconst 4 dX11_test_51 (by decide) ?_
      refine rk_iload_n 3 dX11_test_52 rfl rfl ?_
      refine rk_imul dX11_test_53 ?_
      refine rk_iadd dX11_test_54 ?_
      refine rk_iconst 2 dX11_test_55 (by decide) ?_
      refine rk_pc (pc' := 56) rfl ?_
      refine rk_iadd dX11_test_56 ?_
      refine rk_dup2 dX11_test_57 rfl rfl ?_
      refine rk_rn26 (30 + 4 * f + 2) dX11_test_58 (by first | rfl | decide | assumption | (simp only [rk_lit, nI_add, pk_mul, nI_1]; done) | (simp only [rk_lit, nI_add, pk_mul, nI_1]; congr 1; omega)) (by first | decide | assumption | omega) ?_
      rw [h26z]
      refine rk_aload_n 0 dX11_test_59 rfl rfl ?_
      refine rk_iload_n 1 dX11_test_60 rfl rfl ?_
      refine rk_aload_n 0 dX11_test_61 rfl rfl ?_
      refine rk_pc (pc' := 62) rfl ?_
      refine rk_g12_0 rk_kX11_7 dX11_test_62 ?_
      refine rk_iconst 5 dX11_test_65 (by decide) ?_
      refine rk_rn26 5 dX11_test_66 rfl (by first | decide | assumption | omega) ?_
      rw [h26z]
      refine rk_cVi (cX11_cutFrom_s (f := f) rfl hc hp (by rw [h26z]; exact h12) hf (by rw [h26z]; exact hf0) (by rw [h26z]; exact Int32.lt_iff_toInt_lt.mpr (hv.2.2.2.1 p hp).1)) rk_eX11_cutFrom rfl ⟨rfl, rfl⟩ rk_kX11_104 dX11_test_67 rfl (by decide) (Nat.le_of_ble_eq_true rfl) ⟨Nat.le_refl _, Nat.le_refl _⟩ (fun xz2 Iz2 Rz2 hz2 => ?_)
      rw [h26z] at hz2
      obtain ⟨rfl, qhz2, eIz2⟩ := hz2
      obtain rfl := qhz2.symm
      refine rk_iadd dX11_test_70 ?_
      refine rk_sn26 (30 + 4 * f + 2) dX11_test_71 (by first | rfl | decide | assumption | (simp only [rk_lit, nI_add, pk_mul, nI_1]; done) | (simp only [rk_lit, nI_add, pk_mul, nI_1]; congr 1; omega)) (by first | decide | assumption | omega) (fun Iz3 eIz3 => ?_)
      have sz3 := rk_ufs eIz3
      have nz3 := rk_ufn eIz3
      have pz3 := md_c1 eIz3
      refine rk_pc (pc' := 72) rfl ?_
      refine rk_iload_n 2 dX11_test_72 rfl rfl ?_
      refine rk_iretJ dX11_test_73 rfl rfl ?_
      rw [show sp_test (I 26 (R 12 m 0)) (nI p) = (sp_st (I 26 (R 12 m 0)) (sp_P (I 26 (R 12 m 0)) p), some (sp_testN (I 26 (R 12 m 0)) p)) from (if_pos (sp_bt qz5)).trans (by rw [clp]; exact if_pos qz22)]
      refine ⟨rfl, rfl, ?_⟩
      rw [pz3, eIz2, eIz1, md_aa, md_as, sp_testN, hsc]
      rfl
    · skip
      refine rk_bipush (-5) dX11_test_25 (by decide) ?_
      refine rk_iretJ dX11_test_27 rfl rfl ?_
      rw [show sp_test (I 26 (R 12 m 0)) (nI p) = (-5, none) from (if_pos (sp_bt qz5)).trans (by rw [clp]; exact if_neg qz22)]
      exact ⟨rfl, rfl, rfl⟩
  · skip
    refine rk_iconst (-1) dX11_test_8 (by decide) ?_
    refine rk_iretJ dX11_test_9 rfl rfl ?_
    rw [show sp_test (I 26 (R 12 m 0)) x = (-1, none) from if_neg (sp_bf qz5)]
    exact ⟨rfl, rfl, rfl⟩
def sp_orderN (N : Nat → Int32) (k c : Nat) (st ft mn tr pr : Int32) : Nat → Int32 := sp_u (sp_u (sp_u (sp_u (sp_u (sp_u (sp_u (sp_u N (220 + 7 * c) (nI k)) (220 + 7 * c + 1) st) (220 + 7 * c + 2) ft) (220 + 7 * c + 3) mn) (220 + 7 * c + 4) (tr - tr / 2 * 2)) (220 + 7 * c + 5) (N 10 + tr / 2)) (220 + 7 * c + 6) pr) 13 (N 13 + 1)
def sp_orok (st ft mn tr pr : Int32) : Prop := (1 ≤ st ∧ st ≤ 50000) ∧ (1 ≤ ft ∧ ft ≤ 500) ∧ (1 ≤ mn ∧ mn ≤ 20) ∧ (0 ≤ tr ∧ tr ≤ 201) ∧ (0 ≤ pr ∧ pr ≤ 100000)
noncomputable def sp_order (N : Nat → Int32) (f st ft mn tr pr : Int32) : sp_R := @ite _ (0 ≤ f ∧ f ≤ 2) (Classical.propDecidable _) (@ite _ (sp_orok st ft mn tr pr) (Classical.propDecidable _) (@ite _ (N 13 = 16) (Classical.propDecidable _) (-4, none) (N 13 + 1 - 1, some (sp_orderN N f.toNatClampNeg (sp_c N 13) st ft mn tr pr))) (-2, none)) (-1, none)
theorem cX11_order_s {m u c : Nat} (hu : I 12 m 3 = nI u) (hu6 : u ≤ 6) (h13 : I 26 (R 12 m 0) 13 = nI c) (hc : c ≤ 16) (f st ft mn tr pr : Int32) : rk_J w l rk_mX11_order 3 [rk_a 12 m, rk_i f, rk_i st, rk_i ft, rk_i mn, rk_i tr, rk_i pr] Sh I R (md_Q I R m (sp_order (I 26 (R 12 m 0)) f st ft mn tr pr)) := by
  have h26 : md_rec I R m 26 = I 26 := md_rec_c (by decide) (by decide)
  have hcc : sp_c (I 26 (R 12 m 0)) 13 = c := sp_cN h13 (by omega)
  refine rk_bJ (ls := [(0, _), (1, _), (2, _), (3, _), (4, _), (5, _), (6, _)]) (by decide) rfl (Nat.le_of_ble_eq_true rfl) ?_
  refine rk_iload_n 1 dX11_order_0 rfl rfl ?_
  refine rk_cSp (cX11_isFibre_s _) rk_eX11_isFibre rfl rk_kX11_57 dX11_order_1 rfl (by decide) (Nat.le_of_ble_eq_true rfl) ⟨Nat.le_refl _, Nat.le_refl _⟩ ?_
  refine rk_if_ne 9 dX11_order_4 (by decide) (fun qz4 => ?_) (fun qz4 => ?_)
  · skip
    obtain ⟨k, hk, rfl⟩ := rk_in_n (n := 2) rfl (by decide) (sp_bt qz4)
    have hcl : (nI k).toNatClampNeg = k := nI_clamp (by omega)
    refine rk_iload_n 2 dX11_order_9 rfl rfl ?_
    refine rk_iconst 1 dX11_order_10 (by decide) ?_
    refine rk_ldc 50000 dX11_order_11 (by first | exact rk_inT 1018 (by decide +kernel) (by decide +kernel)) ?_
    refine rk_cSp (cX11_in_s _ _ _) rk_eX11_in rfl rk_kX11_43 dX11_order_13 rfl (by decide) (Nat.le_of_ble_eq_true rfl) ⟨Nat.le_refl _, Nat.le_refl _⟩ ?_
    refine rk_pc (pc' := 16) rfl ?_
    refine rk_if_eq 64 dX11_order_16 (by decide) (fun qz16 => ?_) (fun qz16 => ?_)
    · skip
      refine rk_bipush (-2) dX11_order_64 (by decide) ?_
      refine rk_iretJ dX11_order_66 rfl rfl ?_
      rw [show sp_order (I 26 (R 12 m 0)) (nI k) st ft mn tr pr = (-2, none) from (if_pos (sp_bt qz4)).trans (if_neg (by first | exact fun z => sp_bf qz16 z.1 | exact fun z => sp_bf qz27 z.2.1 | exact fun z => sp_bf qz38 z.2.2.1 | exact fun z => sp_bf qz50 z.2.2.2.1 | exact fun z => sp_bf qz61 z.2.2.2.2))]
      exact ⟨rfl, rfl, rfl⟩
    · skip
      refine rk_iload_n 3 dX11_order_19 rfl rfl ?_
      refine rk_iconst 1 dX11_order_20 (by decide) ?_
      refine rk_sipush 500 dX11_order_21 (by decide) ?_
      refine rk_cSp (cX11_in_s _ _ _) rk_eX11_in rfl rk_kX11_43 dX11_order_24 rfl (by decide) (Nat.le_of_ble_eq_true rfl) ⟨Nat.le_refl _, Nat.le_refl _⟩ ?_
      refine rk_if_eq 64 dX11_order_27 (by decide) (fun qz27 => ?_) (fun qz27 => ?_)
      · skip
        refine rk_bipush (-2) dX11_order_64 (by decide) ?_
        refine rk_pc (pc' := 66) rfl ?_
        refine rk_iretJ dX11_order_66 rfl rfl ?_
        rw [show sp_order (I 26 (R 12 m 0)) (nI k) st ft mn tr pr = (-2, none) from (if_pos (sp_bt qz4)).trans (if_neg (by first | exact fun z => sp_bf qz16 z.1 | exact fun z => sp_bf qz27 z.2.1 | exact fun z => sp_bf qz38 z.2.2.1 | exact fun z => sp_bf qz50 z.2.2.2.1 | exact fun z => sp_bf qz61 z.2.2.2.2))]
        exact ⟨rfl, rfl, rfl⟩
      · skip
        refine rk_iload dX11_order_30 rfl ?_
        refine rk_iconst 1 dX11_order_32 (by decide) ?_
        refine rk_bipush 20 dX11_order_33 (by decide) ?_
        refine rk_cSp (cX11_in_s _ _ _) rk_eX11_in rfl rk_kX11_43 dX11_order_35 rfl (by decide) (Nat.le_of_ble_eq_true rfl) ⟨Nat.le_refl _, Nat.le_refl _⟩ ?_
        refine rk_if_eq 64 dX11_order_38 (by decide) (fun qz38 => ?_) (fun qz38 => ?_)
        · skip
          refine rk_bipush (-2) dX11_order_64 (by decide) ?_
          refine rk_iretJ dX11_order_66 rfl rfl ?_
          rw [show sp_order (I 26 (R 12 m 0)) (nI k) st ft mn tr pr = (-2, none) from (if_pos (sp_bt qz4)).trans (if_neg (by first | exact fun z => sp_bf qz16 z.1 | exact fun z => sp_bf qz27 z.2.1 | exact fun z => sp_bf qz38 z.2.2.1 | exact fun z => sp_bf qz50 z.2.2.2.1 | exact fun z => sp_bf qz61 z.2.2.2.2))]
          exact ⟨rfl, rfl, rfl⟩
        · skip
          refine rk_iload dX11_order_41 rfl ?_
          refine rk_pc (pc' := 43) rfl ?_
          refine rk_iconst 0 dX11_order_43 (by decide) ?_
          refine rk_sipush 201 dX11_order_44 (by decide) ?_
          refine rk_cSp (cX11_in_s _ _ _) rk_eX11_in rfl rk_kX11_43 dX11_order_47 rfl (by decide) (Nat.le_of_ble_eq_true rfl) ⟨Nat.le_refl _, Nat.le_refl _⟩ ?_
          refine rk_if_eq 64 dX11_order_50 (by decide) (fun qz50 => ?_) (fun qz50 => ?_)
          · skip
            refine rk_bipush (-2) dX11_order_64 (by decide) ?_
            refine rk_iretJ dX11_order_66 rfl rfl ?_
            rw [show sp_order (I 26 (R 12 m 0)) (nI k) st ft mn tr pr = (-2, none) from (if_pos (sp_bt qz4)).trans (if_neg (by first | exact fun z => sp_bf qz16 z.1 | exact fun z => sp_bf qz27 z.2.1 | exact fun z => sp_bf qz38 z.2.2.1 | exact fun z => sp_bf qz50 z.2.2.2.1 | exact fun z => sp_bf qz61 z.2.2.2.2))]
            exact ⟨rfl, rfl, rfl⟩
          · skip
            refine rk_iload dX11_order_53 rfl ?_
            refine rk_iconst 0 dX11_order_55 (by decide) ?_
            refine rk_pc (pc' := 56) rfl ?_
            refine rk_ldc 100000 dX11_order_56 (by first | exact rk_inT 1019 (by decide +kernel) (by decide +kernel)) ?_
            refine rk_cSp (cX11_in_s _ _ _) rk_eX11_in rfl rk_kX11_43 dX11_order_58 rfl (by decide) (Nat.le_of_ble_eq_true rfl) ⟨Nat.le_refl _, Nat.le_refl _⟩ ?_
            refine rk_if_ne 67 dX11_order_61 (by decide) (fun qz61 => ?_) (fun qz61 => ?_)
            · skip
              refine rk_aload_n 0 dX11_order_67 rfl rfl ?_
              refine rk_g12_0 rk_kX11_7 dX11_order_68 ?_
              refine rk_bipush 13 dX11_order_71 (by decide) ?_
              refine rk_rn26 13 dX11_order_73 rfl (by first | decide | assumption | omega) ?_
              refine rk_pc (pc' := 74) rfl ?_
              refine rk_bipush 16 dX11_order_74 (by decide) ?_
              refine rk_icmp_ne 82 dX11_order_76 (by decide) (fun qz76 => ?_) (fun qz76 => ?_)
              · skip
                have hc16 : c < 16 := by
                  rcases Nat.lt_or_ge c 16 with g | g
                  · exact g
                  · obtain rfl : c = 16 := by omega
                    exact absurd h13 qz76
                refine rk_aload_n 0 dX11_order_82 rfl rfl ?_
                refine rk_cVv (cX11_record_s hu hu6) rk_eX11_record rfl ⟨rfl, rfl⟩ rk_kX11_54 dX11_order_83 rfl (by decide) (Nat.le_of_ble_eq_true rfl) ⟨Nat.le_refl _, Nat.le_refl _⟩ (fun Iz1 Rz1 hz1 => ?_)
                obtain ⟨qhz1, eIz1⟩ := hz1
                obtain rfl := qhz1.symm
                have h26z : Iz1 26 = I 26 := by rw [eIz1, h26]
                refine rk_sipush 220 dX11_order_86 (by decide) ?_
                refine rk_bipush 7 dX11_order_89 (by decide) ?_
                refine rk_aload_n 0 dX11_order_91 rfl rfl ?_
                refine rk_pc (pc' := 92) rfl ?_
                refine rk_g12_0 rk_kX11_7 dX11_order_92 ?_
                refine rk_bipush 13 dX11_order_95 (by decide) ?_
                refine rk_rn26 13 dX11_order_97 rfl (by first | decide | assumption | omega) ?_
                rw [h26z, h13]
                refine rk_imul dX11_order_98 ?_
                refine rk_iadd dX11_order_99 ?_
                refine rk_istore (ls' := [(7, _), (0, _), (1, _), (2, _), (3, _), (4, _), (5, _), (6, _)]) dX11_order_100 (by decide) rfl ?_
                refine rk_pc (pc' := 102) rfl ?_
                refine rk_aload_n 0 dX11_order_102 rfl rfl ?_
                refine rk_g12_0 rk_kX11_7 dX11_order_103 ?_
                refine rk_iload dX11_order_106 rfl ?_
                refine rk_iload_n 1 dX11_order_108 rfl rfl ?_
                refine rk_sn26 (220 + 7 * c) dX11_order_109 (by first | rfl | decide | assumption | (simp only [rk_lit, nI_add, pk_mul, nI_1]; done) | (simp only [rk_lit, nI_add, pk_mul, nI_1]; congr 1; omega)) (by first | decide | assumption | omega) (fun Iz2 eIz2 => ?_)
                have sz2 := rk_ufs eIz2
                have nz2 := rk_ufn eIz2
                have pz2 := md_c1 eIz2
                refine rk_aload_n 0 dX11_order_110 rfl rfl ?_
                refine rk_pc (pc' := 111) rfl ?_
                refine rk_g12_0 rk_kX11_7 dX11_order_111 ?_
                refine rk_iload dX11_order_114 rfl ?_
                refine rk_iconst 1 dX11_order_116 (by decide) ?_
                refine rk_iadd dX11_order_117 ?_
                refine rk_iload_n 2 dX11_order_118 rfl rfl ?_
                refine rk_sn26 (220 + 7 * c + 1) dX11_order_119 (by first | rfl | decide | assumption | (simp only [rk_lit, nI_add, pk_mul, nI_1]; done) | (simp only [rk_lit, nI_add, pk_mul, nI_1]; congr 1; omega)) (by first | decide | assumption | omega) (fun Iz3 eIz3 => ?_)
                have sz3 := rk_ufs eIz3
                have nz3 := rk_ufn eIz3
                have pz3 := md_ch pz2 eIz3
                refine rk_pc (pc' := 120) rfl ?_
                refine rk_aload_n 0 dX11_order_120 rfl rfl ?_
                refine rk_g12_0 rk_kX11_7 dX11_order_121 ?_
                refine rk_iload dX11_order_124 rfl ?_
                refine rk_iconst 2 dX11_order_126 (by decide) ?_
                refine rk_iadd dX11_order_127 ?_
                refine rk_iload_n 3 dX11_order_128 rfl rfl ?_
                refine rk_pc (pc' := 129) rfl ?_
                refine rk_sn26 (220 + 7 * c + 2) dX11_order_129 (by first | rfl | decide | assumption | (simp only [rk_lit, nI_add, pk_mul, nI_1]; done) | (simp only [rk_lit, nI_add, pk_mul, nI_1]; congr 1; omega)) (by first | decide | assumption | omega) (fun Iz4 eIz4 => ?_)
                have sz4 := rk_ufs eIz4
                have nz4 := rk_ufn eIz4
                have pz4 := md_ch pz3 eIz4
                refine rk_aload_n 0 dX11_order_130 rfl rfl ?_
                refine rk_g12_0 rk_kX11_7 dX11_order_131 ?_
                refine rk_iload dX11_order_134 rfl ?_
                refine rk_iconst 3 dX11_order_136 (by decide) ?_
                refine rk_iadd dX11_order_137 ?_
                refine rk_pc (pc' := 138) rfl ?_
                refine rk_iload dX11_order_138 rfl ?_
                refine rk_sn26 (220 + 7 * c + 3) dX11_order_140 (by first | rfl | decide | assumption | (simp only [rk_lit, nI_add, pk_mul, nI_1]; done) | (simp only [rk_lit, nI_add, pk_mul, nI_1]; congr 1; omega)) (by first | decide | assumption | omega) (fun Iz5 eIz5 => ?_)
                have sz5 := rk_ufs eIz5
                have nz5 := rk_ufn eIz5
                have pz5 := md_ch pz4 eIz5
                refine rk_aload_n 0 dX11_order_141 rfl rfl ?_
                refine rk_g12_0 rk_kX11_7 dX11_order_142 ?_
                refine rk_iload dX11_order_145 rfl ?_
                refine rk_iconst 4 dX11_order_147 (by decide) ?_
                refine rk_pc (pc' := 148) rfl ?_
                refine rk_iadd dX11_order_148 ?_
                refine rk_iload dX11_order_149 rfl ?_
                refine rk_iconst 2 dX11_order_151 (by decide) ?_
                refine rk_irem dX11_order_152 (by decide) ?_
                refine rk_sn26 (220 + 7 * c + 4) dX11_order_153 (by first | rfl | decide | assumption | (simp only [rk_lit, nI_add, pk_mul, nI_1]; done) | (simp only [rk_lit, nI_add, pk_mul, nI_1]; congr 1; omega)) (by first | decide | assumption | omega) (fun Iz6 eIz6 => ?_)
                have sz6 := rk_ufs eIz6
                have nz6 := rk_ufn eIz6
                have pz6 := md_ch pz5 eIz6
                refine rk_aload_n 0 dX11_order_154 rfl rfl ?_
                refine rk_pc (pc' := 155) rfl ?_
                refine rk_g12_0 rk_kX11_7 dX11_order_155 ?_
                refine rk_iload dX11_order_158 rfl ?_
                refine rk_iconst 5 dX11_order_160 (by decide) ?_
                refine rk_iadd dX11_order_161 ?_
                refine rk_aload_n 0 dX11_order_162 rfl rfl ?_
                refine rk_g12_0 rk_kX11_7 dX11_order_163 ?_
                refine rk_pc (pc' := 166) rfl ?_
                refine rk_bipush 10 dX11_order_166 (by decide) ?_
                refine rk_rn26 10 dX11_order_168 rfl (by first | decide | assumption | omega) ?_
                rw [nz6 (10) (by omega), nz5 (10) (by omega), nz4 (10) (by omega), nz3 (10) (by omega), nz2 (10) (by omega)]
                rw [h26z]
                refine rk_iload dX11_order_169 rfl ?_
                refine rk_iconst 2 dX11_order_171 (by decide) ?_
                refine rk_idiv dX11_order_172 (by decide) ?_
                refine rk_iadd dX11_order_173 ?_
                refine rk_pc (pc' := 174) rfl ?_
                refine rk_sn26 (220 + 7 * c + 5) dX11_order_174 (by first | rfl | decide | assumption | (simp only [rk_lit, nI_add, pk_mul, nI_1]; done) | (simp only [rk_lit, nI_add, pk_mul, nI_1]; congr 1; omega)) (by first | decide | assumption | omega) (fun Iz7 eIz7 => ?_)
                have sz7 := rk_ufs eIz7
                have nz7 := rk_ufn eIz7
                have pz7 := md_ch pz6 eIz7
                refine rk_aload_n 0 dX11_order_175 rfl rfl ?_
                refine rk_g12_0 rk_kX11_7 dX11_order_176 ?_
                refine rk_iload dX11_order_179 rfl ?_
                refine rk_bipush 6 dX11_order_181 (by decide) ?_
                refine rk_iadd dX11_order_183 ?_
                refine rk_pc (pc' := 184) rfl ?_
                refine rk_iload dX11_order_184 rfl ?_
                refine rk_sn26 (220 + 7 * c + 6) dX11_order_186 (by first | rfl | decide | assumption | (simp only [rk_lit, nI_add, pk_mul, nI_1]; done) | (simp only [rk_lit, nI_add, pk_mul, nI_1]; congr 1; omega)) (by first | decide | assumption | omega) (fun Iz8 eIz8 => ?_)
                have sz8 := rk_ufs eIz8
                have nz8 := rk_ufn eIz8
                have pz8 := md_ch pz7 eIz8
                refine rk_aload_n 0 dX11_order_187 rfl rfl ?_
                refine rk_g12_0 rk_kX11_7 dX11_order_188 ?_
                refine rk_bipush 13 dX11_order_191 (by decide) ?_
                refine rk_dup2 dX11_order_193 rfl rfl ?_
                refine rk_pc (pc' := 194) rfl ?_
                refine rk_rn26 13 dX11_order_194 rfl (by first | decide | assumption | omega) ?_
                rw [nz8 (13) (by omega), nz7 (13) (by omega), nz6 (13) (by omega), nz5 (13) (by omega), nz4 (13) (by omega), nz3 (13) (by omega), nz2 (13) (by omega)]
                rw [h26z]
                refine rk_iconst 1 dX11_order_195 (by decide) ?_
                refine rk_iadd dX11_order_196 ?_
                refine rk_sn26 13 dX11_order_197 rfl (by first | decide | assumption | omega) (fun Iz9 eIz9 => ?_)
                have sz9 := rk_ufs eIz9
                have nz9 := rk_ufn eIz9
                have pz9 := md_ch pz8 eIz9
                refine rk_aload_n 0 dX11_order_198 rfl rfl ?_
                refine rk_g12_0 rk_kX11_7 dX11_order_199 ?_
                refine rk_pc (pc' := 202) rfl ?_
                refine rk_bipush 13 dX11_order_202 (by decide) ?_
                refine rk_rn26 13 dX11_order_204 rfl (by first | decide | assumption | omega) ?_
                rw [sz9]
                refine rk_iconst 1 dX11_order_205 (by decide) ?_
                refine rk_isub dX11_order_206 ?_
                refine rk_iretJ dX11_order_207 rfl rfl ?_
                rw [show sp_order (I 26 (R 12 m 0)) (nI k) st ft mn tr pr = (I 26 (R 12 m 0) 13 + 1 - 1, some (sp_orderN (I 26 (R 12 m 0)) k c st ft mn tr pr)) from (if_pos (sp_bt qz4)).trans ((if_pos ⟨sp_bt qz16, sp_bt qz27, sp_bt qz38, sp_bt qz50, sp_bt qz61⟩).trans ((if_neg qz76).trans (by rw [hcl, hcc])))]
                exact ⟨rfl, rfl, by rw [pz9, eIz1, h26]; rfl⟩
              · skip
                refine rk_bipush (-4) dX11_order_79 (by decide) ?_
                refine rk_iretJ dX11_order_81 rfl rfl ?_
                rw [show sp_order (I 26 (R 12 m 0)) (nI k) st ft mn tr pr = (-4, none) from (if_pos (sp_bt qz4)).trans ((if_pos ⟨sp_bt qz16, sp_bt qz27, sp_bt qz38, sp_bt qz50, sp_bt qz61⟩).trans (if_pos qz76))]
                exact ⟨rfl, rfl, rfl⟩
            · skip
              refine rk_bipush (-2) dX11_order_64 (by decide) ?_
              refine rk_pc (pc' := 66) rfl ?_
              refine rk_iretJ dX11_order_66 rfl rfl ?_
              rw [show sp_order (I 26 (R 12 m 0)) (nI k) st ft mn tr pr = (-2, none) from (if_pos (sp_bt qz4)).trans (if_neg (by first | exact fun z => sp_bf qz16 z.1 | exact fun z => sp_bf qz27 z.2.1 | exact fun z => sp_bf qz38 z.2.2.1 | exact fun z => sp_bf qz50 z.2.2.2.1 | exact fun z => sp_bf qz61 z.2.2.2.2))]
              exact ⟨rfl, rfl, rfl⟩
  · skip
    refine rk_iconst (-1) dX11_order_7 (by decide) ?_
    refine rk_iretJ dX11_order_8 rfl rfl ?_
    rw [show sp_order (I 26 (R 12 m 0)) f st ft mn tr pr = (-1, none) from if_neg (sp_bf qz4)]
    exact ⟨rfl, rfl, rfl⟩
end MT

