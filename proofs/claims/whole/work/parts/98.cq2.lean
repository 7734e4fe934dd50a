section DH
variable {w : rk_W} {l : Launch} {Sh : rk_Sh} {rg : Nat → Nat} {I : rk_Mm} {R : rk_Rm} {N : Nat → Int32} {T : Int} {x n L : Nat} {Hs Sv : Nat → Nat → Int32} {F P : Nat → Int32}
/-- what changes the trial alone -/
theorem cl_X.tf {I' : rk_Mm} {R' : rk_Rm} (X : cl_X rg I R x N n Hs F Sv P L) (V : va_ok T N n Hs F Sv P L) (f : cl_fr rg (fun z => 40 ≤ z ∧ z < 88) I R I' R') (ht : cl_ts rg R' (R 11 x 6)) : cl_X rg I' R' x N n Hs F Sv P L := by
  obtain ⟨X1, X2, ⟨g, hh, hc⟩, X4, X5, X6⟩ := X
  have e11 := f.2.2 11 (by decide) (by decide) (by decide)
  refine ⟨X1.fr f (fun z hz => by omega) (X1.2.2.2.1.fr f (by omega)) ht (fun b hb => (X1.2.2.2.2.1 b hb).fr f (fun z hz => by omega)), ?_⟩
  rw [e11, f.2.2 24 (by decide) (by decide) (by decide), f.2.2 4 (by decide) (by decide) (by decide)]
  refine ⟨X2.fr0 f (by omega) V.1.1, ⟨g, hh.fr f (by omega), hc.fr hh f (fun z hz => by
    rcases hz with hz | ⟨i, hi, hz⟩
    · omega
    · have := V.2.1; have := hh.2.2.1 i (by omega); omega) V.2.1 V.2.2.1⟩, fun b hb => ?_, ?_, fun j hj => ?_⟩
  · obtain ⟨k1, k2, k3⟩ := X4 b hb
    refine ⟨by rw [f.1 25 _ (by rw [X1.2.2.1]; omega)]; exact k1, k2, fun h => ?_⟩
    exact (k3 h).fr0 f (fun z hz => by omega) (V.2.2.2.1 b hb h).1
  · rw [f.1 4 _ (by rw [X1.2.2.2.2.2.2.2.2.2.1]; omega)]; exact X5
  · rw [f.1 15 _ (by rw [X1.2.2.2.2.2.2.2.2.2.2]; omega)]; exact X6 j hj
theorem cX10_wouldFill_s (V : va_ok T N n Hs F Sv P L) (X : cl_X rg I R x N n Hs F Sv P L) (o k : Int32) : rk_J w l rk_mX10_wouldFill 7 [rk_a 11 x, rk_i o, rk_i k] Sh I R (fun r I' R' => r = sp_would N o k ∧ cl_X rg I' R' x N n Hs F Sv P L ∧ cl_fr rg (fun z => z < 104) I R I' R') := by
  obtain ⟨c, hc2, hc⟩ := V.1.1.c13
  have h1 : I 1 (R 10 (R 11 x 0) 2) 1 = N 13 := X.2.1.2.2.2.1.1
  by_cases hp : sp_isor N o
  · obtain ⟨i, hi, rfl⟩ := sp_isor_n hp hc hc2
    refine rk_bJ (ls := [(0, _), (1, _), (2, _)]) (by decide) rfl (Nat.le_of_ble_eq_true rfl) ?_
    refine rk_aload_n 0 dX10_wouldFill_0 rfl rfl ?_
    refine rk_g11_0 rk_kX10_10 dX10_wouldFill_1 ?_
    refine rk_g10_2 rk_kX10_149 dX10_wouldFill_4 ?_
    refine rk_iload_n 1 dX10_wouldFill_7 rfl rfl ?_
    refine rk_cVp (cX0_has_n h1) rk_eX0_has rfl ⟨rfl, rfl⟩ rk_kX10_153 dX10_wouldFill_8 rfl (by decide) (Nat.le_of_ble_eq_true rfl) ⟨Nat.le_refl _, Nat.le_refl _⟩ ?_
    refine rk_if_ne 16 dX10_wouldFill_11 (by decide) (fun qz11 => ?_) (fun qz11 => ?_)
    · skip
      refine rk_aload_n 0 dX10_wouldFill_16 rfl rfl ?_
      refine rk_pc (pc' := 17) rfl ?_
      refine rk_g11_6 rk_kX10_46 dX10_wouldFill_17 ?_
      refine rk_aload_n 0 dX10_wouldFill_20 rfl rfl ?_
      refine rk_g11_0 rk_kX10_10 dX10_wouldFill_21 ?_
      refine rk_iload_n 1 dX10_wouldFill_24 rfl rfl ?_
      refine rk_iload_n 2 dX10_wouldFill_25 rfl rfl ?_
      refine rk_cVi (cX8_fillOne_s V.1.1 X.2.1 (by decide) X.1.2.2.2.2.2.1 hc hc2 hi) rk_eX8_fillOne rfl ⟨rfl, rfl⟩ rk_kX10_158 dX10_wouldFill_26 rfl (by decide) (Nat.le_of_ble_eq_true rfl) ⟨Nat.le_refl _, Nat.le_refl _⟩ (fun xz1 Iz1 Rz1 hz1 => ?_)
      refine rk_pc (pc' := 29) rfl ?_
      refine rk_iretJ dX10_wouldFill_29 rfl rfl ?_
      exact ⟨hz1.1, X.tf V hz1.2.2 hz1.2.1, hz1.2.2.mo (fun z hz => by omega)⟩
    · skip
      exact absurd hp (sp_bf qz11)
  · skip
    refine rk_bJ (ls := [(0, _), (1, _), (2, _)]) (by decide) rfl (Nat.le_of_ble_eq_true rfl) ?_
    refine rk_aload_n 0 dX10_wouldFill_0 rfl rfl ?_
    refine rk_g11_0 rk_kX10_10 dX10_wouldFill_1 ?_
    refine rk_g10_2 rk_kX10_149 dX10_wouldFill_4 ?_
    refine rk_iload_n 1 dX10_wouldFill_7 rfl rfl ?_
    refine rk_cVp (cX0_has_n h1) rk_eX0_has rfl ⟨rfl, rfl⟩ rk_kX10_153 dX10_wouldFill_8 rfl (by decide) (Nat.le_of_ble_eq_true rfl) ⟨Nat.le_refl _, Nat.le_refl _⟩ ?_
    refine rk_if_ne 16 dX10_wouldFill_11 (by decide) (fun qz11 => ?_) (fun qz11 => ?_)
    · skip
      exact absurd (sp_bt qz11) hp
    · skip
      refine rk_iconst (-1) dX10_wouldFill_14 (by decide) ?_
      refine rk_pc (pc' := 15) rfl ?_
      refine rk_iretJ dX10_wouldFill_15 rfl rfl ?_
      exact ⟨by unfold sp_would; rw [if_neg hp], X, cl_fr.rf⟩
theorem sp_ow_iv {c : Nat} (hv : sp_iv T N) (hc : N 13 = nI c) (hc2 : c ≤ 16) : sp_ow T N 0 (min c 10) := by
  obtain ⟨⟨pc, hpv⟩, ⟨oc, ho1, ho2, ho3⟩, -⟩ := hv
  have hco : oc = c := (nI_eq (by omega) (by omega)).mp (ho2.symm.trans hc)
  subst hco
  refine ⟨⟨pc, hpv⟩, fun i _ hi => ?_⟩
  obtain ⟨k1, ⟨q, q1, q2, q3⟩, -⟩ := ho3 i (by omega)
  exact ⟨k1, q, by omega, q3⟩
theorem cX8_findBestSet_s {y t tr c : Nat} (hv : sp_iv T N) (h : cl_y rg I R y t N) (ht : t < 10) (hts : cl_ts rg R tr) (hc : N 13 = nI c) (hc2 : c ≤ 16) : rk_U w l rk_mX8_findBestSet 18 [rk_a 9 tr, rk_a 10 y] Sh I R (fun I' R' => cl_ts rg R' tr ∧ I' 9 tr 1 = nI (sp_bs N (min c 10) (2 ^ min c 10 - 1) 1 (0, 0, 0)).1 ∧ I' 9 tr 2 = (sp_bs N (min c 10) (2 ^ min c 10 - 1) 1 (0, 0, 0)).2.1 ∧ cl_fr rg (fun z => 40 ≤ z ∧ z < 88) I R I' R') := by
  have how := sp_ow_iv hv hc hc2
  have hbs := sp_ch_bs (N := N) (many := min c 10) (by omega) how
  obtain ⟨pc, hpv⟩ := hv.1
  have hs0 := hts.2.2 0 (by decide)
  have hpop : sp_pop 10 0 = 0 := sp_pop_0 10
  refine rk_bU (ls := [(0, _), (1, _)]) (by decide) rfl (Nat.le_of_ble_eq_true rfl) ?_
  refine rk_aload_n 0 dX8_findBestSet_0 rfl rfl ?_
  refine rk_iconst 0 dX8_findBestSet_1 (by decide) ?_
  refine rk_p9_1 rk_kX8_59 dX8_findBestSet_2 (fun Iz1 eIz1 => ?_)
  refine rk_aload_n 0 dX8_findBestSet_5 rfl rfl ?_
  refine rk_iconst 0 dX8_findBestSet_6 (by decide) ?_
  refine rk_p9_2 rk_kX8_62 dX8_findBestSet_7 (fun Iz2 eIz2 => ?_)
  have f1 : cl_fr rg (fun z => 40 ≤ z ∧ z < 88) I R Iz2 R := by rw [eIz2, eIz1]; exact (cl_fr.ui (S := fun z => 40 ≤ z ∧ z < 88) (by rw [hts.1]; decide)).tr (cl_fr.ui (S := fun z => 40 ≤ z ∧ z < 88) (by rw [hts.1]; decide))
  have y1 : cl_y rg Iz2 R y t N := h.fr0 f1 (by omega) hv
  refine rk_pc (pc' := 10) rfl ?_
  refine rk_aload_n 0 dX8_findBestSet_10 rfl rfl ?_
  refine rk_g9_0 rk_kX8_13 dX8_findBestSet_11 ?_
  refine rk_iconst 0 dX8_findBestSet_14 (by decide) ?_
  refine rk_rn23 0 dX8_findBestSet_15 rfl (by first | decide | assumption | omega) ?_
  refine rk_aload_n 1 dX8_findBestSet_16 rfl rfl ?_
  refine rk_g10_1 rk_kX8_18 dX8_findBestSet_17 ?_
  refine rk_pc (pc' := 20) rfl ?_
  refine rk_cVv (cX7_copyFrom_s (r := 4 * (10 + 0) + 2) (rp := 4 * t + 2) hs0 y1.2.2.1 (by omega) hpv.2.1 hpv.1) rk_eX7_copyFrom rfl ⟨rfl, rfl⟩ rk_kX8_24 dX8_findBestSet_20 rfl (by omega) (Nat.le_of_ble_eq_true rfl) ⟨Nat.le_refl _, Nat.le_refl _⟩ (fun Iz3 Rz3 hz3 => ?_)
  obtain ⟨qhz3, s3, f3⟩ := hz3
  obtain rfl := qhz3.symm
  have y3 : cl_y rg Iz3 R y t N := y1.fr0 f3 (by omega) hv
  have s3' : cl_st rg Iz3 R (R 23 (R 9 tr 0) (sp_pop 10 0)) (4 * (10 + sp_pop 10 0) + 2) N := by rw [hpop]; exact s3
  have b1 : Iz3 9 tr 1 = nI 0 := by rw [f3.1 9 tr (by rw [hts.1]; omega), rk_ufi eIz2 (by decide), rk_ufs eIz1]; rfl
  have b2 : Iz3 9 tr 2 = 0 := by rw [f3.1 9 tr (by rw [hts.1]; omega), rk_ufs eIz2]
  refine rk_aload_n 0 dX8_findBestSet_23 rfl rfl ?_
  refine rk_aload_n 1 dX8_findBestSet_24 rfl rfl ?_
  refine rk_iconst 0 dX8_findBestSet_25 (by decide) ?_
  refine rk_iconst 0 dX8_findBestSet_26 (by decide) ?_
  refine rk_iconst 0 dX8_findBestSet_27 (by decide) ?_
  refine rk_pc (pc' := 28) rfl ?_
  refine rk_cSv (cX8_choose_s (c := c) hv ht hc hc2 rfl (min c 10) 0 0 0 N Iz3 R 0 0 (by omega) (by decide) (by rw [hpop]; exact Nat.le_refl _) y3 hts how (fun j hj => rfl) s3' b1 b2 (by decide)) rk_eX8_choose rfl rk_kX8_65 dX8_findBestSet_28 rfl (by omega) (Nat.le_of_ble_eq_true rfl) ⟨Nat.le_refl _, Nat.le_refl _⟩ (fun Iz4 Rz4 hz4 => ?_)
  refine rk_vretU dX8_findBestSet_31 rfl ?_
  obtain ⟨t1, t2, t3, t4⟩ := hz4
  rw [hbs] at t2 t3
  exact ⟨t1, t2, t3, (f1.tr (f3.mo (fun z hz => by omega))).tr (t4.mo (fun z hz => hz.no))⟩
theorem cX10_bestSet_s {c : Nat} (V : va_ok T N n Hs F Sv P L) (X : cl_X rg I R x N n Hs F Sv P L) (hc : N 13 = nI c) (hc2 : c ≤ 16) (k : Int32) : rk_J w l rk_mX10_bestSet 19 [rk_a 11 x, rk_i k] Sh I R (fun r I' R' => r = sp_best N c k ∧ cl_X rg I' R' x N n Hs F Sv P L ∧ cl_fr rg (fun z => z < 104) I R I' R') := by
  by_cases h1 : 0 ≤ k ∧ k ≤ 1
  · skip
    refine rk_bJ (ls := [(0, _), (1, _)]) (by decide) rfl (Nat.le_of_ble_eq_true rfl) ?_
    refine rk_iload_n 1 dX10_bestSet_0 rfl rfl ?_
    refine rk_iconst 0 dX10_bestSet_1 (by decide) ?_
    refine rk_iconst 1 dX10_bestSet_2 (by decide) ?_
    refine rk_cSp (cX10_inRange_s _ _ _) rk_eX10_inRange rfl rk_kX10_114 dX10_bestSet_3 rfl (by decide) (Nat.le_of_ble_eq_true rfl) ⟨Nat.le_refl _, Nat.le_refl _⟩ ?_
    refine rk_if_ne 12 dX10_bestSet_6 (by decide) (fun qz6 => ?_) (fun qz6 => ?_)
    · skip
      refine rk_aload_n 0 dX10_bestSet_12 rfl rfl ?_
      refine rk_g11_6 rk_kX10_46 dX10_bestSet_13 ?_
      refine rk_pc (pc' := 16) rfl ?_
      refine rk_aload_n 0 dX10_bestSet_16 rfl rfl ?_
      refine rk_g11_0 rk_kX10_10 dX10_bestSet_17 ?_
      refine rk_cVv (cX8_findBestSet_s V.1.1 X.2.1 (by decide) X.1.2.2.2.2.2.1 hc hc2) rk_eX8_findBestSet rfl ⟨rfl, rfl⟩ rk_kX10_162 dX10_bestSet_20 rfl (by decide) (Nat.le_of_ble_eq_true rfl) ⟨Nat.le_refl _, Nat.le_refl _⟩ (fun Iz1 Rz1 hz1 => ?_)
      obtain ⟨t1, t2, t3, t4⟩ := hz1
      have e11 : Rz1 11 = R 11 := t4.2.2 11 (by decide) (by decide) (by decide)
      refine rk_iload_n 1 dX10_bestSet_23 rfl rfl ?_
      refine rk_if_ne 37 dX10_bestSet_24 (by decide) (fun qz24 => ?_) (fun qz24 => ?_)
      · skip
        refine rk_aload_n 0 dX10_bestSet_37 rfl rfl ?_
        refine rk_g11_6 rk_kX10_46 dX10_bestSet_38 ?_
        refine rk_pc (pc' := 41) rfl ?_
        refine rk_g9_2 rk_kX10_168 dX10_bestSet_41 ?_
        rw [e11, t3]
        refine rk_iretJ dX10_bestSet_44 rfl rfl ?_
        refine ⟨?_, X.tf V t4 t1, t4.mo (fun z hz => by omega)⟩
        unfold sp_best
        rw [if_pos h1]
        first | rw [if_pos qz24] | rw [if_neg qz24]
      · skip
        refine rk_aload_n 0 dX10_bestSet_27 rfl rfl ?_
        refine rk_g11_6 rk_kX10_46 dX10_bestSet_28 ?_
        refine rk_g9_1 rk_kX10_165 dX10_bestSet_31 ?_
        rw [e11, t2]
        refine rk_goto 44 dX10_bestSet_34 (by decide) ?_
        refine rk_iretJ dX10_bestSet_44 rfl rfl ?_
        refine ⟨?_, X.tf V t4 t1, t4.mo (fun z hz => by omega)⟩
        unfold sp_best
        rw [if_pos h1]
        first | rw [if_pos qz24] | rw [if_neg qz24]
    · skip
      exact absurd h1 (sp_bf qz6)
  · skip
    refine rk_bJ (ls := [(0, _), (1, _)]) (by decide) rfl (Nat.le_of_ble_eq_true rfl) ?_
    refine rk_iload_n 1 dX10_bestSet_0 rfl rfl ?_
    refine rk_iconst 0 dX10_bestSet_1 (by decide) ?_
    refine rk_iconst 1 dX10_bestSet_2 (by decide) ?_
    refine rk_cSp (cX10_inRange_s _ _ _) rk_eX10_inRange rfl rk_kX10_114 dX10_bestSet_3 rfl (by decide) (Nat.le_of_ble_eq_true rfl) ⟨Nat.le_refl _, Nat.le_refl _⟩ ?_
    refine rk_if_ne 12 dX10_bestSet_6 (by decide) (fun qz6 => ?_) (fun qz6 => ?_)
    · skip
      exact absurd (sp_bt qz6) h1
    · skip
      refine rk_bipush (-2) dX10_bestSet_9 (by decide) ?_
      refine rk_iretJ dX10_bestSet_11 rfl rfl ?_
      exact ⟨by unfold sp_best; rw [if_neg h1], X, cl_fr.rf⟩
theorem cX10_undo_s (V : va_ok T N n Hs F Sv P L) (X : cl_X rg I R x N n Hs F Sv P L) : rk_J w l rk_mX10_undo 7 [rk_a 11 x] Sh I R (fun r I' R' => (n = 0 → r = -5 ∧ cl_X rg I' R' x N n Hs F Sv P L) ∧ (0 < n → r = nI (n - 1) ∧ cl_X rg I' R' x (Hs (n - 1)) (n - 1) Hs F Sv P L) ∧ cl_fr rg (fun z => z < 104) I R I' R') := by
  obtain ⟨g, hh, hc⟩ := X.2.2.1
  have hv := fun i (hi : i < n) => (V.2.2.1 i hi).1
  refine rk_bJ (ls := [(0, _)]) (by decide) rfl (Nat.le_of_ble_eq_true rfl) ?_
  refine rk_aload_n 0 dX10_undo_0 rfl rfl ?_
  refine rk_g11_1 rk_kX10_19 dX10_undo_1 ?_
  refine rk_aload_n 0 dX10_undo_4 rfl rfl ?_
  refine rk_g11_0 rk_kX10_10 dX10_undo_5 ?_
  refine rk_cVi (cX1_stepBack_s hh hc V.2.1 hv X.1.2.2.2.1) rk_eX1_stepBack rfl ⟨rfl, rfl⟩ rk_kX10_209 dX10_undo_8 rfl (by decide) (Nat.le_of_ble_eq_true rfl) ⟨Nat.le_refl _, Nat.le_refl _⟩ (fun xz1 Iz1 Rz1 hz1 => ?_)
  obtain ⟨qhz1, s1, s2⟩ := hz1
  obtain rfl := qhz1.symm
  refine rk_iretJ dX10_undo_11 rfl rfl ?_
  by_cases h0 : n = 0
  · obtain ⟨r1, e⟩ := s1 h0
    obtain rfl := e.symm
    exact ⟨fun _ => ⟨r1, X⟩, fun z => absurd h0 (by omega), cl_fr.rf⟩
  · obtain ⟨r1, r2, r3, r4⟩ := s2 (by omega)
    refine ⟨fun z => absurd z h0, fun _ => ⟨r1, X.re V r4 (fun z hz => by omega) r3 ⟨g, hh, r2, fun i hi => ?_⟩⟩, r4.mo (fun z hz => by omega)⟩
    have := hh.2.2.1 i (by have := V.2.1; omega)
    exact (hc.2 i (by omega)).fr0 r4 (by omega) (hv i (by omega))
theorem cX10_save_s (V : va_ok T N n Hs F Sv P L) (X : cl_X rg I R x N n Hs F Sv P L) (k : Int32) : rk_J w l rk_mX10_save 7 [rk_a 11 x, rk_i k] Sh I R (fun r I' R' => ((¬ (0 ≤ k ∧ k ≤ 1) ∧ r = -2 ∧ cl_X rg I' R' x N n Hs F Sv P L) ∨ ∃ b, b < 2 ∧ k = nI b ∧ r = N 10 ∧ cl_X rg I' R' x N n Hs (sp_u F b 1) (fun b' => if b' = b then N else Sv b') P L) ∧ cl_fr rg (fun z => z < 104) I R I' R') := by
  by_cases h1 : 0 ≤ k ∧ k ≤ 1
  · obtain ⟨b, hb1, rfl⟩ := rk_in_n (n := 1) rfl (by decide) h1
    obtain ⟨X1, X2, ⟨g, hh, hc⟩, X4, X5, X6⟩ := X
    refine rk_bJ (ls := [(0, _), (1, _)]) (by decide) rfl (Nat.le_of_ble_eq_true rfl) ?_
    refine rk_iload_n 1 dX10_save_0 rfl rfl ?_
    refine rk_iconst 0 dX10_save_1 (by decide) ?_
    refine rk_iconst 1 dX10_save_2 (by decide) ?_
    refine rk_cSp (cX10_inRange_s _ _ _) rk_eX10_inRange rfl rk_kX10_114 dX10_save_3 rfl (by decide) (Nat.le_of_ble_eq_true rfl) ⟨Nat.le_refl _, Nat.le_refl _⟩ ?_
    refine rk_if_ne 12 dX10_save_6 (by decide) (fun qz6 => ?_) (fun qz6 => ?_)
    · skip
      refine rk_aload_n 0 dX10_save_12 rfl rfl ?_
      refine rk_g11_2 rk_kX10_23 dX10_save_13 ?_
      refine rk_pc (pc' := 16) rfl ?_
      refine rk_iload_n 1 dX10_save_16 rfl rfl ?_
      refine rk_rn24 (b) dX10_save_17 (by first | rfl | decide | assumption | (simp only [rk_lit, nI_add, pk_mul, nI_1]; done) | (simp only [rk_lit, nI_add, pk_mul, nI_1]; congr 1; omega)) (by first | decide | assumption | omega) ?_
      refine rk_aload_n 0 dX10_save_18 rfl rfl ?_
      refine rk_g11_0 rk_kX10_10 dX10_save_19 ?_
      refine rk_cVv (cX9_copyFrom_s V.1.1 (X1.2.2.2.2.1 b (by omega)) X2 (by omega)) rk_eX9_copyFrom rfl ⟨rfl, rfl⟩ rk_kX10_213 dX10_save_22 rfl (by decide) (Nat.le_of_ble_eq_true rfl) ⟨Nat.le_refl _, Nat.le_refl _⟩ (fun Iz1 Rz1 hz1 => ?_)
      obtain ⟨qhz1, y1, f1⟩ := hz1
      obtain rfl := qhz1.symm
      refine rk_aload_n 0 dX10_save_25 rfl rfl ?_
      refine rk_pc (pc' := 26) rfl ?_
      refine rk_g11_3 rk_kX10_27 dX10_save_26 ?_
      refine rk_iload_n 1 dX10_save_29 rfl rfl ?_
      refine rk_iconst 1 dX10_save_30 (by decide) ?_
      refine rk_sn25 (b) dX10_save_31 (by first | rfl | decide | assumption | (simp only [rk_lit, nI_add, pk_mul, nI_1]; done) | (simp only [rk_lit, nI_add, pk_mul, nI_1]; congr 1; omega)) (by first | decide | assumption | omega) (fun Iz2 eIz2 => ?_)
      have f2 : cl_fr rg (fun z => z = 100) Iz1 R Iz2 R := by rw [eIz2]; exact cl_fr.ui X1.2.2.1
      have f12 : cl_fr rg (fun z => z / 4 = 8 + b ∨ z = 100) I R Iz2 R := (f1.mo (fun z hz => Or.inl hz)).tr (f2.mo (fun z hz => Or.inr hz))
      have y2 : cl_y rg Iz2 R (R 11 x 0) 0 N := X2.fr0 f12 (by omega) V.1.1
      refine rk_aload_n 0 dX10_save_32 rfl rfl ?_
      refine rk_g11_0 rk_kX10_10 dX10_save_33 ?_
      refine rk_pc (pc' := 36) rfl ?_
      refine rk_g10_3 rk_kX10_216 dX10_save_36 ?_
      rw [y2.2.2.2.2.1]
      refine rk_iretJ dX10_save_39 rfl rfl ?_
      refine ⟨Or.inr ⟨b, by omega, rfl, rfl, X1, y2, ⟨g, hh, hc.fr hh f12 (fun z hz => by
        rcases hz with hz | ⟨i, hi, hz⟩
        · omega
        · have := V.2.1; have := hh.2.2.1 i (by omega); omega) V.2.1 V.2.2.1⟩, fun b' hb' => ?_, ?_, fun j hj => ?_⟩, f12.mo (fun z hz => by omega)⟩
      · by_cases hbb : b' = b
        · subst hbb
          rw [sp_us, rk_ufs eIz2]
          refine ⟨rfl, Or.inr rfl, fun _ => ?_⟩
          show cl_y rg Iz2 R _ _ (if b' = b' then N else Sv b')
          rw [if_pos rfl]
          exact y1.fr0 f2 (by omega) V.1.1
        · obtain ⟨k1, k2, k3⟩ := X4 b' hb'
          rw [sp_un hbb, rk_ufi eIz2 hbb, f1.1 25 _ (by rw [X1.2.2.1]; omega)]
          refine ⟨k1, k2, fun z => ?_⟩
          show cl_y rg Iz2 R _ _ (if b' = b then N else Sv b')
          rw [if_neg hbb]
          exact (k3 z).fr0 f12 (by omega) (V.2.2.2.1 b' hb' z).1
      · rw [f12.1 4 _ (by rw [X1.2.2.2.2.2.2.2.2.2.1]; omega)]; exact X5
      · rw [f12.1 15 _ (by rw [X1.2.2.2.2.2.2.2.2.2.2]; omega)]; exact X6 j hj
    · skip
      exact absurd h1 (sp_bf qz6)
  · skip
    refine rk_bJ (ls := [(0, _), (1, _)]) (by decide) rfl (Nat.le_of_ble_eq_true rfl) ?_
    refine rk_iload_n 1 dX10_save_0 rfl rfl ?_
    refine rk_iconst 0 dX10_save_1 (by decide) ?_
    refine rk_iconst 1 dX10_save_2 (by decide) ?_
    refine rk_cSp (cX10_inRange_s _ _ _) rk_eX10_inRange rfl rk_kX10_114 dX10_save_3 rfl (by decide) (Nat.le_of_ble_eq_true rfl) ⟨Nat.le_refl _, Nat.le_refl _⟩ ?_
    refine rk_if_ne 12 dX10_save_6 (by decide) (fun qz6 => ?_) (fun qz6 => ?_)
    · skip
      exact absurd (sp_bt qz6) h1
    · skip
      refine rk_bipush (-2) dX10_save_9 (by decide) ?_
      refine rk_iretJ dX10_save_11 rfl rfl ?_
      exact ⟨Or.inl ⟨h1, rfl, X⟩, cl_fr.rf⟩
theorem cX10_restore_s (V : va_ok T N n Hs F Sv P L) (X : cl_X rg I R x N n Hs F Sv P L) (k : Int32) : rk_J w l rk_mX10_restore 7 [rk_a 11 x, rk_i k] Sh I R (fun r I' R' => (¬ (0 ≤ k ∧ k ≤ 1) → cl_A rg I R x (-2, none) N n Hs F Sv P L r I' R') ∧ ∀ b, b < 2 → k = nI b → (F b = 0 → cl_A rg I R x (-5, none) N n Hs F Sv P L r I' R') ∧ (F b ≠ 0 → cl_A rg I R x (Sv b 10, some (Sv b)) N n Hs F Sv P L r I' R')) := by
  by_cases h1 : 0 ≤ k ∧ k ≤ 1
  · obtain ⟨b, hb1, rfl⟩ := rk_in_n (n := 1) rfl (by decide) h1
    have hone : ∀ b', b' < 2 → nI b = nI b' → b' = b := fun b' h z => ((nI_eq (by omega) (by omega)).mp z).symm
    obtain ⟨s1, s2, s3⟩ := X.2.2.2.1 b (by omega)
    by_cases hF : F b = 0
    · skip
      refine rk_bJ (ls := [(0, _), (1, _)]) (by decide) rfl (Nat.le_of_ble_eq_true rfl) ?_
      refine rk_iload_n 1 dX10_restore_0 rfl rfl ?_
      refine rk_iconst 0 dX10_restore_1 (by decide) ?_
      refine rk_iconst 1 dX10_restore_2 (by decide) ?_
      refine rk_cSp (cX10_inRange_s _ _ _) rk_eX10_inRange rfl rk_kX10_114 dX10_restore_3 rfl (by decide) (Nat.le_of_ble_eq_true rfl) ⟨Nat.le_refl _, Nat.le_refl _⟩ ?_
      refine rk_if_ne 12 dX10_restore_6 (by decide) (fun qz6 => ?_) (fun qz6 => ?_)
      · skip
        refine rk_aload_n 0 dX10_restore_12 rfl rfl ?_
        refine rk_g11_3 rk_kX10_27 dX10_restore_13 ?_
        refine rk_pc (pc' := 16) rfl ?_
        refine rk_iload_n 1 dX10_restore_16 rfl rfl ?_
        refine rk_rn25 (b) dX10_restore_17 (by first | rfl | decide | assumption | (simp only [rk_lit, nI_add, pk_mul, nI_1]; done) | (simp only [rk_lit, nI_add, pk_mul, nI_1]; congr 1; omega)) (by first | decide | assumption | omega) ?_
        rw [s1, hF]
        refine rk_if_ne 24 dX10_restore_18 (by decide) (fun qz18 => ?_) (fun qz18 => ?_)
        · skip
          exact absurd rfl qz18
        · skip
          refine rk_bipush (-5) dX10_restore_21 (by decide) ?_
          refine rk_iretJ dX10_restore_23 rfl rfl ?_
          refine ⟨fun z => absurd h1 z, fun b' hb' e => ?_⟩
          obtain rfl := hone b' hb' e
          exact ⟨fun _ => ⟨rfl, X, cl_fr.rf⟩, fun z => absurd hF z⟩
      · skip
        exact absurd h1 (sp_bf qz6)
    · obtain ⟨g, hh, hc⟩ := X.2.2.1
      have hgn := hh.2.2.1 n (by have := V.2.1; omega)
      have hp := cX1_prepare_s (w := w) (l := l) (Sh := Sh) V.1.1 X.2.1 (Or.inl (by decide)) hh hc.1 V.2.1
      have vs := V.2.2.2.1 b (by omega) hF
      obtain ⟨td, ht1, ht2⟩ := vs.1.2.2.1
      have ok : sp_ok (Sv b 10, some (Sv b)) := sp_ok1 rfl (by rw [ht2]; exact nI_pos' (by omega)) vs.2
      have iv : ∀ r M, ((Sv b 10, some (Sv b)) : sp_R) = (r, some M) → sp_iv (T + 1) M := fun r M e => by cases e; exact sp_iv_T vs.1 (by omega)
      refine rk_bJ (ls := [(0, _), (1, _)]) (by decide) rfl (Nat.le_of_ble_eq_true rfl) ?_
      refine rk_iload_n 1 dX10_restore_0 rfl rfl ?_
      refine rk_iconst 0 dX10_restore_1 (by decide) ?_
      refine rk_iconst 1 dX10_restore_2 (by decide) ?_
      refine rk_cSp (cX10_inRange_s _ _ _) rk_eX10_inRange rfl rk_kX10_114 dX10_restore_3 rfl (by decide) (Nat.le_of_ble_eq_true rfl) ⟨Nat.le_refl _, Nat.le_refl _⟩ ?_
      refine rk_if_ne 12 dX10_restore_6 (by decide) (fun qz6 => ?_) (fun qz6 => ?_)
      · skip
        refine rk_aload_n 0 dX10_restore_12 rfl rfl ?_
        refine rk_g11_3 rk_kX10_27 dX10_restore_13 ?_
        refine rk_pc (pc' := 16) rfl ?_
        refine rk_iload_n 1 dX10_restore_16 rfl rfl ?_
        refine rk_rn25 (b) dX10_restore_17 (by first | rfl | decide | assumption | (simp only [rk_lit, nI_add, pk_mul, nI_1]; done) | (simp only [rk_lit, nI_add, pk_mul, nI_1]; congr 1; omega)) (by first | decide | assumption | omega) ?_
        rw [s1]
        refine rk_if_ne 24 dX10_restore_18 (by decide) (fun qz18 => ?_) (fun qz18 => ?_)
        · skip
          refine rk_aload_n 0 dX10_restore_24 rfl rfl ?_
          refine rk_g11_1 rk_kX10_19 dX10_restore_25 ?_
          refine rk_aload_n 0 dX10_restore_28 rfl rfl ?_
          refine rk_g11_0 rk_kX10_10 dX10_restore_29 ?_
          refine rk_pc (pc' := 32) rfl ?_
          refine rk_cVv (hp) rk_eX1_prepare rfl ⟨rfl, rfl⟩ rk_kX10_50 dX10_restore_32 rfl (by decide) (Nat.le_of_ble_eq_true rfl) ⟨Nat.le_refl _, Nat.le_refl _⟩ (fun Iz1 Rz1 hz1 => ?_)
          obtain ⟨qhz1, y1, f1⟩ := hz1
          obtain rfl := qhz1.symm
          have y0 := X.2.1.fr0 f1 (by omega) V.1.1
          have ys := (s3 hF).fr0 f1 (by omega) vs.1
          refine rk_aload_n 0 dX10_restore_35 rfl rfl ?_
          refine rk_g11_0 rk_kX10_10 dX10_restore_36 ?_
          refine rk_aload_n 0 dX10_restore_39 rfl rfl ?_
          refine rk_g11_2 rk_kX10_23 dX10_restore_40 ?_
          refine rk_iload_n 1 dX10_restore_43 rfl rfl ?_
          refine rk_pc (pc' := 44) rfl ?_
          refine rk_rn24 (b) dX10_restore_44 (by first | rfl | decide | assumption | (simp only [rk_lit, nI_add, pk_mul, nI_1]; done) | (simp only [rk_lit, nI_add, pk_mul, nI_1]; congr 1; omega)) (by first | decide | assumption | omega) ?_
          refine rk_cVv (cX9_copyFrom_s vs.1 y0.1 ys (by omega)) rk_eX9_copyFrom rfl ⟨rfl, rfl⟩ rk_kX10_213 dX10_restore_45 rfl (by decide) (Nat.le_of_ble_eq_true rfl) ⟨Nat.le_refl _, Nat.le_refl _⟩ (fun Iz2 Rz2 hz2 => ?_)
          obtain ⟨qhz2, y2, f2⟩ := hz2
          obtain rfl := qhz2.symm
          have q2 : cl_Q rg Iz1 R (R 11 x 0) 0 N (Sv b 10, some (Sv b)) (Sv b 10) Iz2 R := ⟨rfl, f2, y2⟩
          have k2 := cl_act1 V hh hc y1 f1 q2
          refine rk_aload_n 0 dX10_restore_48 rfl rfl ?_
          refine rk_g11_1 rk_kX10_19 dX10_restore_49 ?_
          refine rk_aload_n 0 dX10_restore_52 rfl rfl ?_
          refine rk_g11_0 rk_kX10_10 dX10_restore_53 ?_
          refine rk_pc (pc' := 56) rfl ?_
          refine rk_g10_3 rk_kX10_216 dX10_restore_56 ?_
          rw [y2.2.2.2.2.1]
          refine rk_cVi (cX1_settle_s (T := T) (N := N) k2.1 k2.2.1 V.2.1 (fun i hi => (V.2.2.1 i hi).1) (fun _ => ⟨V.1.1, k2.2.2⟩)) rk_eX1_settle rfl ⟨rfl, rfl⟩ rk_kX10_58 dX10_restore_59 rfl (by decide) (Nat.le_of_ble_eq_true rfl) ⟨Nat.le_refl _, Nat.le_refl _⟩ (fun xz3 Iz3 Rz3 hz3 => ?_)
          refine rk_iretJ dX10_restore_62 rfl rfl ?_
          refine ⟨fun z => absurd h1 z, fun b' hb' e => ?_⟩
          obtain rfl := hone b' hb' e
          exact ⟨fun z => absurd z hF, fun _ => cl_act2 X V ok iv hh hc y1 f1 q2 hz3⟩
        · skip
          exact absurd qz18 hF
      · skip
        exact absurd h1 (sp_bf qz6)
  · skip
    refine rk_bJ (ls := [(0, _), (1, _)]) (by decide) rfl (Nat.le_of_ble_eq_true rfl) ?_
    refine rk_iload_n 1 dX10_restore_0 rfl rfl ?_
    refine rk_iconst 0 dX10_restore_1 (by decide) ?_
    refine rk_iconst 1 dX10_restore_2 (by decide) ?_
    refine rk_cSp (cX10_inRange_s _ _ _) rk_eX10_inRange rfl rk_kX10_114 dX10_restore_3 rfl (by decide) (Nat.le_of_ble_eq_true rfl) ⟨Nat.le_refl _, Nat.le_refl _⟩ ?_
    refine rk_if_ne 12 dX10_restore_6 (by decide) (fun qz6 => ?_) (fun qz6 => ?_)
    · skip
      exact absurd (sp_bt qz6) h1
    · skip
      refine rk_bipush (-2) dX10_restore_9 (by decide) ?_
      refine rk_iretJ dX10_restore_11 rfl rfl ?_
      exact ⟨fun _ => ⟨rfl, X, cl_fr.rf⟩, fun b hb e => absurd ⟨by rw [e]; exact nI_pos' (by omega), by rw [e]; exact nI_le (b := 1) (by omega) (by decide)⟩ h1⟩
/-- what changes the pad alone -/
theorem cl_X.pf {I' : rk_Mm} {P' : Nat → Int32} {L' : Nat} (X : cl_X rg I R x N n Hs F Sv P L) (V : va_ok T N n Hs F Sv P L) (f : cl_fr rg (fun z => z = 96) I R I' R) (h1 : I' 4 (R 11 x 5) 1 = nI L') (h2 : ∀ j, j < L' → I' 15 (R 4 (R 11 x 5) 0) j = P' j) : cl_X rg I' R x N n Hs F Sv P' L' := by
  obtain ⟨X1, X2, ⟨g, hh, hc⟩, X4, X5, X6⟩ := X
  refine ⟨X1, X2.fr0 f (by omega) V.1.1, ⟨g, hh, hc.fr hh f (fun z hz => by
    rcases hz with hz | ⟨i, hi, hz⟩
    · omega
    · have := V.2.1; have := hh.2.2.1 i (by omega); omega) V.2.1 V.2.2.1⟩, fun b hb => ?_, h1, h2⟩
  obtain ⟨k1, k2, k3⟩ := X4 b hb
  refine ⟨by rw [f.1 25 _ (by rw [X1.2.2.1]; omega)]; exact k1, k2, fun h => ?_⟩
  exact (k3 h).fr0 f (fun z hz => by omega) (V.2.2.2.1 b hb h).1
theorem cX10_wipe_s (V : va_ok T N n Hs F Sv P L) (X : cl_X rg I R x N n Hs F Sv P L) : rk_J w l rk_mX10_wipe 7 [rk_a 11 x] Sh I R (fun r I' R' => r = nI L ∧ cl_X rg I' R' x N n Hs F Sv P 0 ∧ cl_fr rg (fun z => z < 104) I R I' R') := by
  refine rk_bJ (ls := [(0, _)]) (by decide) rfl (Nat.le_of_ble_eq_true rfl) ?_
  refine rk_aload_n 0 dX10_wipe_0 rfl rfl ?_
  refine rk_g11_5 rk_kX10_42 dX10_wipe_1 ?_
  refine rk_cVi (cX3_clear_s) rk_eX3_clear rfl ⟨rfl, rfl⟩ rk_kX10_186 dX10_wipe_4 rfl (by decide) (Nat.le_of_ble_eq_true rfl) ⟨Nat.le_refl _, Nat.le_refl _⟩ (fun xz1 Iz1 Rz1 hz1 => ?_)
  obtain ⟨rfl, qhz1, eIz1⟩ := hz1
  obtain rfl := qhz1.symm
  refine rk_iretJ dX10_wipe_7 rfl rfl ?_
  have f1 : cl_fr rg (fun z => z = 96) I R Iz1 R := by rw [eIz1]; exact cl_fr.ui X.1.2.2.2.2.2.2.2.2.2.1
  exact ⟨X.2.2.2.2.1, X.pf V f1 (by rw [rk_ufs eIz1]; rfl) (fun j hj => absurd hj (Nat.not_lt_zero j)), f1.mo (fun z hz => by omega)⟩
/-- the pad when characters are put -/
noncomputable def sp_pp (P : Nat → Int32) (L : Nat) (v : Int64) : Nat → Int32 := fun j => if L ≤ j ∧ j < L + sp_many v then lb v (sp_many v - 1 - (j - L)) else P j
noncomputable def sp_pl (L : Nat) (v : Int64) : Nat := if sp_many v = 0 ∨ 80 < L + sp_many v then L else L + sp_many v
theorem cX10_put_s (V : va_ok T N n Hs F Sv P L) (X : cl_X rg I R x N n Hs F Sv P L) (v : Int64) : rk_J w l rk_mX10_put 7 [rk_a 11 x, rk_l v] Sh I R (fun r I' R' => r = sp_put v L ∧ cl_X rg I' R' x N n Hs F Sv (sp_pp P L v) (sp_pl L v) ∧ cl_fr rg (fun z => z < 104) I R I' R') := by
  have hL := V.2.2.2.2.1
  have hpL := X.2.2.2.2.1
  have hr1 := X.1.2.2.2.2.2.2.2.2.2.1
  have hr2 := X.1.2.2.2.2.2.2.2.2.2.2
  refine rk_bJ (ls := [(0, _), (1, _)]) (by decide) rfl (Nat.le_of_ble_eq_true rfl) ?_
  refine rk_aload_n 0 dX10_put_0 rfl rfl ?_
  refine rk_g11_5 rk_kX10_42 dX10_put_1 ?_
  refine rk_lload_n 1 dX10_put_4 rfl rfl ?_
  refine rk_cVi (cX3_append_s hpL hL v) rk_eX3_append rfl ⟨rfl, rfl⟩ rk_kX10_182 dX10_put_5 rfl (by decide) (Nat.le_of_ble_eq_true rfl) ⟨Nat.le_refl _, Nat.le_refl _⟩ (fun xz1 Iz1 Rz1 hz1 => ?_)
  obtain ⟨rfl, qhz1, ee⟩ := hz1
  obtain rfl := qhz1.symm
  refine rk_iretJ dX10_put_8 rfl rfl ?_
  rcases ee with ⟨hb, e⟩ | ⟨hb1, hb2, G, hG, e⟩
  · obtain rfl := e.symm
    refine ⟨rfl, ?_, cl_fr.rf⟩
    have e1 : sp_pl L v = L := if_pos hb
    rw [e1]
    exact X.pf V cl_fr.rf hpL (fun j hj => by
      show _ = sp_pp P L v j
      unfold sp_pp
      rw [if_neg (by omega)]
      exact X.2.2.2.2.2 j hj)
  · have f1 : cl_fr rg (fun z => z = 96) I R Iz1 R := by rw [e, cp_st]; exact (cl_fr.ma (S := fun z => z = 96) hr2).tr (cl_fr.ma (S := fun z => z = 96) hr1)
    have e1 : sp_pl L v = L + sp_many v := if_neg (by omega)
    refine ⟨rfl, ?_, f1.mo (fun z hz => by omega)⟩
    rw [e1]
    refine X.pf V f1 (by rw [e, cp_l]) (fun j hj => ?_)
    rw [e, cp_st, md_cc (by decide), md_as, hG]
    unfold sp_pp
    by_cases hj2 : L ≤ j ∧ j < L + sp_many v
    · rw [if_pos hj2, if_pos hj2]
    · rw [if_neg hj2, if_neg hj2]
      exact X.2.2.2.2.2 j (by omega)
end DH

