section CX
variable {w : rk_W} {l : Launch} {Sh : rk_Sh} {rg : Nat → Nat} {I : rk_Mm} {R : rk_Rm} {N : Nat → Int32} {T : Int}
theorem cX9_copyFrom_s {y t y2 t2 : Nat} (hv : sp_iv T N) (hs : cl_ys rg R y t) (h : cl_y rg I R y2 t2 N) (hne : t2 ≠ t) : rk_U w l rk_mX9_copyFrom 3 [rk_a 10 y, rk_a 10 y2] Sh I R (fun I' R' => R' = R ∧ cl_y rg I' R y t N ∧ cl_fr rg (fun z => z / 4 = t) I R I' R) := by
  obtain ⟨c, hc2, hc⟩ := hv.c12
  obtain ⟨b, hb2, hb⟩ := hv.c13
  obtain ⟨k1, k2, k3, k4, k5⟩ := h
  obtain ⟨y3, y4, y5, y6, y7, y8⟩ := k5
  have e0 : rg y2 = 4 * t2 := k1.1
  refine rk_bU (ls := [(0, _), (1, _)]) (by decide) rfl (Nat.le_of_ble_eq_true rfl) ?_
  refine rk_aload_n 0 dX9_copyFrom_0 rfl rfl ?_
  refine rk_g10_0 rk_kX9_12 dX9_copyFrom_1 ?_
  refine rk_aload_n 1 dX9_copyFrom_4 rfl rfl ?_
  refine rk_g10_0 rk_kX9_12 dX9_copyFrom_5 ?_
  refine rk_cVv (cX6_copyFrom_s hs.2.1 k2) rk_eX6_copyFrom rfl ⟨rfl, rfl⟩ rk_kX9_32 dX9_copyFrom_8 rfl (by decide) (Nat.le_of_ble_eq_true rfl) ⟨Nat.le_refl _, Nat.le_refl _⟩ (fun Iz1 Rz1 hz1 => ?_)
  obtain ⟨qhz1, r1, f1⟩ := hz1
  obtain rfl := qhz1.symm
  refine rk_aload_n 0 dX9_copyFrom_11 rfl rfl ?_
  refine rk_pc (pc' := 12) rfl ?_
  refine rk_g10_1 rk_kX9_21 dX9_copyFrom_12 ?_
  refine rk_aload_n 1 dX9_copyFrom_15 rfl rfl ?_
  refine rk_g10_1 rk_kX9_21 dX9_copyFrom_16 ?_
  refine rk_cVv (cX7_copyFrom_s (r := 4 * t + 2) (rp := 4 * t2 + 2) hs.2.2.1 (k3.fr f1 (by omega) hc hc2) (by omega) hc hc2) rk_eX7_copyFrom rfl ⟨rfl, rfl⟩ rk_kX9_36 dX9_copyFrom_19 rfl (by decide) (Nat.le_of_ble_eq_true rfl) ⟨Nat.le_refl _, Nat.le_refl _⟩ (fun Iz2 Rz2 hz2 => ?_)
  obtain ⟨qhz2, s2, f2⟩ := hz2
  obtain rfl := qhz2.symm
  refine rk_aload_n 0 dX9_copyFrom_22 rfl rfl ?_
  refine rk_g10_2 rk_kX9_28 dX9_copyFrom_23 ?_
  refine rk_pc (pc' := 26) rfl ?_
  refine rk_aload_n 1 dX9_copyFrom_26 rfl rfl ?_
  refine rk_g10_2 rk_kX9_28 dX9_copyFrom_27 ?_
  refine rk_cVv (cX0_copyFrom_s (r := 4 * t + 3) (rp := 4 * t2 + 3) hs.2.2.2 k1.2.2.2 ((k4.fr k1.2.2.2 f1 (by omega) hb hb2).fr k1.2.2.2 f2 (by omega) hb hb2) (by omega) hb hb2) rk_eX0_copyFrom rfl ⟨rfl, rfl⟩ rk_kX9_39 dX9_copyFrom_30 rfl (by decide) (Nat.le_of_ble_eq_true rfl) ⟨Nat.le_refl _, Nat.le_refl _⟩ (fun Iz3 Rz3 hz3 => ?_)
  obtain ⟨qhz3, b3, f3⟩ := hz3
  obtain rfl := qhz3.symm
  have e10 : Iz3 10 y2 = I 10 y2 := (f3.1 10 y2 (by rw [e0]; omega)).trans ((f2.1 10 y2 (by rw [e0]; omega)).trans (f1.1 10 y2 (by rw [e0]; omega)))
  refine rk_aload_n 0 dX9_copyFrom_33 rfl rfl ?_
  refine rk_aload_n 1 dX9_copyFrom_34 rfl rfl ?_
  refine rk_g10_3 rk_kX9_42 dX9_copyFrom_35 ?_
  rw [e10, y3]
  refine rk_pc (pc' := 38) rfl ?_
  refine rk_p10_3 rk_kX9_42 dX9_copyFrom_38 (fun Iz4 eIz4 => ?_)
  refine rk_aload_n 0 dX9_copyFrom_41 rfl rfl ?_
  refine rk_aload_n 1 dX9_copyFrom_42 rfl rfl ?_
  refine rk_g10_4 rk_kX9_46 dX9_copyFrom_43 ?_
  rw [rk_ufi eIz4 (by decide), e10, y4]
  refine rk_p10_4 rk_kX9_46 dX9_copyFrom_46 (fun Iz5 eIz5 => ?_)
  refine rk_aload_n 0 dX9_copyFrom_49 rfl rfl ?_
  refine rk_pc (pc' := 50) rfl ?_
  refine rk_aload_n 1 dX9_copyFrom_50 rfl rfl ?_
  refine rk_g10_5 rk_kX9_49 dX9_copyFrom_51 ?_
  rw [rk_ufi eIz5 (by decide), rk_ufi eIz4 (by decide), e10, y5]
  refine rk_p10_5 rk_kX9_49 dX9_copyFrom_54 (fun Iz6 eIz6 => ?_)
  refine rk_aload_n 0 dX9_copyFrom_57 rfl rfl ?_
  refine rk_aload_n 1 dX9_copyFrom_58 rfl rfl ?_
  refine rk_g10_6 rk_kX9_52 dX9_copyFrom_59 ?_
  rw [rk_ufi eIz6 (by decide), rk_ufi eIz5 (by decide), rk_ufi eIz4 (by decide), e10, y6]
  refine rk_pc (pc' := 62) rfl ?_
  refine rk_p10_6 rk_kX9_52 dX9_copyFrom_62 (fun Iz7 eIz7 => ?_)
  refine rk_aload_n 0 dX9_copyFrom_65 rfl rfl ?_
  refine rk_aload_n 1 dX9_copyFrom_66 rfl rfl ?_
  refine rk_g10_7 rk_kX9_55 dX9_copyFrom_67 ?_
  rw [rk_ufi eIz7 (by decide), rk_ufi eIz6 (by decide), rk_ufi eIz5 (by decide), rk_ufi eIz4 (by decide), e10, y7]
  refine rk_p10_7 rk_kX9_55 dX9_copyFrom_70 (fun Iz8 eIz8 => ?_)
  refine rk_vretU dX9_copyFrom_73 rfl ?_
  have f4 : cl_fr rg (fun z => z = 4 * t) Iz3 R Iz8 R := by
    have g4 : cl_fr rg (fun z => z = 4 * t) Iz3 R Iz4 R := by rw [eIz4]; exact cl_fr.ui hs.1
    have g5 : cl_fr rg (fun z => z = 4 * t) Iz4 R Iz5 R := by rw [eIz5]; exact cl_fr.ui hs.1
    have g6 : cl_fr rg (fun z => z = 4 * t) Iz5 R Iz6 R := by rw [eIz6]; exact cl_fr.ui hs.1
    have g7 : cl_fr rg (fun z => z = 4 * t) Iz6 R Iz7 R := by rw [eIz7]; exact cl_fr.ui hs.1
    have g8 : cl_fr rg (fun z => z = 4 * t) Iz7 R Iz8 R := by rw [eIz8]; exact cl_fr.ui hs.1
    exact (((g4.tr g5).tr g6).tr g7).tr g8
  refine ⟨rfl, ⟨hs, ?_, ?_, ?_, ?_⟩, ?_⟩
  · exact ((r1.fr hs.2.1 f2 (by omega)).fr hs.2.1 f3 (by omega)).fr hs.2.1 f4 (by omega)
  · exact (s2.fr f3 (by omega) hc hc2).fr f4 (by omega) hc hc2
  · exact b3.fr hs.2.2.2 f4 (by omega) hb hb2
  · refine ⟨?_, ?_, ?_, ?_, ?_, y8⟩
    · rw [rk_ufi eIz8 (by decide), rk_ufi eIz7 (by decide), rk_ufi eIz6 (by decide), rk_ufi eIz5 (by decide), rk_ufs eIz4]
    · rw [rk_ufi eIz8 (by decide), rk_ufi eIz7 (by decide), rk_ufi eIz6 (by decide), rk_ufs eIz5]
    · rw [rk_ufi eIz8 (by decide), rk_ufi eIz7 (by decide), rk_ufs eIz6]
    · rw [rk_ufi eIz8 (by decide), rk_ufs eIz7]
    · rw [rk_ufs eIz8]
  · exact (((f1.mo (fun z hz => by omega)).tr (f2.mo (fun z hz => by omega))).tr (f3.mo (fun z hz => by omega))).tr (f4.mo (fun z hz => by omega))
end CX

