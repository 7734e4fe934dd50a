section DH
variable {w : rk_W} {l : Launch} {Sh : rk_Sh} {rg : Nat → Nat} {I : rk_Mm} {R : rk_Rm} {N : Nat → Int32} {T : Int} {x n L : Nat} {Hs Sv : Nat → Nat → Int32} {F P : Nat → Int32}
/-- what changes the trial alone -/
theorem cl_X.tf {I' : rk_Mm} {R' : rk_Rm} (X : cl_X rg I R x N n Hs F Sv P L) (V : va_ok T N n Hs F Sv P L) (f : cl_fr rg (fun z => 40 ≤ z ∧ z < 88) I R I' R') (ht : cl_ts rg R' (R 11 x 6)) : cl_X rg I' R' x N n Hs F Sv P L := by
  obtain ⟨X1, X2, ⟨g, hh, hc⟩, X4, X5, X6⟩ := X
  have e11 := f.2.2 11 (by decide) (by decide) (by decide)
  refine ⟨X1.fr f (fun z hz => by omega) (X1.2.2.2.1.fr f (by omega)) ht (fun b hb => (X1.2.2.2.2.1 b hb).fr f (fun z hz => by omega)), ?_⟩
  rw [e11, f.2.2 24 (by decide) (by decide) (by decide), f.2.2 4 (by decide) (by decide) (by decide)]
  refine ⟨X2.fr0 f (by omega) V.1.1, ⟨g, hh.fr f (by omega), hc.fr hh f (fun z hz => by
    rcases hz with hz | ⟨i, hi, hz⟩
    · omega
    · have := V.2.1; have := hh.2.2.1 i (by omega); omega) V.2.1 V.2.2.1⟩, fun b hb => ?_, ?_, fun j hj => ?_⟩
  · obtain ⟨k1, k2, k3⟩ := X4 b hb
    refine ⟨by rw [f.1 25 _ (by rw [X1.2.2.1]; omega)]; exact k1, k2, fun h => ?_⟩
    exact (k3 h).fr0 f (fun z hz => by omega) (V.2.2.2.1 b hb h).1
  · rw [f.1 4 _ (by rw [X1.2.2.2.2.2.2.2.2.2.1]; omega)]; exact X5
  · rw [f.1 15 _ (by rw [X1.2.2.2.2.2.2.2.2.2.2]; omega)]; exact X6 j hj
theorem cX10_wouldFill_s (V : va_ok T N n Hs F Sv P L) (X : cl_X rg I R x N n Hs F Sv P L) (o k : Int32) : rk_J w l rk_mX10_wouldFill 7 [rk_a 11 x, rk_i o, rk_i k] Sh I R (fun r I' R' => r = sp_would N o k ∧ cl_X rg I' R' x N n Hs F Sv P L ∧ cl_fr rg (fun z => z < 104) I R I' R') := by
  obtain ⟨c, hc2, hc⟩ := V.1.1.c13
  have h1 : I 1 (R 10 (R 11 x 0) 2) 1 = N 13 := X.2.1.2.2.2.1.1
  by_cases hp : sp_isor N o
  · obtain ⟨i, hi, rfl⟩ := sp_isor_n hp hc hc2
    refine rk_bJ (ls := [(0, _), (1, _), (2, _)]) (by decide) rfl (Nat.le_of_ble_eq_true rfl) ?_
    refine rk_aload_n 0 dX10_wouldFill_0 rfl rfl ?_
    refine rk_g11_0 rk_kX10_10 dX10_wouldFill_1 ?_
    refine rk_g10_2 rk_kX10_149 dX10_wouldFill_4 ?_
    refine rk_iload_n 1 dX10_wouldFill_7 rfl rfl ?_
    refine rk_cVp (cX0_has_n h1) rk_eX0_has rfl ⟨rfl, rfl⟩ rk_kX10_153 dX10_wouldFill_8 rfl (by decide) (Nat.le_of_ble_eq_true rfl) ⟨Nat.le_refl _, Nat.le_refl _⟩ ?_
    refine rk_if_ne 16 dX10_wouldFill_11 (by decide) (fun qz11 => ?_) (fun qz11 => ?_)
    · skip
      refine rk_aload_n 0 dX10_wouldFill_16 rfl rfl ?_
      refine rk_pc (pc' := 17) rfl ?_
      refine rk_g11_6 rk_kX10_46 dX10_wouldFill_17 ?_
      refine rk_aload_n 0 dX10_wouldFill_20 rfl rfl ?_
      refine rk_g11_0 rk_kX10_10 dX10_wouldFill_21 ?_
      refine rk_iload_n 1 dX10_wouldFill_24 rfl rfl ?_
      refine rk_iload_n 2 dX10_wouldFill_25 rfl rfl ?_
      refine rk_cVi (cX8_fillOne_s V.1.1 X.2.1 (by decide) X.1.2.2.2.2.2.1 hc hc2 hi) rk_eX8_fillOne rfl ⟨rfl, rfl⟩ rk_kX10_158 dX10_wouldFill_26 rfl (by decide) (Nat.le_of_ble_eq_true rfl) ⟨Nat.le_refl _, Nat.le_refl _⟩ (fun xz1 Iz1 Rz1 hz1 => ?_)
      refine rk_pc (pc' := 29) rfl ?_
      refine rk_iretJ dX10_wouldFill_29 rfl rfl ?_
      exact ⟨hz1.1, X.tf V hz1.2.2 hz1.2.1, hz1.2.2.mo (fun z hz => by omega)⟩
    · skip
      exact absurd hp (sp_bf qz11)
  · skip
    refine rk_bJ (ls := [(0, _), (1, _), (2, _)]) (by decide) rfl (Nat.le_of_ble_eq_true rfl) ?_
    refine rk_aload_n 0 dX10_wouldFill_0 rfl rfl ?_
    refine rk_g11_0 rk_kX10_10 dX10_wouldFill_1 ?_
    refine rk_g10_2 rk_kX10_149 dX10_wouldFill_4 ?_
    refine rk_iload_n 1 dX10_wouldFill_7 rfl rfl ?_
    refine rk_cVp (cX0_has_n h1) rk_eX0_has rfl ⟨rfl, rfl⟩ rk_kX10_153 dX10_wouldFill_8 rfl (by decide) (Nat.le_of_ble_eq_true rfl) ⟨Nat.le_refl _, Nat.le_refl _⟩ ?_
    refine rk_if_ne 16 dX10_wouldFill_11 (by decide) (fun qz11 => ?_) (fun qz11 => ?_)
    · skip
      exact absurd (sp_bt qz11) hp
    · skip
      refine rk_iconst (-1) dX10_wouldFill_14 (by decide) ?_
      refine rk_pc (pc' := 15) rfl ?_
      refine rk_iretJ dX10_wouldFill_15 rfl rfl ?_
      exact ⟨by unfold sp_would; rw [if_neg hp], X, cl_fr.rf⟩
end DH

