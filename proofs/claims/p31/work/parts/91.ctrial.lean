section CZ
variable {w : rk_W} {l : Launch} {Sh : rk_Sh} {rg : Nat → Nat} {I : rk_Mm} {R : rk_Rm} {N : Nat → Int32} {T : Int}
/-- the trial's cells: its own region, and one for each of its stocks -/
def cl_ts (rg : Nat → Nat) (R : rk_Rm) (tr : Nat) : Prop := rg tr = 84 ∧ rg (R 9 tr 0) = 84 ∧ ∀ i, i < 11 → cl_ss rg R (R 23 (R 9 tr 0) i) (4 * (10 + i) + 2)
theorem cl_ts.st {I' : rk_Mm} {R' : rk_Rm} {tr i : Nat} (h : cl_ts rg R tr) (g : cl_fr rg (fun z => z = 4 * (10 + i) + 2) I R I' R') (hs : cl_ss rg R' (R 23 (R 9 tr 0) i) (4 * (10 + i) + 2)) : cl_ts rg R' tr := by
  have e9 := g.2.2 9 (by decide) (by decide) (by decide)
  have e23 := g.2.2 23 (by decide) (by decide) (by decide)
  unfold cl_ts
  rw [e9, e23]
  refine ⟨h.1, h.2.1, fun j hj => ?_⟩
  by_cases hji : j = i
  · subst hji; exact hs
  · exact (h.2.2 j hj).fr g (by omega)
theorem sp_would_n {i n : Nat} {k : Int32} (hp : sp_isor N (nI i)) (hi : i < 2 ^ 31) (hn : sp_c N (220 + 7 * i + 3) = n) : sp_would N (nI i) k = @ite _ (0 ≤ k ∧ k ≤ 2) (Classical.propDecidable _) (if k = 0 then nI (sp_cf i n N).2 else if k = 1 then (sp_cf i n N).1 (30 + 4 * sp_c N (220 + 7 * i + 0) + 3) - N (30 + 4 * sp_c N (220 + 7 * i + 0) + 3) else (sp_cf i n N).1 12) (-2) := by
  unfold sp_would
  rw [if_pos hp, nI_clamp hi, hn]
theorem cX8_fillOne_s {y t tr i c : Nat} {k : Int32} (hv : sp_iv T N) (h : cl_y rg I R y t N) (ht : t < 10) (hts : cl_ts rg R tr) (hc : N 13 = nI c) (hc2 : c ≤ 16) (hi : i < c) : rk_J w l rk_mX8_fillOne 6 [rk_a 9 tr, rk_a 10 y, rk_i (nI i), rk_i k] Sh I R (fun x I' R' => x = sp_would N (nI i) k ∧ cl_ts rg R' tr ∧ cl_fr rg (fun z => 40 ≤ z ∧ z < 88) I R I' R') := by
  obtain ⟨oc, ho1, ho2, ho3⟩ := hv.2.1
  obtain ⟨pc, hpv⟩ := hv.1
  have hco : oc = c := (nI_eq (by omega) (by omega)).mp (ho2.symm.trans hc)
  subst hco
  have hp : sp_isor N (nI i) := ⟨nI_pos' (by omega), by rw [hc, rk_pred (by omega)]; exact nI_le (by omega) (by omega)⟩
  obtain ⟨hov, ⟨n, hn1, hn2, hn3⟩, -⟩ := ho3 i hi
  have hsn : sp_c N (220 + 7 * i + 3) = n := sp_cN hn3 (by omega)
  have hw := fun (k : Int32) => sp_would_n (k := k) hp (by omega) hsn
  have h6 : 1 ≤ N 6 := (hv.2.2.2.1 6 (by decide)).1
  obtain ⟨f, hf, hf0⟩ := hov.1
  have hsf : sp_c N (220 + 7 * i + 0) = f := sp_cN hf0 (by omega)
  have hcc : sp_c N 13 = oc := sp_cN hc (by omega)
  have hs0 := hts.2.2 0 (by decide)
  refine rk_bJ (ls := [(0, _), (1, _), (2, _), (3, _)]) (by decide) rfl (Nat.le_of_ble_eq_true rfl) ?_
  refine rk_aload_n 0 dX8_fillOne_0 rfl rfl ?_
  refine rk_g9_0 rk_kX8_13 dX8_fillOne_1 ?_
  refine rk_iconst 0 dX8_fillOne_4 (by decide) ?_
  refine rk_rn23 0 dX8_fillOne_5 rfl (by first | decide | assumption | omega) ?_
  refine rk_astore (ls' := [(4, _), (0, _), (1, _), (2, _), (3, _)]) dX8_fillOne_6 (by decide) rfl ?_
  refine rk_aload dX8_fillOne_8 rfl ?_
  refine rk_pc (pc' := 10) rfl ?_
  refine rk_aload_n 1 dX8_fillOne_10 rfl rfl ?_
  refine rk_g10_1 rk_kX8_18 dX8_fillOne_11 ?_
  refine rk_cVv (cX7_copyFrom_s (r := 4 * (10 + 0) + 2) (rp := 4 * t + 2) hs0 h.2.2.1 (by omega) hpv.2.1 hpv.1) rk_eX7_copyFrom rfl ⟨rfl, rfl⟩ rk_kX8_24 dX8_fillOne_14 rfl (by decide) (Nat.le_of_ble_eq_true rfl) ⟨Nat.le_refl _, Nat.le_refl _⟩ (fun Iz1 Rz1 hz1 => ?_)
  obtain ⟨qhz1, s1, f1⟩ := hz1
  obtain rfl := qhz1.symm
  have y1 : cl_y rg Iz1 R y t N := h.fr f1 (by omega) hv.c12 hv.c13
  have hP := y1.2.2.2.1.2.1 i (by omega)
  have hrO : rg (R 13 (R 1 (R 10 y 2) 0) i) = 4 * t + 3 := h.1.2.2.2.2.2.1 i (by omega)
  have hcf := cX7_cutFor_s (w := w) (l := l) (Sh := Sh) (o := R 13 (R 1 (R 10 y 2) 0) i) y1.1.2.1 (show 4 * t + 1 ≠ 4 * (10 + 0) + 2 by omega) (by rw [hrO]; omega) (by omega) (by omega) hpv hov hn3 hP (h.2.2.2.1.2.2 i (by omega)) y1.2.1 h6 s1
  refine rk_aload_n 1 dX8_fillOne_17 rfl rfl ?_
  refine rk_g10_2 rk_kX8_28 dX8_fillOne_18 ?_
  refine rk_g1_0 rk_kX8_32 dX8_fillOne_21 ?_
  refine rk_pc (pc' := 24) rfl ?_
  refine rk_iload_n 2 dX8_fillOne_24 rfl rfl ?_
  refine rk_rn13 (i) dX8_fillOne_25 (by first | rfl | decide | assumption | (simp only [rk_lit, nI_add, pk_mul, nI_1]; done) | (simp only [rk_lit, nI_add, pk_mul, nI_1]; congr 1; omega)) (by first | decide | assumption | omega) ?_
  refine rk_astore (ls' := [(5, _), (4, _), (0, _), (1, _), (2, _), (3, _)]) dX8_fillOne_26 (by decide) rfl ?_
  refine rk_aload dX8_fillOne_28 rfl ?_
  refine rk_aload dX8_fillOne_30 rfl ?_
  refine rk_aload_n 1 dX8_fillOne_32 rfl rfl ?_
  refine rk_pc (pc' := 33) rfl ?_
  refine rk_g10_0 rk_kX8_38 dX8_fillOne_33 ?_
  refine rk_cVi (hcf) rk_eX7_cutFor rfl ⟨rfl, rfl⟩ rk_kX8_42 dX8_fillOne_36 rfl (by decide) (Nat.le_of_ble_eq_true rfl) ⟨Nat.le_refl _, Nat.le_refl _⟩ (fun xz2 Iz2 Rz2 hz2 => ?_)
  obtain ⟨rfl, s2, f2⟩ := hz2
  have y2 : cl_y rg Iz2 Rz2 y t N := y1.fr f2 (by omega) hv.c12 hv.c13
  have e3 : Iz2 3 (R 13 (R 1 (R 10 y 2) 0) i) 0 = nI f := by rw [f2.1 3 _ (by rw [hrO]; omega), hP 0 (by decide)]; exact hf0
  have hts2 : cl_ts rg Rz2 tr := hts.st (i := 0) (f1.tr f2) s2.1
  have fr2 : cl_fr rg (fun z => 40 ≤ z ∧ z < 88) I R Iz2 Rz2 := (f1.tr f2).mo (fun z hz => by omega)
  refine rk_istore (ls' := [(6, _), (5, _), (4, _), (0, _), (1, _), (2, _), (3, _)]) dX8_fillOne_39 (by decide) rfl ?_
  refine rk_iload_n 3 dX8_fillOne_41 rfl rfl ?_
  refine rk_tsw 107 dX8_fillOne_42 (by decide) (by decide) (by decide) ?_ (fun qz42 => ?_)
  · refine ⟨fun qz42 => ?_, fun qz42 => ?_, fun qz42 => ?_, trivial⟩
    · skip
      have hkw : k = 0 := rk_toI qz42 (by decide)
      subst hkw
      refine rk_pc (pc' := 68) (by decide) ?_
      refine rk_iload dX8_fillOne_68 rfl ?_
      refine rk_iretJ dX8_fillOne_70 rfl rfl ?_
      exact ⟨by rw [hw, if_pos (by decide), if_pos rfl], hts2, fr2⟩
    · skip
      have hkw : k = 1 := rk_toI qz42 (by decide)
      subst hkw
      refine rk_pc (pc' := 71) (by decide) ?_
      refine rk_aload dX8_fillOne_71 rfl ?_
      refine rk_pc (pc' := 73) rfl ?_
      refine rk_g8_2 rk_kX8_46 dX8_fillOne_73 ?_
      refine rk_aload dX8_fillOne_76 rfl ?_
      refine rk_g3_0 rk_kX8_50 dX8_fillOne_78 ?_
      rw [e3]
      refine rk_rn21 (f) dX8_fillOne_81 (by first | rfl | decide | assumption | (simp only [rk_lit, nI_add, pk_mul, nI_1]; done) | (simp only [rk_lit, nI_add, pk_mul, nI_1]; congr 1; omega)) (by first | decide | assumption | omega) ?_
      refine rk_iconst 5 dX8_fillOne_82 (by decide) ?_
      refine rk_rn22 5 dX8_fillOne_83 rfl (by first | decide | assumption | omega) ?_
      rw [s2.2.2 f hf 5 (by decide)]
      refine rk_pc (pc' := 84) rfl ?_
      refine rk_aload_n 1 dX8_fillOne_84 rfl rfl ?_
      refine rk_g10_1 rk_kX8_18 dX8_fillOne_85 ?_
      refine rk_g8_2 rk_kX8_46 dX8_fillOne_88 ?_
      refine rk_aload dX8_fillOne_91 rfl ?_
      refine rk_g3_0 rk_kX8_50 dX8_fillOne_93 ?_
      rw [e3]
      refine rk_rn21 (f) dX8_fillOne_96 (by first | rfl | decide | assumption | (simp only [rk_lit, nI_add, pk_mul, nI_1]; done) | (simp only [rk_lit, nI_add, pk_mul, nI_1]; congr 1; omega)) (by first | decide | assumption | omega) ?_
      refine rk_pc (pc' := 97) rfl ?_
      refine rk_iconst 5 dX8_fillOne_97 (by decide) ?_
      refine rk_rn22 5 dX8_fillOne_98 rfl (by first | decide | assumption | omega) ?_
      rw [y2.2.2.1.2.2 f hf 5 (by decide)]
      refine rk_isub dX8_fillOne_99 ?_
      refine rk_iretJ dX8_fillOne_100 rfl rfl ?_
      exact ⟨by rw [hw, if_pos (by decide), if_neg (by decide), if_pos rfl, hsf]; rfl, hts2, fr2⟩
    · skip
      have hkw : k = 2 := rk_toI qz42 (by decide)
      subst hkw
      refine rk_pc (pc' := 101) (by decide) ?_
      refine rk_aload dX8_fillOne_101 rfl ?_
      refine rk_g8_1 rk_kX8_56 dX8_fillOne_103 ?_
      rw [s2.2.1.1]
      refine rk_iretJ dX8_fillOne_106 rfl rfl ?_
      exact ⟨by rw [hw, if_pos (by decide), if_neg (by decide), if_neg (by decide)], hts2, fr2⟩
  · skip
    refine rk_bipush (-2) dX8_fillOne_107 (by decide) ?_
    refine rk_pc (pc' := 109) rfl ?_
    refine rk_iretJ dX8_fillOne_109 rfl rfl ?_
    exact ⟨by rw [hw, if_neg (show ¬ (0 ≤ k ∧ k ≤ 2) from (rk_tout (n := 2) (by decide) qz42 (m := 2) (by decide)).1)], hts2, fr2⟩
end CZ

