section CE
variable {rg : Nat → Nat} {I : rk_Mm} {R : rk_Rm} {q r c i f : Nat} {N : Nat → Int32}
theorem cl_cut0 {feet part : Int32} {ac : Nat} {I1 I2 I3 : rk_Mm} (hst : cl_st rg I R q r N) (hc : N 12 = nI c) (hc2 : c ≤ 24) (hi : i < c) (hf : f < 3) (h0 : N (50 + 7 * i) = nI f) (hac : ac = 3 ∨ ac = 4) (hpt : part = sp_yin (N (50 + 7 * i + 4)) feet (N (50 + 7 * i + 3)))
    (e1 : I1 = md_a I 22 (R 21 (R 8 q 2) f) (sp_u (sp_u (I 22 (R 21 (R 8 q 2) f)) 2 (I 22 (R 21 (R 8 q 2) f) 2 - part)) ac (sp_u (I 22 (R 21 (R 8 q 2) f)) 2 (I 22 (R 21 (R 8 q 2) f) 2 - part) ac + part)))
    (e2 : I2 = rk_uI I1 5 (R 20 (R 8 q 0) i) 4 (N (50 + 7 * i + 4) - part)) (e3 : I3 = rk_uI I2 5 (R 20 (R 8 q 0) i) 3 (N (50 + 7 * i + 3) - feet)) :
    cl_st rg I3 R q r (sp_u (sp_cut1 N i feet) (30 + 4 * f + (ac - 2)) (N (30 + 4 * f + (ac - 2)) + part)) ∧ cl_fr rg (fun z => z = r) I R I3 R := by
  obtain ⟨hs, hp, ha⟩ := hst
  have hA := ha.md (G := sp_u (sp_u (I 22 (R 21 (R 8 q 2) f)) 2 (I 22 (R 21 (R 8 q 2) f) 2 - part)) ac (sp_u (I 22 (R 21 (R 8 q 2) f)) 2 (I 22 (R 21 (R 8 q 2) f) 2 - part) ac + part)) hs hf
  rw [← e1] at hA
  have hA2 := (hA.u (k := 5) (a := R 20 (R 8 q 0) i) (j := 4) (v := N (50 + 7 * i + 4) - part) (by decide))
  rw [← e2] at hA2
  have hA3 := (hA2.u (k := 5) (a := R 20 (R 8 q 0) i) (j := 3) (v := N (50 + 7 * i + 3) - feet) (by decide))
  rw [← e3] at hA3
  have hP1 := hp.md (b := R 21 (R 8 q 2) f) (F := sp_u (sp_u (I 22 (R 21 (R 8 q 2) f)) 2 (I 22 (R 21 (R 8 q 2) f) 2 - part)) ac (sp_u (I 22 (R 21 (R 8 q 2) f)) 2 (I 22 (R 21 (R 8 q 2) f) 2 - part) ac + part))
  rw [← e1] at hP1
  have hP2 := hP1.up (k := 4) (v := N (50 + 7 * i + 4) - part) hs hc hc2 hi (by decide)
  rw [← e2] at hP2
  have hP3 := hP2.up (c := c) (i := i) (k := 3) (v := N (50 + 7 * i + 3) - feet) hs (by rw [sp_un (by omega)]; exact hc) hc2 hi (by decide)
  rw [← e3, ← sp_uu (show 50 + 7 * i + 3 ≠ 50 + 7 * i + 4 by omega)] at hP3
  have hcut : sp_u (sp_u N (50 + 7 * i + 3) (N (50 + 7 * i + 3) - feet)) (50 + 7 * i + 4) (N (50 + 7 * i + 4) - part) = sp_cut1 N i feet := by rw [hpt]; rfl
  rw [hcut] at hP3
  have h1 : sp_cut1 N i feet 12 = nI c := by rw [sp_cut1, sp_un (by omega), sp_un (by omega)]; exact hc
  refine ⟨⟨hs, hP3.cg h1 hc2 (fun j hj => sp_un (by omega)), hA3.cg (fun g hg k hk => ?_)⟩, ?_⟩
  · show (if g = f then _ else sp_acc N g k) = _
    have hj : ac - 2 < 4 := by omega
    rw [sp_acc_u hf hg hj hk, sp_acc_c1 hc hc2 hi hf hg hk h0, ← hpt]
    by_cases hgf : g = f
    · subst hgf
      have F : ∀ k, k < 6 → I 22 (R 21 (R 8 q 2) g) k = sp_acc N g k := fun k hk => ha g hg k hk
      have Fac : sp_acc N g ac = N (30 + 4 * g + (ac - 2)) := by rcases hac with rfl | rfl <;> simp [sp_acc]
      rw [if_pos rfl, if_neg (show ¬ ac - 2 = 0 by omega), show ac - 2 + 2 = ac by omega]
      by_cases hk1 : k = ac
      · subst hk1
        rw [sp_us, sp_un (by omega), F k hk, Fac, if_pos ⟨rfl, rfl⟩]
      · rw [sp_un hk1, if_neg (fun z => hk1 z.2)]
        by_cases hk2 : k = 2
        · subst hk2; rw [sp_us, F 2 hk, if_pos ⟨rfl, rfl⟩]
        · rw [sp_un hk2, if_neg (fun z => hk2 z.2), F k hk]
    · rw [if_neg hgf, if_neg (fun z => hgf z.1), if_neg (fun z => hgf z.1)]
  · have hr5 : rg (R 20 (R 8 q 0) i) = r := hs.2.2.2.1 i (by omega)
    have hr22 : rg (R 21 (R 8 q 2) f) = r := hs.2.2.2.2.1 f hf
    have f1 : cl_fr rg (fun z => z = r) I R I1 R := by rw [e1]; exact cl_fr.ma hr22
    have f2 : cl_fr rg (fun z => z = r) I1 R I2 R := by rw [e2]; exact cl_fr.ui hr5
    have f3 : cl_fr rg (fun z => z = r) I2 R I3 R := by rw [e3]; exact cl_fr.ui hr5
    exact (f1.tr f2).tr f3
theorem sp_gone_u {j : Nat} {v : Int32} (h1 : j < 50) (h2 : j ≠ 12) : sp_gone (sp_u N j v) 12 50 i = sp_u (sp_gone N 12 50 i) j v := by
  funext k
  have e : sp_c (sp_u N j v) 12 = sp_c N 12 := by rw [sp_c, sp_un (fun z => h2 z.symm)]; rfl
  by_cases hk : k = j
  · subst hk
    rw [sp_us]
    simp only [sp_gone, e]
    rw [if_neg h2, if_neg (by omega), sp_us]
  · rw [sp_un (N := sp_gone N 12 50 i) hk]
    simp only [sp_gone, e]
    rw [sp_un (show 12 ≠ j from fun z => h2 z.symm), sp_un (show k ≠ j from hk)]
    split
    · rfl
    · split
      · exact sp_un (by omega)
      · rfl
theorem cl_end {y : Int32} {I4 I5 : rk_Mm} {R5 : rk_Rm} (hst : cl_st rg I R q r N) (hc : N 12 = nI c) (hc2 : c ≤ 24) (hi : i < c) (hf : f < 3) (h0 : N (50 + 7 * i) = nI f) (hy : y = N (50 + 7 * i + 4))
    (e4 : I4 = md_a I 22 (R 21 (R 8 q 2) f) (sp_u (sp_u (I 22 (R 21 (R 8 q 2) f)) 2 (I 22 (R 21 (R 8 q 2) f) 2 - y)) 5 (sp_u (I 22 (R 21 (R 8 q 2) f)) 2 (I 22 (R 21 (R 8 q 2) f) 2 - y) 5 + y)))
    (e5 : I5 = rk_uI I4 8 q 1 (nI (c - 1))) (eR : R5 = md_r R 20 (R 8 q 0) (fun z => R 20 (R 8 q 0) (cl_sg i c z))) :
    cl_st rg I5 R5 q r (sp_u (sp_gone N 12 50 i) (30 + 4 * f + 3) (N (30 + 4 * f + 3) + y)) ∧ cl_fr rg (fun z => z = r) I R I5 R5 := by
  obtain ⟨hs, hp, ha⟩ := hst
  have hA := ha.md (G := sp_u (sp_u (I 22 (R 21 (R 8 q 2) f)) 2 (I 22 (R 21 (R 8 q 2) f) 2 - y)) 5 (sp_u (I 22 (R 21 (R 8 q 2) f)) 2 (I 22 (R 21 (R 8 q 2) f) 2 - y) 5 + y)) hs hf
  rw [← e4] at hA
  have hA2 := (hA.u (k := 8) (a := q) (j := 1) (v := nI (c - 1)) (by decide))
  rw [← e5] at hA2
  have hA3 := hA2.mr (b := R 8 q 0) (F := fun z => R 20 (R 8 q 0) (cl_sg i c z))
  rw [← eR] at hA3
  have hP1 := hp.md (b := R 21 (R 8 q 2) f) (F := sp_u (sp_u (I 22 (R 21 (R 8 q 2) f)) 2 (I 22 (R 21 (R 8 q 2) f) 2 - y)) 5 (sp_u (I 22 (R 21 (R 8 q 2) f)) 2 (I 22 (R 21 (R 8 q 2) f) 2 - y) 5 + y))
  rw [← e4] at hP1
  have hP2 := hP1.rm hc hc2 hi
  rw [← e5, ← eR] at hP2
  have h1 : sp_gone N 12 50 i 12 = nI (c - 1) := sp_gone_n hc (by omega)
  refine ⟨⟨by rw [eR]; exact hs.rm hc2 hi, hP2.cg h1 (by omega) (fun j hj => sp_un (by omega)), hA3.cg (fun g hg k hk => ?_)⟩, ?_⟩
  · show (if g = f then _ else sp_acc N g k) = _
    rw [sp_acc_u hf hg (by decide) hk, sp_acc_gone hc hc2 hi hf hg hk h0, ← hy]
    by_cases hgf : g = f
    · subst hgf
      have F : ∀ k, k < 6 → I 22 (R 21 (R 8 q 2) g) k = sp_acc N g k := fun k hk => ha g hg k hk
      rw [if_pos rfl, if_neg (show ¬ 3 = 0 by decide)]
      by_cases hk1 : k = 5
      · subst hk1
        rw [sp_us, sp_un (by omega), F 5 hk, if_pos ⟨rfl, rfl⟩]
        simp [sp_acc]
      · rw [sp_un hk1, if_neg (fun z => hk1 z.2)]
        by_cases hk2 : k = 2
        · subst hk2; rw [sp_us, F 2 hk, if_pos ⟨rfl, rfl⟩]
        · rw [sp_un hk2, if_neg (fun z => hk2 z.2), F k hk]
    · rw [if_neg hgf, if_neg (fun z => hgf z.1), if_neg (fun z => hgf z.1)]
  · have hr22 : rg (R 21 (R 8 q 2) f) = r := hs.2.2.2.2.1 f hf
    have f1 : cl_fr rg (fun z => z = r) I R I4 R := by rw [e4]; exact cl_fr.ma hr22
    have f2 : cl_fr rg (fun z => z = r) I4 R I5 R := by rw [e5]; exact cl_fr.ui hs.1
    have f3 : cl_fr rg (fun z => z = r) I5 R I5 R5 := by rw [eR]; exact cl_fr.mr hs.2.1 (Or.inr (Or.inr rfl))
    exact (f1.tr f2).tr f3
theorem sp_cut_end {feet part v : Int32} {a : Nat} (h6 : 1 ≤ N 6) (hL : 0 < N (50 + 7 * i + 3)) (h0 : N (50 + 7 * i) = nI f) (hf : f < 3) (hlt : N (50 + 7 * i + 3) - feet < N 6) (ha : a = 1 ∨ a = 2) (hpt : part = sp_yin (N (50 + 7 * i + 4)) feet (N (50 + 7 * i + 3))) : sp_u (sp_gone (sp_u (sp_cut1 N i feet) (30 + 4 * f + a) v) 12 50 i) (30 + 4 * f + 3) (sp_u (sp_cut1 N i feet) (30 + 4 * f + a) v (30 + 4 * f + 3) + (N (50 + 7 * i + 4) - part)) = sp_u (sp_cut N i feet) (30 + 4 * f + a) v := by
  rw [sp_cut_lt h6 hL h0 hf hlt, sp_gone_u (by omega) (by omega), sp_un (show 30 + 4 * f + 3 ≠ 30 + 4 * f + a by omega), sp_uu (by omega)]
  congr 1
  unfold sp_cut2
  rw [sp_cN h0 (by omega), sp_gone_u (by omega) (by omega), hpt]
  congr 1
  rw [sp_cut1, sp_un (by omega), sp_un (by omega)]
end CE
section CF
variable {w : rk_W} {l : Launch} {Sh : rk_Sh} {rg : Nat → Nat} {I : rk_Mm} {R : rk_Rm} {q r c i f : Nat} {N : Nat → Int32}
theorem cX7_cut_s {feet : Int32} {ac : Nat} (hst : cl_st rg I R q r N) (hc : N 12 = nI c) (hc2 : c ≤ 24) (hi : i < c) (hf : f < 3) (h0 : N (50 + 7 * i) = nI f) (hL : 0 < N (50 + 7 * i + 3)) (h6 : 1 ≤ N 6) (hac : ac = 3 ∨ ac = 4) : rk_U w l rk_mX7_cut 2 [rk_a 8 q, rk_i (nI i), rk_i feet, rk_i (nI ac), rk_i (N 6)] Sh I R (fun I' R' => cl_st rg I' R' q r (sp_u (sp_cut N i feet) (30 + 4 * f + (ac - 2)) (N (30 + 4 * f + (ac - 2)) + sp_yin (N (50 + 7 * i + 4)) feet (N (50 + 7 * i + 3)))) ∧ cl_fr rg (fun z => z = r) I R I' R') := by
  have hP := hst.2.1.2 i (by rw [sp_cN hc (by omega)]; exact hi)
  have hP0 : I 5 (R 20 (R 8 q 0) i) 0 = nI f := by rw [hP 0 (by decide)]; exact h0
  have hP3 := hP 3 (by decide)
  have hP4 := hP 4 (by decide)
  have h8 : I 8 q 1 = nI c := hst.2.1.1.trans hc
  refine rk_bU (ls := [(0, _), (1, _), (2, _), (3, _), (4, _)]) (by decide) rfl (Nat.le_of_ble_eq_true rfl) ?_
  refine rk_aload_n 0 dX7_cut_0 rfl rfl ?_
  refine rk_g8_0 rk_kX7_11 dX7_cut_1 ?_
  refine rk_iload_n 1 dX7_cut_4 rfl rfl ?_
  refine rk_rn20 (i) dX7_cut_5 (by first | rfl | decide | assumption | (simp only [rk_lit, nI_add, pk_mul, nI_1]; done) | (simp only [rk_lit, nI_add, pk_mul, nI_1]; congr 1; omega)) (by first | decide | assumption | omega) ?_
  refine rk_astore (ls' := [(5, _), (0, _), (1, _), (2, _), (3, _), (4, _)]) dX7_cut_6 (by decide) rfl ?_
  refine rk_aload dX7_cut_8 rfl ?_
  refine rk_pc (pc' := 10) rfl ?_
  refine rk_iload_n 2 dX7_cut_10 rfl rfl ?_
  refine rk_cVp (cX4_yarnIn_s _ _ (by rw [hP3]; exact hL)) rk_eX4_yarnIn rfl ⟨rfl, rfl⟩ rk_kX7_89 dX7_cut_11 rfl (by decide) (Nat.le_of_ble_eq_true rfl) ⟨Nat.le_refl _, Nat.le_refl _⟩ ?_
  rw [hP4, hP3]
  refine rk_istore (ls' := [(6, _), (5, _), (0, _), (1, _), (2, _), (3, _), (4, _)]) dX7_cut_14 (by decide) rfl ?_
  refine rk_aload_n 0 dX7_cut_16 rfl rfl ?_
  refine rk_aload dX7_cut_17 rfl ?_
  refine rk_g5_0 rk_kX7_41 dX7_cut_19 ?_
  rw [hP0]
  refine rk_pc (pc' := 22) rfl ?_
  refine rk_iconst 2 dX7_cut_22 (by decide) ?_
  refine rk_iload_n 3 dX7_cut_23 rfl rfl ?_
  refine rk_iload dX7_cut_24 rfl ?_
  refine rk_cVv (cX7_move_s (f := f) (a := 2) (b := ac) hf (by decide) (by omega)) rk_eX7_move rfl ⟨rfl, rfl⟩ rk_kX7_72 dX7_cut_26 rfl (by decide) (Nat.le_of_ble_eq_true rfl) ⟨Nat.le_refl _, Nat.le_refl _⟩ (fun Iz1 Rz1 hz1 => ?_)
  obtain ⟨qhz1, eIz1⟩ := hz1
  obtain rfl := qhz1.symm
  have a5 : Iz1 5 = I 5 := by rw [eIz1, md_cc (by decide)]
  refine rk_aload dX7_cut_29 rfl ?_
  refine rk_dup dX7_cut_31 rfl ?_
  refine rk_pc (pc' := 32) rfl ?_
  refine rk_g5_4 rk_kX7_59 dX7_cut_32 ?_
  rw [a5, hP4]
  refine rk_iload dX7_cut_35 rfl ?_
  refine rk_isub dX7_cut_37 ?_
  refine rk_p5_4 rk_kX7_59 dX7_cut_38 (fun Iz2 eIz2 => ?_)
  refine rk_aload dX7_cut_41 rfl ?_
  refine rk_dup dX7_cut_43 rfl ?_
  refine rk_pc (pc' := 44) rfl ?_
  refine rk_g5_3 rk_kX7_50 dX7_cut_44 ?_
  rw [rk_ufn eIz2 3 (by decide), a5, hP3]
  refine rk_iload_n 2 dX7_cut_47 rfl rfl ?_
  refine rk_isub dX7_cut_48 ?_
  refine rk_p5_3 rk_kX7_50 dX7_cut_49 (fun Iz3 eIz3 => ?_)
  refine rk_aload dX7_cut_52 rfl ?_
  refine rk_g5_3 rk_kX7_50 dX7_cut_54 ?_
  rw [rk_ufs eIz3]
  refine rk_pc (pc' := 57) rfl ?_
  refine rk_iload dX7_cut_57 rfl ?_
  refine rk_icmp_ge 83 dX7_cut_59 (by decide) (fun qz59 => ?_) (fun qz59 => ?_)
  · skip
    refine rk_vretU dX7_cut_83 rfl ?_
    have g0 := cl_cut0 hst hc hc2 hi hf h0 hac rfl eIz1 eIz2 eIz3
    first | (rw [sp_cut_ge h6 qz59]; exact g0) | (have g1 : sp_u (sp_cut1 N i feet) (30 + 4 * f + (ac - 2)) (N (30 + 4 * f + (ac - 2)) + sp_yin (N (50 + 7 * i + 4)) feet (N (50 + 7 * i + 3))) 12 = nI c := (by rw [sp_un (by omega), sp_cut1, sp_un (by omega), sp_un (by omega)]; exact hc); have g2 := cl_end g0.1 g1 hc2 hi hf (by rw [sp_un (by omega), sp_cut1, sp_un (by omega), sp_un (by omega)]; exact h0) (by rw [sp_un (by omega), sp_cut1, sp_us]) eIz4 eIz5 eRz5; rw [sp_cut_end h6 hL h0 hf (Int32.not_le.mp qz59) (by omega) rfl] at g2; exact ⟨g2.1, g0.2.tr g2.2⟩)
  · skip
    refine rk_aload_n 0 dX7_cut_62 rfl rfl ?_
    refine rk_aload dX7_cut_63 rfl ?_
    refine rk_g5_0 rk_kX7_41 dX7_cut_65 ?_
    rw [rk_ufn eIz3 0 (by decide), rk_ufn eIz2 0 (by decide), a5, hP0]
    refine rk_iconst 2 dX7_cut_68 (by decide) ?_
    refine rk_iconst 5 dX7_cut_69 (by decide) ?_
    refine rk_pc (pc' := 70) rfl ?_
    refine rk_aload dX7_cut_70 rfl ?_
    refine rk_g5_4 rk_kX7_59 dX7_cut_72 ?_
    rw [rk_ufn eIz3 4 (by decide), rk_ufs eIz2]
    refine rk_cVv (cX7_move_s (f := f) (a := 2) (b := 5) hf (by decide) (by decide)) rk_eX7_move rfl ⟨rfl, rfl⟩ rk_kX7_72 dX7_cut_75 rfl (by decide) (Nat.le_of_ble_eq_true rfl) ⟨Nat.le_refl _, Nat.le_refl _⟩ (fun Iz4 Rz4 hz4 => ?_)
    obtain ⟨qhz4, eIz4⟩ := hz4
    obtain rfl := qhz4.symm
    have b8 : Iz4 8 q 1 = nI c := by rw [eIz4, md_cc (by decide), rk_ufc eIz3 (by decide), rk_ufc eIz2 (by decide), eIz1, md_cc (by decide), h8]
    refine rk_aload_n 0 dX7_cut_78 rfl rfl ?_
    refine rk_iload_n 1 dX7_cut_79 rfl rfl ?_
    refine rk_cVv (cX7_remove_s (c := c) hc2 hi b8) rk_eX7_remove rfl ⟨rfl, rfl⟩ rk_kX7_85 dX7_cut_80 rfl (by decide) (Nat.le_of_ble_eq_true rfl) ⟨Nat.le_refl _, Nat.le_refl _⟩ (fun Iz5 Rz5 hz5 => ?_)
    obtain ⟨eIz5, eRz5⟩ := hz5
    refine rk_pc (pc' := 83) rfl ?_
    refine rk_vretU dX7_cut_83 rfl ?_
    have g0 := cl_cut0 hst hc hc2 hi hf h0 hac rfl eIz1 eIz2 eIz3
    first | (rw [sp_cut_ge h6 qz59]; exact g0) | (have g1 : sp_u (sp_cut1 N i feet) (30 + 4 * f + (ac - 2)) (N (30 + 4 * f + (ac - 2)) + sp_yin (N (50 + 7 * i + 4)) feet (N (50 + 7 * i + 3))) 12 = nI c := (by rw [sp_un (by omega), sp_cut1, sp_un (by omega), sp_un (by omega)]; exact hc); have g2 := cl_end g0.1 g1 hc2 hi hf (by rw [sp_un (by omega), sp_cut1, sp_un (by omega), sp_un (by omega)]; exact h0) (by rw [sp_un (by omega), sp_cut1, sp_us]) eIz4 eIz5 eRz5; rw [sp_cut_end h6 hL h0 hf (Int32.not_le.mp qz59) (by omega) rfl] at g2; exact ⟨g2.1, g0.2.tr g2.2⟩)
end CF

