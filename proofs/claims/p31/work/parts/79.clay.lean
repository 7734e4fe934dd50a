section CL
variable {rg : Nat → Nat} {I : rk_Mm} {R : rk_Rm} {q r c f : Nat} {N : Nat → Int32} {s y ft : Int32}
theorem sp_lay_x {j : Nat} (h1 : j ≠ 20 + 3 * f + 2) (h2 : j ≠ 11) (h3 : j < 50 + 7 * c ∨ 50 + 7 * c + 7 ≤ j) (h4 : j ≠ 12) : sp_layN N f c s y ft j = N j := by
  rw [sp_layN, sp_un h4, sp_un (by omega), sp_un (by omega), sp_un (by omega), sp_un (by omega), sp_un (by omega), sp_un (by omega), sp_un (by omega), sp_un h2, sp_un h1]
theorem sp_lay_12 : sp_layN N f c s y ft 12 = N 12 + 1 := by rw [sp_layN, sp_us]
def sp_layV (N : Nat → Int32) (f : Nat) (s y ft : Int32) (k : Nat) : Int32 := if k = 0 then nI f else if k = 1 then s else if k = 2 then y else if k = 3 then ft else if k = 4 then s * y * sp_yarn N ft else if k = 5 then sp_qual N f else 0
theorem sp_lay_p {k : Nat} (hk : k < 7) : sp_layN N f c s y ft (50 + 7 * c + k) = sp_layV N f s y ft k := by
  rw [sp_layN, sp_un (by omega)]
  rcases (by omega : k = 0 ∨ k = 1 ∨ k = 2 ∨ k = 3 ∨ k = 4 ∨ k = 5 ∨ k = 6) with rfl | rfl | rfl | rfl | rfl | rfl | rfl
  · rw [sp_un (by omega), sp_un (by omega), sp_un (by omega), sp_un (by omega), sp_un (by omega), sp_un (by omega)]; exact sp_us
  · rw [sp_un (by omega), sp_un (by omega), sp_un (by omega), sp_un (by omega), sp_un (by omega), sp_us]; rfl
  · rw [sp_un (by omega), sp_un (by omega), sp_un (by omega), sp_un (by omega), sp_us]; rfl
  · rw [sp_un (by omega), sp_un (by omega), sp_un (by omega), sp_us]; rfl
  · rw [sp_un (by omega), sp_un (by omega), sp_us]; rfl
  · rw [sp_un (by omega), sp_us]; rfl
  · rw [sp_us]; rfl
theorem sp_acc_lay {g k : Nat} (hc : N 12 = nI c) (hc2 : c < 24) (hf : f < 3) (hg : g < 3) (hk : k < 6) : sp_acc (sp_layN N f c s y ft) g k = if g = f then sp_u (sp_u (sp_acc N f) 1 (sp_acc N f 1 - s * y * sp_yarn N ft)) 2 (sp_acc N f 2 + s * y * sp_yarn N ft) k else sp_acc N g k := by
  have e12 : sp_c (sp_layN N f c s y ft) 12 = c + 1 := by
    refine sp_cN ?_ (by omega)
    rw [sp_lay_12, hc, nI_1]
  have ec : sp_c N 12 = c := sp_cN hc (by omega)
  have hy : sp_yp (sp_layN N f c s y ft) g (c + 1) = if g = f then sp_yp N g c + s * y * sp_yarn N ft else sp_yp N g c := by
    have h1 : sp_yp (sp_layN N f c s y ft) g c = sp_yp N g c := sp_yp_c (fun i hi => ⟨sp_lay_x (by omega) (by omega) (by omega) (by omega), sp_lay_x (by omega) (by omega) (by omega) (by omega)⟩)
    show sp_yp (sp_layN N f c s y ft) g c + _ = _
    rw [h1]
    show _ + (@ite _ (sp_layN N f c s y ft (50 + 7 * c + 0) = nI g) (Classical.propDecidable _) (sp_layN N f c s y ft (50 + 7 * c + 4)) 0) = _
    rw [sp_lay_p (k := 0) (by decide), sp_lay_p (k := 4) (by decide)]
    show _ + (@ite _ (nI f = nI g) (Classical.propDecidable _) (s * y * sp_yarn N ft) 0) = _
    by_cases hgf : g = f
    · subst hgf; rw [if_pos rfl, if_pos rfl]
    · rw [if_neg hgf, if_neg (fun z => hgf ((nI_eq (by omega) (by omega)).mp z).symm), Int32.add_zero]
  by_cases hgf : g = f
  · subst hgf
    rw [if_pos rfl]
    rw [if_pos rfl] at hy
    rcases (by omega : k = 0 ∨ k = 1 ∨ k = 2 ∨ 3 ≤ k) with rfl | rfl | rfl | h3
    · rw [sp_un (by decide), sp_un (by decide)]
      show sp_layN N g c s y ft (30 + 4 * g) = N (30 + 4 * g)
      exact sp_lay_x (by omega) (by omega) (by omega) (by omega)
    · rw [sp_un (by decide), sp_us]
      show sp_layN N g c s y ft (20 + 3 * g + 2) = N (20 + 3 * g + 2) - _
      rw [sp_layN, sp_un (by omega), sp_un (by omega), sp_un (by omega), sp_un (by omega), sp_un (by omega), sp_un (by omega), sp_un (by omega), sp_un (by omega), sp_un (by omega), sp_us]
    · rw [sp_us]
      show sp_yp _ g (sp_c _ 12) = sp_yp N g (sp_c N 12) + _
      rw [e12, ec, hy]
    · rw [sp_un (by omega), sp_un (by omega)]
      simp only [sp_acc]
      rw [if_neg (by omega), if_neg (by omega), if_neg (by omega), if_neg (by omega), if_neg (by omega), if_neg (by omega)]
      exact sp_lay_x (by omega) (by omega) (by omega) (by omega)
  · rw [if_neg hgf]
    rw [if_neg hgf] at hy
    simp only [sp_acc]
    rw [e12, ec, hy, sp_lay_x (by omega) (by omega) (by omega) (by omega), sp_lay_x (by omega) (by omega) (by omega) (by omega), sp_lay_x (by omega) (by omega) (by omega) (by omega)]
theorem cl_lay {I1 I2 I3 I4 I5 I6 I7 I8 I9 : rk_Mm} (hst : cl_st rg I R q r N) (hc : N 12 = nI c) (hc2 : c < 24) (hf : f < 3)
    (e1 : I1 = rk_uI I 5 (R 20 (R 8 q 0) c) 0 (nI f)) (e2 : I2 = rk_uI I1 5 (R 20 (R 8 q 0) c) 1 s) (e3 : I3 = rk_uI I2 5 (R 20 (R 8 q 0) c) 2 y) (e4 : I4 = rk_uI I3 5 (R 20 (R 8 q 0) c) 3 ft) (e5 : I5 = rk_uI I4 5 (R 20 (R 8 q 0) c) 4 (s * y * sp_yarn N ft)) (e6 : I6 = rk_uI I5 5 (R 20 (R 8 q 0) c) 5 (sp_qual N f)) (e7 : I7 = rk_uI I6 5 (R 20 (R 8 q 0) c) 6 0)
    (e8 : I8 = md_a I7 22 (R 21 (R 8 q 2) f) (sp_u (sp_u (I7 22 (R 21 (R 8 q 2) f)) 1 (I7 22 (R 21 (R 8 q 2) f) 1 - s * y * sp_yarn N ft)) 2 (sp_u (I7 22 (R 21 (R 8 q 2) f)) 1 (I7 22 (R 21 (R 8 q 2) f) 1 - s * y * sp_yarn N ft) 2 + s * y * sp_yarn N ft)))
    (e9 : I9 = rk_uI I8 8 q 1 (N 12 + 1)) : cl_st rg I9 R q r (sp_layN N f c s y ft) ∧ cl_fr rg (fun z => z = r) I R I9 R := by
  obtain ⟨hs, hp, ha⟩ := hst
  have p7 := md_ch (md_ch (md_ch (md_ch (md_ch (md_ch (md_c1 e1) e2) e3) e4) e5) e6) e7
  have e12 : sp_c (sp_layN N f c s y ft) 12 = c + 1 := by
    refine sp_cN ?_ (by omega)
    rw [sp_lay_12, hc, nI_1]
  have i22 : I7 22 = I 22 := by rw [p7, md_cc (by decide)]
  have i5 : I9 5 = I7 5 := by rw [e9, rk_ufc rfl (by decide), e8, md_cc (by decide)]
  refine ⟨⟨hs, ⟨by rw [e9, rk_uI_s, sp_lay_12], fun i hi k hk => ?_⟩, ?_⟩, ?_⟩
  · rw [e12] at hi
    rw [i5, p7]
    by_cases hic : i = c
    · subst hic
      rw [md_as, sp_lay_p hk]
      rcases (by omega : k = 0 ∨ k = 1 ∨ k = 2 ∨ k = 3 ∨ k = 4 ∨ k = 5 ∨ k = 6) with rfl | rfl | rfl | rfl | rfl | rfl | rfl <;> simp [sp_u, sp_layV]
    · rw [md_an (fun z => hic (hs.2.2.2.2.2.1 i c (by omega) (by omega) z.2)), sp_lay_x (by omega) (by omega) (by omega) (by omega)]
      exact hp.2 i (by rw [sp_cN hc (by omega)]; omega) k hk
  · have ha7 : cl_sa I7 R q (sp_acc N) := fun g hg k hk => by rw [i22]; exact ha g hg k hk
    have ha8 := ha7.md (G := sp_u (sp_u (I7 22 (R 21 (R 8 q 2) f)) 1 (I7 22 (R 21 (R 8 q 2) f) 1 - s * y * sp_yarn N ft)) 2 (sp_u (I7 22 (R 21 (R 8 q 2) f)) 1 (I7 22 (R 21 (R 8 q 2) f) 1 - s * y * sp_yarn N ft) 2 + s * y * sp_yarn N ft)) hs hf
    rw [← e8] at ha8
    have ha9 := ha8.u (k := 8) (a := q) (j := 1) (v := N 12 + 1) (by decide)
    rw [← e9] at ha9
    refine ha9.cg (fun g hg k hk => ?_)
    rw [sp_acc_lay hc hc2 hf hg hk]
    by_cases hgf : g = f
    · subst hgf
      rw [if_pos rfl, if_pos rfl, sp_un (show 2 ≠ 1 by decide), ha7 g hg 1 (by decide), ha7 g hg 2 (by decide)]
      by_cases h2 : k = 2
      · subst h2; rw [sp_us, sp_us]
      · rw [sp_un h2, sp_un h2]
        by_cases h1 : k = 1
        · subst h1; rw [sp_us, sp_us]
        · rw [sp_un h1, sp_un h1]; exact ha7 g hg k hk
    · rw [if_neg hgf, if_neg hgf]
  · have hr5 : rg (R 20 (R 8 q 0) c) = r := hs.2.2.2.1 c (by omega)
    have f7 : cl_fr rg (fun z => z = r) I R I7 R := by rw [p7]; exact cl_fr.ma hr5
    have f8 : cl_fr rg (fun z => z = r) I7 R I8 R := by rw [e8]; exact cl_fr.ma (hs.2.2.2.2.1 f hf)
    have f9 : cl_fr rg (fun z => z = r) I8 R I9 R := by rw [e9]; exact cl_fr.ui hs.1
    exact (f7.tr f8).tr f9
end CL
section CM
variable {w : rk_W} {l : Launch} {Sh : rk_Sh} {rg : Nat → Nat} {I : rk_Mm} {R : rk_Rm} {q r a c f : Nat} {N : Nat → Int32}
theorem cX7_addRope_s {s y ft : Int32} (hst : cl_st rg I R q r N) (hc : N 12 = nI c) (hc2 : c < 24) (hf : f < 3) (hru : cl_ru I R a N) : rk_J w l rk_mX7_addRope 4 [rk_a 8 q, rk_i (nI f), rk_i s, rk_i y, rk_i ft, rk_a 7 a] Sh I R (fun x I' R' => x = N 12 + 1 - 1 ∧ R' = R ∧ cl_st rg I' R' q r (sp_layN N f c s y ft) ∧ cl_fr rg (fun z => z = r) I R I' R') := by
  have h8 : I 8 q 1 = N 12 := hst.2.1.1
  refine rk_bJ (ls := [(0, _), (1, _), (2, _), (3, _), (4, _), (5, _)]) (by decide) rfl (Nat.le_of_ble_eq_true rfl) ?_
  refine rk_aload_n 0 dX7_addRope_0 rfl rfl ?_
  refine rk_g8_0 rk_kX7_11 dX7_addRope_1 ?_
  refine rk_aload_n 0 dX7_addRope_4 rfl rfl ?_
  refine rk_g8_1 rk_kX7_23 dX7_addRope_5 ?_
  rw [h8, hc]
  refine rk_rn20 (c) dX7_addRope_8 (by first | rfl | decide | assumption | (simp only [rk_lit, nI_add, pk_mul, nI_1]; done) | (simp only [rk_lit, nI_add, pk_mul, nI_1]; congr 1; omega)) (by first | decide | assumption | omega) ?_
  refine rk_astore (ls' := [(6, _), (0, _), (1, _), (2, _), (3, _), (4, _), (5, _)]) dX7_addRope_9 (by decide) rfl ?_
  refine rk_pc (pc' := 11) rfl ?_
  refine rk_aload dX7_addRope_11 rfl ?_
  refine rk_iload_n 1 dX7_addRope_13 rfl rfl ?_
  refine rk_p5_0 rk_kX7_41 dX7_addRope_14 (fun Iz1 eIz1 => ?_)
  refine rk_aload dX7_addRope_17 rfl ?_
  refine rk_iload_n 2 dX7_addRope_19 rfl rfl ?_
  refine rk_p5_1 rk_kX7_44 dX7_addRope_20 (fun Iz2 eIz2 => ?_)
  refine rk_pc (pc' := 23) rfl ?_
  refine rk_aload dX7_addRope_23 rfl ?_
  refine rk_iload_n 3 dX7_addRope_25 rfl rfl ?_
  refine rk_p5_2 rk_kX7_47 dX7_addRope_26 (fun Iz3 eIz3 => ?_)
  refine rk_aload dX7_addRope_29 rfl ?_
  refine rk_iload dX7_addRope_31 rfl ?_
  refine rk_p5_3 rk_kX7_50 dX7_addRope_33 (fun Iz4 eIz4 => ?_)
  have hru4 : cl_ru Iz4 R a N := by rw [eIz4, eIz3, eIz2, eIz1]; exact (((hru.u (by decide)).u (by decide)).u (by decide)).u (by decide)
  refine rk_pc (pc' := 36) rfl ?_
  refine rk_aload dX7_addRope_36 rfl ?_
  refine rk_aload dX7_addRope_38 rfl ?_
  refine rk_iload_n 2 dX7_addRope_40 rfl rfl ?_
  refine rk_iload_n 3 dX7_addRope_41 rfl rfl ?_
  refine rk_iload dX7_addRope_42 rfl ?_
  refine rk_cVp (cX6_yarnFor_s hru4 _ _ _) rk_eX6_yarnFor rfl ⟨rfl, rfl⟩ rk_kX7_53 dX7_addRope_44 rfl (by decide) (Nat.le_of_ble_eq_true rfl) ⟨Nat.le_refl _, Nat.le_refl _⟩ ?_
  refine rk_pc (pc' := 47) rfl ?_
  refine rk_p5_4 rk_kX7_59 dX7_addRope_47 (fun Iz5 eIz5 => ?_)
  have hru5 : cl_ru Iz5 R a N := by rw [eIz5]; exact hru4.u (by decide)
  refine rk_aload dX7_addRope_50 rfl ?_
  refine rk_aload dX7_addRope_52 rfl ?_
  refine rk_iload_n 1 dX7_addRope_54 rfl rfl ?_
  refine rk_cVp (cX6_qualityNow_s hru5 hf) rk_eX6_qualityNow rfl ⟨rfl, rfl⟩ rk_kX7_62 dX7_addRope_55 rfl (by decide) (Nat.le_of_ble_eq_true rfl) ⟨Nat.le_refl _, Nat.le_refl _⟩ ?_
  refine rk_p5_5 rk_kX7_66 dX7_addRope_58 (fun Iz6 eIz6 => ?_)
  refine rk_pc (pc' := 61) rfl ?_
  refine rk_aload dX7_addRope_61 rfl ?_
  refine rk_iconst 0 dX7_addRope_63 (by decide) ?_
  refine rk_p5_6 rk_kX7_69 dX7_addRope_64 (fun Iz7 eIz7 => ?_)
  refine rk_aload_n 0 dX7_addRope_67 rfl rfl ?_
  refine rk_iload_n 1 dX7_addRope_68 rfl rfl ?_
  refine rk_iconst 1 dX7_addRope_69 (by decide) ?_
  refine rk_pc (pc' := 70) rfl ?_
  refine rk_iconst 2 dX7_addRope_70 (by decide) ?_
  refine rk_aload dX7_addRope_71 rfl ?_
  refine rk_g5_4 rk_kX7_59 dX7_addRope_73 ?_
  rw [rk_ufn eIz7 4 (by decide), rk_ufn eIz6 4 (by decide), rk_ufs eIz5]
  refine rk_cVv (cX7_move_s (f := f) (a := 1) (b := 2) hf (by decide) (by decide)) rk_eX7_move rfl ⟨rfl, rfl⟩ rk_kX7_72 dX7_addRope_76 rfl (by decide) (Nat.le_of_ble_eq_true rfl) ⟨Nat.le_refl _, Nat.le_refl _⟩ (fun Iz8 Rz8 hz8 => ?_)
  obtain ⟨qhz8, eIz8⟩ := hz8
  obtain rfl := qhz8.symm
  have b8 : Iz8 8 q 1 = N 12 := by rw [eIz8, md_cc (by decide), rk_ufc eIz7 (by decide), rk_ufc eIz6 (by decide), rk_ufc eIz5 (by decide), rk_ufc eIz4 (by decide), rk_ufc eIz3 (by decide), rk_ufc eIz2 (by decide), rk_ufc eIz1 (by decide), h8]
  refine rk_aload_n 0 dX7_addRope_79 rfl rfl ?_
  refine rk_dup dX7_addRope_80 rfl ?_
  refine rk_pc (pc' := 81) rfl ?_
  refine rk_g8_1 rk_kX7_23 dX7_addRope_81 ?_
  rw [b8]
  refine rk_iconst 1 dX7_addRope_84 (by decide) ?_
  refine rk_iadd dX7_addRope_85 ?_
  refine rk_p8_1 rk_kX7_23 dX7_addRope_86 (fun Iz9 eIz9 => ?_)
  refine rk_aload_n 0 dX7_addRope_89 rfl rfl ?_
  refine rk_g8_1 rk_kX7_23 dX7_addRope_90 ?_
  rw [rk_ufs eIz9]
  refine rk_pc (pc' := 93) rfl ?_
  refine rk_iconst 1 dX7_addRope_93 (by decide) ?_
  refine rk_isub dX7_addRope_94 ?_
  refine rk_iretJ dX7_addRope_95 rfl rfl ?_
  exact ⟨by rw [hc], rfl, cl_lay hst hc hc2 hf eIz1 eIz2 eIz3 eIz4 eIz5 eIz6 eIz7 eIz8 eIz9⟩
end CM

