section CJ
variable {rg : Nat → Nat} {I : rk_Mm} {R : rk_Rm} {q r c i f : Nat} {N : Nat → Int32}
theorem cl_ru.u {a k b j : Nat} {v : Int32} (h : cl_ru I R a N) (hk : k ≠ 17 ∧ k ≠ 18 ∧ k ≠ 19) : cl_ru (rk_uI I k b j v) R a N := ⟨fun j hj => by rw [rk_uI_n (fun z => hk.1 z.1.symm)]; exact h.1 j hj, fun f hf => by rw [rk_uI_n (fun z => hk.2.1 z.1.symm)]; exact h.2.1 f hf, fun f hf => by rw [rk_uI_n (fun z => hk.2.2 z.1.symm)]; exact h.2.2 f hf⟩
theorem sp_acc_join {lo hi g k : Nat} (hc : N 12 = nI c) (hc2 : c ≤ 24) (hl : lo < c) (hh : hi < c) (hne : lo ≠ hi) (hf : f < 3) (hg : g < 3) (hk : k < 6) (h0 : N (50 + 7 * lo) = nI f) (h1 : N (50 + 7 * hi) = nI f) : sp_acc (sp_gone (sp_joinN N lo hi) 12 50 hi) g k = sp_acc N g k := by
  have e : ∀ j, j ≠ 50 + 7 * lo + 3 → j ≠ 50 + 7 * lo + 4 → j ≠ 50 + 7 * lo + 5 → j ≠ 50 + 7 * lo + 6 → sp_joinN N lo hi j = N j := fun j j3 j4 j5 j6 => by rw [sp_joinN, sp_un j6, sp_un j5, sp_un j4, sp_un j3]
  have e4 : sp_joinN N lo hi (50 + 7 * lo + 4) = N (50 + 7 * lo + 4) + N (50 + 7 * hi + 4) := by rw [sp_joinN, sp_un (by omega), sp_un (by omega), sp_us]
  have m12 : sp_joinN N lo hi 12 = nI c := by rw [e _ (by omega) (by omega) (by omega) (by omega)]; exact hc
  rw [sp_acc_gone m12 hc2 hh hf hg hk (by rw [e _ (by omega) (by omega) (by omega) (by omega)]; exact h1)]
  have hy := sp_yp_up (N := N) (M := sp_joinN N lo hi) (f := f) (g := g) (v := N (50 + 7 * hi + 4)) hl hf hg h0 (by rw [e _ (by omega) (by omega) (by omega) (by omega)]; exact h0) e4 (fun p hp hpi => ⟨e _ (by omega) (by omega) (by omega) (by omega), e _ (by omega) (by omega) (by omega) (by omega)⟩)
  have a2 : sp_acc (sp_joinN N lo hi) g 2 = if g = f then sp_acc N g 2 + N (50 + 7 * hi + 4) else sp_acc N g 2 := by
    show sp_yp _ g (sp_c _ 12) = if g = f then sp_yp N g (sp_c N 12) + _ else sp_yp N g (sp_c N 12)
    rw [sp_cN m12 (by omega), sp_cN hc (by omega)]; exact hy
  have eh : sp_joinN N lo hi (50 + 7 * hi + 4) = N (50 + 7 * hi + 4) := e _ (by omega) (by omega) (by omega) (by omega)
  rw [eh]
  by_cases h2 : k = 2
  · subst h2
    by_cases hgf : g = f
    · subst hgf
      rw [if_pos ⟨rfl, rfl⟩, a2, if_pos rfl]
      grind
    · rw [if_neg (fun z => hgf z.1), a2, if_neg hgf]
  · rw [if_neg (fun z => h2 z.2)]
    simp only [sp_acc]
    rw [if_neg h2, if_neg h2, e _ (by omega) (by omega) (by omega) (by omega), e _ (by omega) (by omega) (by omega) (by omega), e _ (by omega) (by omega) (by omega) (by omega)]
theorem cl_join {lo hi : Nat} {I1 I2 I3 I4 I5 : rk_Mm} {R5 : rk_Rm} (hst : cl_st rg I R q r N) (hc : N 12 = nI c) (hc2 : c ≤ 24) (hl : lo < c) (hh : hi < c) (hne : lo ≠ hi) (hf : f < 3) (h0 : N (50 + 7 * lo) = nI f) (h1 : N (50 + 7 * hi) = nI f)
    (e1 : I1 = rk_uI I 5 (R 20 (R 8 q 0) lo) 3 (N (50 + 7 * lo + 3) + (N (50 + 7 * hi + 3) - N 4)))
    (e2 : I2 = rk_uI I1 5 (R 20 (R 8 q 0) lo) 4 (N (50 + 7 * lo + 4) + N (50 + 7 * hi + 4)))
    (e3 : I3 = rk_uI I2 5 (R 20 (R 8 q 0) lo) 5 (if N (50 + 7 * hi + 5) < N (50 + 7 * lo + 5) then N (50 + 7 * hi + 5) else N (50 + 7 * lo + 5)))
    (e4 : I4 = rk_uI I3 5 (R 20 (R 8 q 0) lo) 6 (N (50 + 7 * lo + 6) + (N (50 + 7 * hi + 6) + 1)))
    (e5 : I5 = rk_uI I4 8 q 1 (nI (c - 1))) (eR : R5 = md_r R 20 (R 8 q 0) (fun z => R 20 (R 8 q 0) (cl_sg hi c z))) :
    cl_st rg I5 R5 q r (sp_gone (sp_joinN N lo hi) 12 50 hi) ∧ cl_fr rg (fun z => z = r) I R I5 R5 := by
  obtain ⟨hs, hp, ha⟩ := hst
  have p1 := hp.up (k := 3) (v := N (50 + 7 * lo + 3) + (N (50 + 7 * hi + 3) - N 4)) hs hc hc2 hl (by decide)
  rw [← e1] at p1
  have p2 := p1.up (c := c) (i := lo) (k := 4) (v := N (50 + 7 * lo + 4) + N (50 + 7 * hi + 4)) hs (by rw [sp_un (by omega)]; exact hc) hc2 hl (by decide)
  rw [← e2] at p2
  have p3 := p2.up (c := c) (i := lo) (k := 5) (v := if N (50 + 7 * hi + 5) < N (50 + 7 * lo + 5) then N (50 + 7 * hi + 5) else N (50 + 7 * lo + 5)) hs (by rw [sp_un (by omega), sp_un (by omega)]; exact hc) hc2 hl (by decide)
  rw [← e3] at p3
  have p4 := p3.up (c := c) (i := lo) (k := 6) (v := N (50 + 7 * lo + 6) + (N (50 + 7 * hi + 6) + 1)) hs (by rw [sp_un (by omega), sp_un (by omega), sp_un (by omega)]; exact hc) hc2 hl (by decide)
  rw [← e4] at p4
  have m12 : sp_joinN N lo hi 12 = nI c := by rw [sp_joinN, sp_un (by omega), sp_un (by omega), sp_un (by omega), sp_un (by omega)]; exact hc
  have p5 : cl_sp I4 R q (sp_joinN N lo hi) := p4
  have p6 := p5.rm m12 hc2 hh
  rw [← e5, ← eR] at p6
  have a5 : cl_sa I5 R5 q (sp_acc N) := by
    rw [e5, e4, e3, e2, e1, eR]
    exact (((((ha.u (by decide)).u (by decide)).u (by decide)).u (by decide)).u (by decide)).mr
  refine ⟨⟨by rw [eR]; exact hs.rm hc2 hh, p6, a5.cg (fun g hg k hk => (sp_acc_join hc hc2 hl hh hne hf hg hk h0 h1).symm)⟩, ?_⟩
  have hr5 : rg (R 20 (R 8 q 0) lo) = r := hs.2.2.2.1 lo (by omega)
  have f1 : cl_fr rg (fun z => z = r) I R I1 R := by rw [e1]; exact cl_fr.ui hr5
  have f2 : cl_fr rg (fun z => z = r) I1 R I2 R := by rw [e2]; exact cl_fr.ui hr5
  have f3 : cl_fr rg (fun z => z = r) I2 R I3 R := by rw [e3]; exact cl_fr.ui hr5
  have f4 : cl_fr rg (fun z => z = r) I3 R I4 R := by rw [e4]; exact cl_fr.ui hr5
  have f5 : cl_fr rg (fun z => z = r) I4 R I5 R := by rw [e5]; exact cl_fr.ui hs.1
  have f6 : cl_fr rg (fun z => z = r) I5 R I5 R5 := by rw [eR]; exact cl_fr.mr hs.2.1 (Or.inr (Or.inr rfl))
  exact ((((f1.tr f2).tr f3).tr f4).tr f5).tr f6
end CJ
section CK
variable {w : rk_W} {l : Launch} {Sh : rk_Sh} {rg : Nat → Nat} {I : rk_Mm} {R : rk_Rm} {q r c i f : Nat} {N : Nat → Int32}
theorem cX7_splice_s {i j lo hi : Nat} (hst : cl_st rg I R q r N) (hc : N 12 = nI c) (hc2 : c ≤ 24) (hm : (i = lo ∧ j = hi) ∨ (i = hi ∧ j = lo)) (hlh : lo < hi) (hh : hi < c) (hf : f < 3) (h0 : N (50 + 7 * lo) = nI f) (h1 : N (50 + 7 * hi) = nI f) : rk_J w l rk_mX7_splice 2 [rk_a 8 q, rk_i (nI i), rk_i (nI j), rk_i (N 4)] Sh I R (fun x I' R' => x = nI lo ∧ cl_st rg I' R' q r (sp_gone (sp_joinN N lo hi) 12 50 hi) ∧ cl_fr rg (fun z => z = r) I R I' R') := by
  have hL := hst.2.1.2 lo (by rw [sp_cN hc (by omega)]; omega)
  have hH := hst.2.1.2 hi (by rw [sp_cN hc (by omega)]; omega)
  have hne : ¬ R 20 (R 8 q 0) hi = R 20 (R 8 q 0) lo := fun z => absurd (hst.1.2.2.2.2.2.1 hi lo (by omega) (by omega) z) (by omega)
  have h8 : I 8 q 1 = nI c := hst.2.1.1.trans hc
  have hlt : nI lo < nI hi := nI_lt hlh (by omega)
  have hnl : ¬ nI hi < nI lo := nI_nlt (by omega) (by omega)
  have hmin : (if nI j < nI i then nI j else nI i) = nI lo := by rcases hm with ⟨rfl, rfl⟩ | ⟨rfl, rfl⟩ <;> simp [hlt, hnl]
  have hmax : (if nI i < nI j then nI j else nI i) = nI hi := by rcases hm with ⟨rfl, rfl⟩ | ⟨rfl, rfl⟩ <;> simp [hlt, hnl]
  refine rk_bJ (ls := [(0, _), (1, _), (2, _), (3, _)]) (by decide) rfl (Nat.le_of_ble_eq_true rfl) ?_
  refine rk_iload_n 1 dX7_splice_0 rfl rfl ?_
  refine rk_iload_n 2 dX7_splice_1 rfl rfl ?_
  refine rk_mmin dX7_splice_2 (by exact rk_inT 559 (by decide +kernel) (by decide +kernel)) (by decide) (Nat.le_of_ble_eq_true rfl) ⟨Nat.le_refl _, Nat.le_refl _⟩ ?_
  rw [hmin]
  refine rk_istore (ls' := [(4, _), (0, _), (1, _), (2, _), (3, _)]) dX7_splice_5 (by decide) rfl ?_
  refine rk_iload_n 1 dX7_splice_7 rfl rfl ?_
  refine rk_iload_n 2 dX7_splice_8 rfl rfl ?_
  refine rk_pc (pc' := 9) rfl ?_
  refine rk_mmax dX7_splice_9 (by exact rk_inT 562 (by decide +kernel) (by decide +kernel)) (by decide) (Nat.le_of_ble_eq_true rfl) ⟨Nat.le_refl _, Nat.le_refl _⟩ ?_
  rw [hmax]
  refine rk_istore (ls' := [(5, _), (4, _), (0, _), (1, _), (2, _), (3, _)]) dX7_splice_12 (by decide) rfl ?_
  refine rk_aload_n 0 dX7_splice_14 rfl rfl ?_
  refine rk_g8_0 rk_kX7_11 dX7_splice_15 ?_
  refine rk_iload dX7_splice_18 rfl ?_
  refine rk_rn20 (lo) dX7_splice_20 (by first | rfl | decide | assumption | (simp only [rk_lit, nI_add, pk_mul, nI_1]; done) | (simp only [rk_lit, nI_add, pk_mul, nI_1]; congr 1; omega)) (by first | decide | assumption | omega) ?_
  refine rk_pc (pc' := 21) rfl ?_
  refine rk_astore (ls' := [(6, _), (5, _), (4, _), (0, _), (1, _), (2, _), (3, _)]) dX7_splice_21 (by decide) rfl ?_
  refine rk_aload_n 0 dX7_splice_23 rfl rfl ?_
  refine rk_g8_0 rk_kX7_11 dX7_splice_24 ?_
  refine rk_iload dX7_splice_27 rfl ?_
  refine rk_rn20 (hi) dX7_splice_29 (by first | rfl | decide | assumption | (simp only [rk_lit, nI_add, pk_mul, nI_1]; done) | (simp only [rk_lit, nI_add, pk_mul, nI_1]; congr 1; omega)) (by first | decide | assumption | omega) ?_
  refine rk_astore (ls' := [(7, _), (6, _), (5, _), (4, _), (0, _), (1, _), (2, _), (3, _)]) dX7_splice_30 (by decide) rfl ?_
  refine rk_pc (pc' := 32) rfl ?_
  refine rk_aload dX7_splice_32 rfl ?_
  refine rk_dup dX7_splice_34 rfl ?_
  refine rk_g5_3 rk_kX7_50 dX7_splice_35 ?_
  rw [hL 3 (by decide)]
  refine rk_aload dX7_splice_38 rfl ?_
  refine rk_g5_3 rk_kX7_50 dX7_splice_40 ?_
  rw [hH 3 (by decide)]
  refine rk_iload_n 3 dX7_splice_43 rfl rfl ?_
  refine rk_pc (pc' := 44) rfl ?_
  refine rk_isub dX7_splice_44 ?_
  refine rk_iadd dX7_splice_45 ?_
  refine rk_p5_3 rk_kX7_50 dX7_splice_46 (fun Iz1 eIz1 => ?_)
  have u1 : ∀ k, Iz1 5 (R 20 (R 8 q 0) hi) k = I 5 (R 20 (R 8 q 0) hi) k := fun k => by rw [eIz1]; exact rk_uI_n (fun z => hne z.2.1)
  refine rk_aload dX7_splice_49 rfl ?_
  refine rk_dup dX7_splice_51 rfl ?_
  refine rk_g5_4 rk_kX7_59 dX7_splice_52 ?_
  rw [rk_ufn eIz1 4 (by decide), hL 4 (by decide)]
  refine rk_pc (pc' := 55) rfl ?_
  refine rk_aload dX7_splice_55 rfl ?_
  refine rk_g5_4 rk_kX7_59 dX7_splice_57 ?_
  rw [u1, hH 4 (by decide)]
  refine rk_iadd dX7_splice_60 ?_
  refine rk_p5_4 rk_kX7_59 dX7_splice_61 (fun Iz2 eIz2 => ?_)
  have u2 : ∀ k, Iz2 5 (R 20 (R 8 q 0) hi) k = I 5 (R 20 (R 8 q 0) hi) k := fun k => by rw [eIz2, rk_uI_n (fun z => hne z.2.1)]; exact u1 k
  refine rk_aload dX7_splice_64 rfl ?_
  refine rk_aload dX7_splice_66 rfl ?_
  refine rk_pc (pc' := 68) rfl ?_
  refine rk_g5_5 rk_kX7_66 dX7_splice_68 ?_
  rw [rk_ufn eIz2 5 (by decide), rk_ufn eIz1 5 (by decide), hL 5 (by decide)]
  refine rk_aload dX7_splice_71 rfl ?_
  refine rk_g5_5 rk_kX7_66 dX7_splice_73 ?_
  rw [u2, hH 5 (by decide)]
  refine rk_mmin dX7_splice_76 (by exact rk_inT 559 (by decide +kernel) (by decide +kernel)) (by decide) (Nat.le_of_ble_eq_true rfl) ⟨Nat.le_refl _, Nat.le_refl _⟩ ?_
  refine rk_p5_5 rk_kX7_66 dX7_splice_79 (fun Iz3 eIz3 => ?_)
  have u3 : ∀ k, Iz3 5 (R 20 (R 8 q 0) hi) k = I 5 (R 20 (R 8 q 0) hi) k := fun k => by rw [eIz3, rk_uI_n (fun z => hne z.2.1)]; exact u2 k
  refine rk_aload dX7_splice_82 rfl ?_
  refine rk_pc (pc' := 84) rfl ?_
  refine rk_dup dX7_splice_84 rfl ?_
  refine rk_g5_6 rk_kX7_69 dX7_splice_85 ?_
  rw [rk_ufn eIz3 6 (by decide), rk_ufn eIz2 6 (by decide), rk_ufn eIz1 6 (by decide), hL 6 (by decide)]
  refine rk_aload dX7_splice_88 rfl ?_
  refine rk_g5_6 rk_kX7_69 dX7_splice_90 ?_
  rw [u3, hH 6 (by decide)]
  refine rk_iconst 1 dX7_splice_93 (by decide) ?_
  refine rk_iadd dX7_splice_94 ?_
  refine rk_pc (pc' := 95) rfl ?_
  refine rk_iadd dX7_splice_95 ?_
  refine rk_p5_6 rk_kX7_69 dX7_splice_96 (fun Iz4 eIz4 => ?_)
  refine rk_aload_n 0 dX7_splice_99 rfl rfl ?_
  refine rk_iload dX7_splice_100 rfl ?_
  refine rk_cVv (cX7_remove_s (c := c) hc2 hh (by rw [rk_ufc eIz4 (by decide), rk_ufc eIz3 (by decide), rk_ufc eIz2 (by decide), rk_ufc eIz1 (by decide), h8])) rk_eX7_remove rfl ⟨rfl, rfl⟩ rk_kX7_85 dX7_splice_102 rfl (by decide) (Nat.le_of_ble_eq_true rfl) ⟨Nat.le_refl _, Nat.le_refl _⟩ (fun Iz5 Rz5 hz5 => ?_)
  obtain ⟨eIz5, eRz5⟩ := hz5
  refine rk_iload dX7_splice_105 rfl ?_
  refine rk_pc (pc' := 107) rfl ?_
  refine rk_iretJ dX7_splice_107 rfl rfl ?_
  exact ⟨rfl, cl_join hst hc hc2 (by omega) hh (by omega) hf h0 h1 eIz1 eIz2 eIz3 eIz4 eIz5 eRz5⟩
end CK

