section EQ
variable {rg : Nat → Nat} {I I' : rk_Mm} {R R' : rk_Rm} {N : Nat → Int32} {m n L : Nat} {Hs Sv : Nat → Nat → Int32} {F P : Nat → Int32}
/-- another number of the model's own: its count of states, the pad's length, whether it carries out -/
theorem mo_fld {j : Nat} {v : Int32} {n' L' : Nat} (X : mo_X I R m N n Hs F Sv P L) (hs : mo_s rg R m) (h3 : sp_u (I 12 m) j v 3 = nI n') (h7 : sp_u (I 12 m) j v 7 = nI L') (h8 : sp_u (I 12 m) j v 8 = 0) (hn : n' ≤ n) (hL : L' ≤ L) : mo_X (rk_uI I 12 m j v) R m N n' Hs F Sv P L' ∧ cl_fr rg (fun z => z = 104) I R (rk_uI I 12 m j v) R := by
  obtain ⟨x1, x2, x3, x4, x5, x6, x7⟩ := X
  refine ⟨?_, cl_fr.ui (S := fun z => z = 104) hs.1⟩
  rw [md_u1]
  unfold mo_X
  rw [md_ac (by decide), md_as, md_ac (by decide), md_ac (by decide), md_ac (by decide), md_ac (by decide)]
  exact ⟨x1, h3, fun i hi => x3 i (by omega), x4, fun i hi => x5 i (by omega), h7, h8⟩
theorem mo_wipe (X : mo_X I R m N n Hs F Sv P L) (hs : mo_s rg R m) : mo_X (rk_uI I 12 m 7 0) R m N n Hs F Sv P 0 ∧ cl_fr rg (fun z => z = 104) I R (rk_uI I 12 m 7 0) R := mo_fld X hs (by rw [sp_un (by decide)]; exact X.2.1) (by rw [sp_us]; rfl) (by rw [sp_un (by decide)]; exact X.2.2.2.2.2.2) (Nat.le_refl _) (Nat.zero_le _)
theorem mo_undo {u : Nat} (X : mo_X I R m N (u + 1) Hs F Sv P L) (hs : mo_s rg R m) : ∃ M, (∀ j, j < 340 → M j = Hs u j) ∧ mo_X (md_undo I R m (u + 1)) R m M u Hs F Sv P L ∧ cl_fr rg (fun z => z = 104) I R (md_undo I R m (u + 1)) R := by
  obtain ⟨g1, g2⟩ := mo_fld (j := 3) (v := nI u) (n' := u) (L' := L) X hs (by rw [sp_us]) (by rw [sp_un (by decide)]; exact X.2.2.2.2.2.1) (by rw [sp_un (by decide)]; exact X.2.2.2.2.2.2) (Nat.le_succ u) (Nat.le_refl _)
  obtain ⟨g3, g4⟩ := mo_now (M := sp_cp (I 26 (R 12 m 0)) (I 28 (R 12 m 2)) 0 (u * 340) 340) g1 hs
  refine ⟨_, fun j hj => ?_, g3, g2.tr g4⟩
  unfold sp_cp
  rw [if_pos (by omega), show u * 340 + (j - 0) = u * 340 + j by omega]
  exact X.2.2.1 u (Nat.lt_succ_self u) j hj
theorem mo_save {b : Nat} (hb : b < 2) (X : mo_X I R m N n Hs F Sv P L) (hs : mo_s rg R m) : mo_X (rk_uI (md_a I 29 (R 12 m 4) (sp_cp (I 29 (R 12 m 4)) (I 26 (R 12 m 0)) (b * 340) 0 340)) 30 (R 12 m 5) b 1) R m N n Hs (sp_u F b 1) (fun b' => if b' = b then N else Sv b') P L ∧ cl_fr rg (fun z => z = 104) I R (rk_uI (md_a I 29 (R 12 m 4) (sp_cp (I 29 (R 12 m 4)) (I 26 (R 12 m 0)) (b * 340) 0 340)) 30 (R 12 m 5) b 1) R := by
  obtain ⟨x1, x2, x3, x4, x5, x6, x7⟩ := X
  have s5 := hs.2.2.2.2.1
  have s6 := hs.2.2.2.2.2.1
  refine ⟨?_, (cl_fr.ma (S := fun z => z = 104) s5).tr (cl_fr.ui (S := fun z => z = 104) s6)⟩
  generalize hJ : rk_uI (md_a I 29 (R 12 m 4) (sp_cp (I 29 (R 12 m 4)) (I 26 (R 12 m 0)) (b * 340) 0 340)) 30 (R 12 m 5) b 1 = J
  have cc : ∀ c a, c ≠ 29 → c ≠ 30 → J c a = I c a := fun c a g1 g2 => by rw [← hJ]; funext j; rw [rk_uI_n (fun z => g2 z.1), md_ac g1]
  have c29 : J 29 (R 12 m 4) = sp_cp (I 29 (R 12 m 4)) N (b * 340) 0 340 := by rw [← hJ]; funext j; rw [rk_uI_n (fun z => absurd z.1 (by decide)), md_as, x1]
  have c30 : J 30 (R 12 m 5) = sp_u (I 30 (R 12 m 5)) b 1 := by rw [← hJ, md_u1, md_as, md_ac (by decide)]
  unfold mo_X
  rw [cc 26 _ (by decide) (by decide), cc 12 m (by decide) (by decide), cc 28 _ (by decide) (by decide), cc 31 _ (by decide) (by decide), c29, c30]
  refine ⟨x1, x2, x3, fun b' hb' => ?_, x5, x6, x7⟩
  obtain ⟨k1, k2⟩ := x4 b' hb'
  by_cases e : b' = b
  · subst e
    refine ⟨by rw [sp_us, sp_us], fun _ j hj => ?_⟩
    show _ = (if b' = b' then N else Sv b') j
    rw [if_pos rfl]
    unfold sp_cp
    rw [if_pos (by omega), show 0 + (b' * 340 + j - b' * 340) = j by omega]
  · rw [sp_un e, sp_un e]
    refine ⟨k1, fun h j hj => ?_⟩
    show _ = (if b' = b then N else Sv b') j
    rw [if_neg e]
    unfold sp_cp
    rw [if_neg (by omega)]
    exact k2 h j hj
theorem mo_restore {b : Nat} (hb : b < 2) (hF : F b ≠ 0) (hn : n ≤ 6) (X : mo_X I R m N n Hs F Sv P L) (hs : mo_s rg R m) : ∃ M, (∀ j, j < 340 → M j = Sv b j) ∧ mo_X (md_a (md_rec I R m) 26 (R 12 m 0) (sp_cp (I 26 (R 12 m 0)) (I 29 (R 12 m 4)) 0 (b * 340) 340)) R m M (hs_n n) (hs_p n Hs N) F Sv P L ∧ cl_fr rg (fun z => z = 104) I R (md_a (md_rec I R m) 26 (R 12 m 0) (sp_cp (I 26 (R 12 m 0)) (I 29 (R 12 m 4)) 0 (b * 340) 340)) R := by
  obtain ⟨g1, g2⟩ := mo_rec X hn hs
  obtain ⟨g3, g4⟩ := mo_now (M := sp_cp (I 26 (R 12 m 0)) (I 29 (R 12 m 4)) 0 (b * 340) 340) g1 hs
  refine ⟨_, fun j hj => ?_, g3, g2.tr g4⟩
  unfold sp_cp
  rw [if_pos (by omega), show b * 340 + (j - 0) = b * 340 + j by omega]
  exact (X.2.2.2.1 b hb).2 hF j hj
theorem mo_pm {t wr mn : Int32} {J : Nat → Int32} (X : mo_X I R m N n Hs F Sv P L) (hs : mo_s rg R m) : mo_X (pm_st I m (R 12 m 10) t wr mn J) R m N n Hs F Sv P L ∧ cl_fr rg (fun z => z = 104) I R (pm_st I m (R 12 m 10) t wr mn J) R := by
  refine ⟨?_, (cl_fr.ma (S := fun z => z = 104) hs.2.2.2.2.2.2.2.2).tr (cl_fr.ma (S := fun z => z = 104) hs.1)⟩
  have cc : ∀ c a, c ≠ 12 → c ≠ 33 → pm_st I m (R 12 m 10) t wr mn J c a = I c a := fun c a g1 g2 => by rw [pm_st, md_ac g1, md_ac g2]
  have c12 : ∀ j, j ≠ 11 → j ≠ 12 → j ≠ 13 → pm_st I m (R 12 m 10) t wr mn J 12 m j = I 12 m j := fun j g1 g2 g3 => by rw [pm_st, md_as, sp_un g1, sp_un g3, sp_un g2]
  unfold mo_X
  rw [cc 26 _ (by decide) (by decide), cc 28 _ (by decide) (by decide), cc 29 _ (by decide) (by decide), cc 30 _ (by decide) (by decide), cc 31 _ (by decide) (by decide), c12 3 (by decide) (by decide) (by decide), c12 7 (by decide) (by decide) (by decide), c12 8 (by decide) (by decide) (by decide)]
  exact X
theorem mo_co {mn : Nat} {J : Nat → Int32} (X : mo_X I R m N n Hs F Sv P L) (hn : n ≤ 6) (hs : mo_s rg R m) : mo_X (md_co I R m mn J) R m (sp_ro J mn 0 N).1 (hs_n n) (hs_p n Hs N) F Sv P 0 ∧ cl_fr rg (fun z => z = 104) I R (md_co I R m mn J) R := by
  obtain ⟨g1, g2⟩ := mo_rec X hn hs
  have hN : I 26 (R 12 m 0) = N := X.1
  have s1 := hs.1
  have s2 := hs.2.1
  have f : cl_fr rg (fun z => z = 104) I R (md_co I R m mn J) R := (((g2.tr (cl_fr.ui (S := fun z => z = 104) s1)).tr (cl_fr.ma (S := fun z => z = 104) s2)).tr (cl_fr.ui (S := fun z => z = 104) s1)).tr (cl_fr.ui (S := fun z => z = 104) s1)
  refine ⟨?_, f⟩
  obtain ⟨x1, x2, x3, x4, x5, x6, x7⟩ := g1
  have cc : ∀ c a, c ≠ 12 → c ≠ 26 → md_co I R m mn J c a = md_rec I R m c a := fun c a h1 h2 => by
    unfold md_co
    rw [md_uc h1, md_uc h1, md_ac h2, md_uc h1]
  have c26 : md_co I R m mn J 26 (R 12 m 0) = (sp_ro J mn 0 N).1 := by
    unfold md_co
    rw [md_uc (by decide), md_uc (by decide), md_as, hN]
  have c12 : ∀ j, j ≠ 7 → j ≠ 8 → md_co I R m mn J 12 m j = md_rec I R m 12 m j := fun j h1 h2 => by
    unfold md_co
    rw [md_uf (Ne.symm (Ne.symm h1)), md_uf h2, md_ac (by decide), md_uf h2]
  have c7 : md_co I R m mn J 12 m 7 = 0 := by unfold md_co; rw [rk_uI_s]
  have c8 : md_co I R m mn J 12 m 8 = 0 := by unfold md_co; rw [md_uf (by decide), rk_uI_s]
  unfold mo_X
  rw [cc 28 _ (by decide) (by decide), cc 29 _ (by decide) (by decide), cc 30 _ (by decide) (by decide), cc 31 _ (by decide) (by decide), c26, c12 3 (by decide) (by decide), c7, c8]
  exact ⟨rfl, x2, x3, x4, fun j hj => absurd hj (Nat.not_lt_zero j), rfl, rfl⟩
theorem mo_put {v : Int64} {G : Nat → Int32} (hG : ∀ j, G j = if L ≤ j ∧ j < L + sp_many v then lb v (sp_many v - 1 - (j - L)) else I 31 (R 12 m 6) j) (X : mo_X I R m N n Hs F Sv P L) (hs : mo_s rg R m) : mo_X (rk_uI (md_a I 31 (R 12 m 6) G) 12 m 7 (nI (L + sp_many v))) R m N n Hs F Sv (sp_pp P L v) (L + sp_many v) ∧ cl_fr rg (fun z => z = 104) I R (rk_uI (md_a I 31 (R 12 m 6) G) 12 m 7 (nI (L + sp_many v))) R := by
  obtain ⟨x1, x2, x3, x4, x5, x6, x7⟩ := X
  refine ⟨?_, (cl_fr.ma (S := fun z => z = 104) hs.2.2.2.2.2.2.1).tr (cl_fr.ui (S := fun z => z = 104) hs.1)⟩
  generalize hJ : rk_uI (md_a I 31 (R 12 m 6) G) 12 m 7 (nI (L + sp_many v)) = J
  have cc : ∀ c a, c ≠ 12 → c ≠ 31 → J c a = I c a := fun c a g1 g2 => by rw [← hJ, md_uc g1, md_ac g2]
  have c31 : J 31 (R 12 m 6) = G := by rw [← hJ, md_uc (by decide), md_as]
  have c12 : ∀ j, j ≠ 7 → J 12 m j = I 12 m j := fun j hj => by rw [← hJ, md_uf hj, md_ac (by decide)]
  have c7 : J 12 m 7 = nI (L + sp_many v) := by rw [← hJ, rk_uI_s]
  unfold mo_X
  rw [cc 26 _ (by decide) (by decide), cc 28 _ (by decide) (by decide), cc 29 _ (by decide) (by decide), cc 30 _ (by decide) (by decide), c31, c12 3 (by decide), c12 8 (by decide), c7]
  refine ⟨x1, x2, x3, x4, fun j hj => ?_, rfl, x7⟩
  rw [hG]
  unfold sp_pp
  by_cases h : L ≤ j ∧ j < L + sp_many v
  · rw [if_pos h, if_pos h]
  · rw [if_neg h, if_neg h]
    exact x5 j (by omega)
end EQ

