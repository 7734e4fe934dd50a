section EP
variable {rg : Nat → Nat} {I I' : rk_Mm} {R R' : rk_Rm} {N : Nat → Int32} {m n L : Nat} {Hs Sv : Nat → Nat → Int32} {F P : Nat → Int32}
theorem mo_rec (X : mo_X I R m N n Hs F Sv P L) (hn : n ≤ 6) (hs : mo_s rg R m) : mo_X (md_rec I R m) R m N (hs_n n) (hs_p n Hs N) F Sv P L ∧ cl_fr rg (fun z => z = 104) I R (md_rec I R m) R := by
  obtain ⟨h1, h2, h3, h4, h5, h6, h7⟩ := X
  obtain ⟨s1, s2, s3, s4, s5, s6, s7, s8, s9⟩ := hs
  by_cases e : n = 6
  · subst e
    have eR : md_rec I R m = rk_uI (md_a I 28 (R 12 m 2) (sp_cp (sp_h1 (I 28 (R 12 m 2))) (I 26 (R 12 m 0)) 1700 0 340)) 12 m 3 6 := by
      unfold md_rec
      rw [if_pos h7, if_pos (by rw [h2]; rfl)]
    have c12 : ∀ j, j ≠ 3 → md_rec I R m 12 m j = I 12 m j := fun j hj => by rw [eR, rk_uI_n (fun z => hj z.2.2), md_ac (by decide)]
    have cc : ∀ c b, c ≠ 12 → c ≠ 28 → md_rec I R m c b = I c b := fun c b g1 g2 => by rw [eR]; funext j; rw [rk_uI_n (fun z => g1 z.1), md_ac g2]
    refine ⟨⟨by rw [cc _ _ (by decide) (by decide)]; exact h1, by rw [eR, rk_uI_s]; rfl, fun i hi j hj => ?_, fun b hb => by rw [cc _ _ (by decide) (by decide), cc _ _ (by decide) (by decide)]; exact h4 b hb, by rw [cc _ _ (by decide) (by decide)]; exact h5, by rw [c12 7 (by decide)]; exact h6, by rw [c12 8 (by decide)]; exact h7⟩, by rw [eR]; exact (cl_fr.ma (S := fun z => z = 104) s4).tr (cl_fr.ui (S := fun z => z = 104) s1)⟩
    rw [hs_n, if_pos rfl] at hi
    rw [eR, rk_uI_n (fun z => absurd z.1 (by decide)), md_as, hs_p, if_pos rfl]
    show sp_cp (sp_h1 (I 28 (R 12 m 2))) (I 26 (R 12 m 0)) 1700 0 340 (i * 340 + j) = (if i = 5 then N else Hs (i + 1)) j
    by_cases e5 : i = 5
    · subst e5
      rw [if_pos rfl, h1]
      unfold sp_cp
      rw [if_pos (by omega), show 0 + (5 * 340 + j - 1700) = j by omega]
    · rw [if_neg e5]
      unfold sp_cp
      rw [if_neg (by omega)]
      unfold sp_h1
      rw [if_pos (by omega), show i * 340 + j + 340 = (i + 1) * 340 + j by omega]
      exact h3 (i + 1) (by omega) j hj
  · have hne : ¬ I 12 m 3 = 6 := fun z => e ((nI_eq (b := 6) (by omega) (by decide)).mp (h2.symm.trans z))
    have eR : md_rec I R m = rk_uI (md_a I 28 (R 12 m 2) (sp_cp (I 28 (R 12 m 2)) (I 26 (R 12 m 0)) (n * 340) 0 340)) 12 m 3 (nI (n + 1)) := by
      unfold md_rec
      rw [if_pos h7, if_neg hne, h2, nI_clamp (by omega), nI_1]
    have c12 : ∀ j, j ≠ 3 → md_rec I R m 12 m j = I 12 m j := fun j hj => by rw [eR, rk_uI_n (fun z => hj z.2.2), md_ac (by decide)]
    have cc : ∀ c b, c ≠ 12 → c ≠ 28 → md_rec I R m c b = I c b := fun c b g1 g2 => by rw [eR]; funext j; rw [rk_uI_n (fun z => g1 z.1), md_ac g2]
    refine ⟨⟨by rw [cc _ _ (by decide) (by decide)]; exact h1, by rw [eR, rk_uI_s, hs_n, if_neg e], fun i hi j hj => ?_, fun b hb => by rw [cc _ _ (by decide) (by decide), cc _ _ (by decide) (by decide)]; exact h4 b hb, by rw [cc _ _ (by decide) (by decide)]; exact h5, by rw [c12 7 (by decide)]; exact h6, by rw [c12 8 (by decide)]; exact h7⟩, by rw [eR]; exact (cl_fr.ma (S := fun z => z = 104) s4).tr (cl_fr.ui (S := fun z => z = 104) s1)⟩
    rw [hs_n, if_neg e] at hi
    rw [eR, rk_uI_n (fun z => absurd z.1 (by decide)), md_as, hs_p, if_neg e]
    show sp_cp (I 28 (R 12 m 2)) (I 26 (R 12 m 0)) (n * 340) 0 340 (i * 340 + j) = (if i = n then N else Hs i) j
    by_cases e5 : i = n
    · subst e5
      rw [if_pos rfl, h1]
      unfold sp_cp
      rw [if_pos (by omega), show 0 + (i * 340 + j - i * 340) = j by omega]
    · rw [if_neg e5]
      unfold sp_cp
      rw [if_neg (by omega)]
      exact h3 i (by omega) j hj
/-- now is another row -/
theorem mo_now {M : Nat → Int32} (X : mo_X I R m N n Hs F Sv P L) (hs : mo_s rg R m) : mo_X (md_a I 26 (R 12 m 0) M) R m M n Hs F Sv P L ∧ cl_fr rg (fun z => z = 104) I R (md_a I 26 (R 12 m 0) M) R := by
  obtain ⟨h1, h2, h3, h4, h5, h6, h7⟩ := X
  obtain ⟨s1, s2, s3, s4, s5, s6, s7, s8, s9⟩ := hs
  have cc : ∀ c b, c ≠ 26 → md_a I 26 (R 12 m 0) M c b = I c b := fun c b g => md_ac g
  refine ⟨⟨md_as, by rw [cc _ _ (by decide)]; exact h2, by rw [cc _ _ (by decide)]; exact h3, fun b hb => by rw [cc _ _ (by decide), cc _ _ (by decide)]; exact h4 b hb, by rw [cc _ _ (by decide)]; exact h5, by rw [cc _ _ (by decide)]; exact h6, by rw [cc _ _ (by decide)]; exact h7⟩, cl_fr.ma (S := fun z => z = 104) s2⟩
theorem mo_act {a : sp_R} {r : Int32} (X : mo_X I R m N n Hs F Sv P L) (hn : n ≤ 6) (hs : mo_s rg R m) (q : md_Q I R m a r I' R') : r = a.1 ∧ R' = R ∧ mo_X I' R m (a.2.getD N) (a.2.elim n (fun _ => hs_n n)) (a.2.elim Hs (fun _ => hs_p n Hs N)) F Sv P L ∧ cl_fr rg (fun z => z = 104) I R I' R := by
  obtain ⟨q1, q2, q3⟩ := q
  refine ⟨q1, q2, ?_⟩
  rw [q3]
  cases ha : a.2 with
  | none => exact ⟨X, cl_fr.rf⟩
  | some M =>
    obtain ⟨g1, g2⟩ := mo_rec X hn hs
    obtain ⟨g3, g4⟩ := mo_now (M := M) g1 hs
    exact ⟨g3, g2.tr g4⟩
/-- the model's other cells do not matter -/
theorem mo_oth {c : Nat} {K : Nat → Int32} {a : Nat} (X : mo_X I R m N n Hs F Sv P L) (hc : c ≠ 12 ∧ c ≠ 26 ∧ c ≠ 28 ∧ c ≠ 29 ∧ c ≠ 30 ∧ c ≠ 31) (ha : rg a = 104) : mo_X (md_a I c a K) R m N n Hs F Sv P L ∧ cl_fr rg (fun z => z = 104) I R (md_a I c a K) R := by
  refine ⟨?_, cl_fr.ma (S := fun z => z = 104) ha⟩
  unfold mo_X
  rw [md_ac (Ne.symm hc.1), md_ac (Ne.symm hc.2.1), md_ac (Ne.symm hc.2.2.1), md_ac (Ne.symm hc.2.2.2.1), md_ac (Ne.symm hc.2.2.2.2.1), md_ac (Ne.symm hc.2.2.2.2.2)]
  exact X
end EP

