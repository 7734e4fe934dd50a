section CQ
variable {rg : Nat → Nat} {I I' : rk_Mm} {R R' : rk_Rm} {y t : Nat} {N M : Nat → Int32} {T : Int}
def cl_yf (I : rk_Mm) (y : Nat) (N : Nat → Int32) : Prop := I 10 y 3 = N 10 ∧ I 10 y 4 = N 11 ∧ I 10 y 5 = N 14 ∧ I 10 y 6 = N 15 ∧ I 10 y 7 = N 16 ∧ ∃ u, u ≤ 24 ∧ N 11 = nI u
/-- a yard's cells: four regions -/
def cl_ys (rg : Nat → Nat) (R : rk_Rm) (y t : Nat) : Prop := rg y = 4 * t ∧ cl_rs rg R (R 10 y 0) (4 * t + 1) ∧ cl_ss rg R (R 10 y 1) (4 * t + 2) ∧ cl_bs rg R (R 10 y 2) (4 * t + 3)
/-- a yard that holds a row -/
def cl_y (rg : Nat → Nat) (I : rk_Mm) (R : rk_Rm) (y t : Nat) (N : Nat → Int32) : Prop := cl_ys rg R y t ∧ cl_ru I R (R 10 y 0) N ∧ cl_st rg I R (R 10 y 1) (4 * t + 2) N ∧ cl_bc I R (R 10 y 2) N ∧ cl_yf I y N
theorem sp_iv.c12 (h : sp_iv T N) : ∃ c, c ≤ 24 ∧ N 12 = nI c := by obtain ⟨⟨c, h⟩, -⟩ := h; exact ⟨c, h.1, h.2.1⟩
theorem sp_iv.c13 (h : sp_iv T N) : ∃ c, c ≤ 16 ∧ N 13 = nI c := by obtain ⟨-, ⟨c, h1, h2, -⟩, -⟩ := h; exact ⟨c, h1, h2⟩
theorem cl_ys.fr {S : Nat → Prop} (h : cl_ys rg R y t) (g : cl_fr rg S I R I' R') (hS : ∀ z, z / 4 = t → ¬ S z) : cl_ys rg R' y t := by
  obtain ⟨h1, h2, h3, h4⟩ := h
  unfold cl_ys
  rw [g.2.2 10 (by decide) (by decide) (by decide)]
  exact ⟨h1, h2.fr g, h3.fr g (hS _ (by omega)), h4.fr g (hS _ (by omega))⟩
theorem cl_y.fr {S : Nat → Prop} (h : cl_y rg I R y t N) (g : cl_fr rg S I R I' R') (hS : ∀ z, z / 4 = t → ¬ S z) (h12 : ∃ c, c ≤ 24 ∧ N 12 = nI c) (h13 : ∃ c, c ≤ 16 ∧ N 13 = nI c) : cl_y rg I' R' y t N := by
  obtain ⟨h1, h2, h3, h4, h5⟩ := h
  obtain ⟨c, hc2, hc⟩ := h12
  obtain ⟨b, hb2, hb⟩ := h13
  refine ⟨h1.fr g hS, ?_⟩
  obtain ⟨k1, k2, k3, k4⟩ := h1
  unfold cl_yf
  rw [g.2.2 10 (by decide) (by decide) (by decide), g.1 10 y (by rw [k1]; exact hS _ (by omega))]
  exact ⟨h2.fr k2 g (hS _ (by omega)), h3.fr g (hS _ (by omega)) hc hc2, h4.fr k4 g (hS _ (by omega)) hb hb2, h5⟩
theorem cl_y.cg (h : cl_y rg I R y t N) (h12 : ∃ c, c ≤ 24 ∧ N 12 = nI c) (h13 : ∃ c, c ≤ 16 ∧ N 13 = nI c) (e : ∀ j, j < 332 → M j = N j) : cl_y rg I R y t M := by
  obtain ⟨h1, h2, h3, h4, h5⟩ := h
  obtain ⟨c, hc2, hc⟩ := h12
  obtain ⟨b, hb2, hb⟩ := h13
  refine ⟨h1, h2.c (fun j hj => e j (by omega)), h3.c hc hc2 (fun j hj => e j (by omega)), h4.cg hb hb2 (fun j hj => e j (by omega)), ?_⟩
  unfold cl_yf
  rw [e 10 (by decide), e 11 (by decide), e 14 (by decide), e 15 (by decide), e 16 (by decide)]
  exact h5
theorem cl_rj {j : Nat} (h : j < 10 ∨ (∃ f, f < 3 ∧ (j = 20 + 3 * f ∨ j = 20 + 3 * f + 1))) : j < 10 ∨ (20 ≤ j ∧ j < 29 ∧ (j - 20) % 3 ≠ 2) := by
  rcases h with h | ⟨f, hf, h | h⟩
  · exact Or.inl h
  · exact Or.inr (by omega)
  · exact Or.inr (by omega)
theorem cl_y.u {j m : Nat} {v : Int32} (h : cl_y rg I R y t N) (h12 : ∃ c, c ≤ 24 ∧ N 12 = nI c) (h13 : ∃ c, c ≤ 16 ∧ N 13 = nI c) (hj : (j = 3 ∧ m = 10) ∨ (j = 4 ∧ m = 11) ∨ (j = 5 ∧ m = 14) ∨ (j = 6 ∧ m = 15) ∨ (j = 7 ∧ m = 16)) (hu : m = 11 → ∃ u, u ≤ 24 ∧ v = nI u) : cl_y rg (rk_uI I 10 y j v) R y t (sp_u N m v) := by
  obtain ⟨h1, h2, h3, h4, h5⟩ := h
  obtain ⟨c, hc2, hc⟩ := h12
  obtain ⟨b, hb2, hb⟩ := h13
  have g : cl_fr rg (fun z => z = 4 * t) I R (rk_uI I 10 y j v) R := cl_fr.ui h1.1
  refine ⟨h1, ?_, ?_, ?_, ?_⟩
  · exact (h2.fr h1.2.1 g (by omega)).c (fun i hi => sp_un (by have hi' := cl_rj hi; clear hu hi; omega))
  · exact (h3.fr g (by omega) hc hc2).c hc hc2 (fun i hi => sp_un (by clear hu; omega))
  · exact (h4.fr h1.2.2.2 g (by omega) hb hb2).cg hb hb2 (fun i hi => sp_un (by clear hu; omega))
  · obtain ⟨f3, f4, f5, f6, f7, f8⟩ := h5
    have f9 : ∃ u, u ≤ 24 ∧ sp_u N m v 11 = nI u := by
      by_cases hm : m = 11
      · obtain ⟨u, hu1, hu2⟩ := hu hm
        exact ⟨u, hu1, by rw [hm, sp_us]; exact hu2⟩
      · rw [sp_un (fun z => hm z.symm)]; exact f8
    refine ⟨?_, ?_, ?_, ?_, ?_, f9⟩ <;> rcases hj with ⟨rfl, rfl⟩ | ⟨rfl, rfl⟩ | ⟨rfl, rfl⟩ | ⟨rfl, rfl⟩ | ⟨rfl, rfl⟩ <;> simp [rk_uI, sp_u, f3, f4, f5, f6, f7]
theorem cl_y.st (h : cl_y rg I R y t N) (h13 : ∃ c, c ≤ 16 ∧ N 13 = nI c) (hs : cl_st rg I' R' (R 10 y 1) (4 * t + 2) M) (g : cl_fr rg (fun z => z = 4 * t + 2) I R I' R') (e : ∀ j, j < 12 ∨ j = 13 ∨ j = 14 ∨ j = 15 ∨ j = 16 ∨ (20 ≤ j ∧ j < 29 ∧ (j - 20) % 3 ≠ 2) ∨ (220 ≤ j ∧ j < 332) → M j = N j) : cl_y rg I' R' y t M := by
  obtain ⟨h1, h2, h3, h4, h5⟩ := h
  obtain ⟨b, hb2, hb⟩ := h13
  have e10 := g.2.2 10 (by decide) (by decide) (by decide)
  unfold cl_y cl_ys
  rw [e10]
  refine ⟨⟨h1.1, h1.2.1.fr g, hs.1, h1.2.2.2.fr g (by omega)⟩, ?_, hs, ?_, ?_⟩
  · exact (h2.fr h1.2.1 g (by omega)).c (fun j hj => e j (by have hj' := cl_rj hj; clear hj; omega))
  · exact (h4.fr h1.2.2.2 g (by omega) hb hb2).cg hb hb2 (fun j hj => e j (by omega))
  · unfold cl_yf
    rw [g.1 10 y (by rw [h1.1]; omega), e 10 (by omega), e 11 (by omega), e 14 (by omega), e 15 (by omega), e 16 (by omega)]
    exact h5
theorem cl_y.bk (h : cl_y rg I R y t N) (h12 : ∃ c, c ≤ 24 ∧ N 12 = nI c) (hb : cl_bc I' R' (R 10 y 2) M) (hbs : cl_bs rg R' (R 10 y 2) (4 * t + 3)) (g : cl_fr rg (fun z => z = 4 * t + 3) I R I' R') (e : ∀ j, j < 13 ∨ (14 ≤ j ∧ j < 218) → M j = N j) : cl_y rg I' R' y t M := by
  obtain ⟨h1, h2, h3, h4, h5⟩ := h
  obtain ⟨c, hc2, hc⟩ := h12
  have e10 := g.2.2 10 (by decide) (by decide) (by decide)
  unfold cl_y cl_ys
  rw [e10]
  refine ⟨⟨h1.1, h1.2.1.fr g, h1.2.2.1.fr g (by omega), hbs⟩, ?_, ?_, hb, ?_⟩
  · exact (h2.fr h1.2.1 g (by omega)).c (fun j hj => e j (by have hj' := cl_rj hj; clear hj; omega))
  · exact (h3.fr g (by omega) hc hc2).c hc hc2 (fun j hj => e j (by omega))
  · unfold cl_yf
    rw [g.1 10 y (by rw [h1.1]; omega), e 10 (by omega), e 11 (by omega), e 14 (by omega), e 15 (by omega), e 16 (by omega)]
    exact h5
theorem sp_acc_cg {g k : Nat} (hg : g < 3) (hk : k < 6) (h12 : ∃ c, c ≤ 24 ∧ N 12 = nI c) (e : ∀ j, j = 12 ∨ (20 ≤ j ∧ j < 29 ∧ (j - 20) % 3 = 2) ∨ (30 ≤ j ∧ j < 218) → M j = N j) : sp_acc M g k = sp_acc N g k := by
  obtain ⟨c, hc2, hc⟩ := h12
  have e12 : sp_c M 12 = sp_c N 12 := by unfold sp_c; rw [e 12 (Or.inl rfl)]
  have h24 : sp_c N 12 ≤ 24 := by rw [sp_cN hc (by omega)]; exact hc2
  simp only [sp_acc]
  rw [e12, sp_yp_c (N := N) (M := M) (fun i hi => ⟨e _ (by omega), e _ (by omega)⟩), e (20 + 3 * g + 2) (by omega)]
  split
  · exact e _ (by omega)
  · split
    · rfl
    · split
      · rfl
      · exact e _ (by omega)
theorem cl_y.rl (h : cl_y rg I R y t N) (h12 : ∃ c, c ≤ 24 ∧ N 12 = nI c) (h13 : ∃ c, c ≤ 16 ∧ N 13 = nI c) (hr : cl_ru I' R' (R 10 y 0) M) (g : cl_fr rg (fun z => z = 4 * t + 1) I R I' R') (e : ∀ j, (10 ≤ j ∧ j < 20) ∨ (20 ≤ j ∧ j < 29 ∧ (j - 20) % 3 = 2) ∨ (30 ≤ j ∧ j < 332) → M j = N j) : cl_y rg I' R' y t M := by
  obtain ⟨h1, h2, h3, h4, h5⟩ := h
  obtain ⟨c, hc2, hc⟩ := h12
  obtain ⟨b, hb2, hb⟩ := h13
  have e10 := g.2.2 10 (by decide) (by decide) (by decide)
  have h3' := h3.fr g (by omega) hc hc2
  unfold cl_y cl_ys
  rw [e10]
  refine ⟨⟨h1.1, h1.2.1.fr g, h1.2.2.1.fr g (by omega), h1.2.2.2.fr g (by omega)⟩, hr, ⟨h3'.1, h3'.2.1.cg hc hc2 (fun j hj => e j (by omega)), h3'.2.2.cg (fun a ha k hk => (sp_acc_cg ha hk ⟨c, hc2, hc⟩ (fun j hj => e j (by omega))).symm)⟩, ?_, ?_⟩
  · exact (h4.fr h1.2.2.2 g (by omega) hb hb2).cg hb hb2 (fun j hj => e j (by omega))
  · unfold cl_yf
    rw [g.1 10 y (by rw [h1.1]; omega), e 10 (by omega), e 11 (by omega), e 14 (by omega), e 15 (by omega), e 16 (by omega)]
    exact h5
/-- what an act of the yard answers and leaves -/
def cl_Q (rg : Nat → Nat) (I : rk_Mm) (R : rk_Rm) (y t : Nat) (N : Nat → Int32) (a : sp_R) (x : Int32) (I' : rk_Mm) (R' : rk_Rm) : Prop := x = a.1 ∧ cl_fr rg (fun z => z / 4 = t) I R I' R' ∧ cl_y rg I' R' y t (a.2.getD N)
theorem cl_Q0 {a : sp_R} {x : Int32} (hy : cl_y rg I R y t N) (h : a = (x, none)) : cl_Q rg I R y t N a x I R := ⟨by rw [h], cl_fr.rf, by rw [h]; exact hy⟩
theorem cl_Q1 {a : sp_R} {x : Int32} (h : a = (x, some M)) (g : cl_fr rg (fun z => z / 4 = t) I R I' R') (hy : cl_y rg I' R' y t M) : cl_Q rg I R y t N a x I' R' := ⟨by rw [h], g, by rw [h]; exact hy⟩
/-- the frozen arrays are those of the class -/
def cl_W (w : rk_W) : Prop := ((rk_fz w 0).2.1 = 10 ∧ ∀ j, j < 10 → (rk_fz w 0).2.2 j = if j = 0 then 1000 else if j = 1 then 30 else if j = 2 then 12 else if j = 3 then 15 else if j = 4 then 6 else if j = 5 then 5 else if j = 6 then 10 else if j = 7 then 12 else if j = 8 then 100 else 50) ∧
  ((rk_fz w 1).2.1 = 10 ∧ ∀ j, j < 10 → (rk_fz w 1).2.2 j = sp_lst j) ∧ ((rk_fz w 2).2.1 = 10 ∧ ∀ j, j < 10 → (rk_fz w 2).2.2 j = sp_mst j) ∧
  ((rk_fz w 3).2.1 = 3 ∧ ∀ j, j < 3 → (rk_fz w 3).2.2 j = if j = 0 then 60 else if j = 1 then 45 else 30) ∧ ((rk_fz w 4).2.1 = 3 ∧ ∀ j, j < 3 → (rk_fz w 4).2.2 j = if j = 0 then 32 else if j = 1 then 28 else 24)
end CQ

