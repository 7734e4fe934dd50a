section EZ
theorem rk_rk11 {f : Nat} {P : Nat → Nat → Prop} (h0 : P 0 10) (h1 : P 1 2) (h2 : P 2 24) (h3 : P 3 25) (h4 : P 4 6) (h5 : P 5 4) (h6 : P 6 9) (hf : rk_rk 11 f ≠ 0) : P f (rk_rk 11 f) := by
  match f with
  | 0 => exact h0
  | 1 => exact h1
  | 2 => exact h2
  | 3 => exact h3
  | 4 => exact h4
  | 5 => exact h5
  | 6 => exact h6
  | f + 7 => exact absurd rfl hf
/-- the class's shape stands when only others change -/
theorem cn_xs {kd : Nat → Nat} {R R2 : rk_Rm} {rg rg2 : Nat → Nat} {x : Nat} (hW : rk_WT kd R) (hx : kd x = 11) (hk : ∀ a, kd a ≠ 0 → kd a < 50 → rg2 a = rg a ∧ ∀ c j, R2 c a j = R c a j) (h : cl_xs rg R x) : cl_xs rg2 R2 x := by
  have k0 := cn_wt (f := 0) (e := 10) hW hx (by decide) rfl (by decide)
  have k2 := cn_wt (f := 2) (e := 24) hW hx (by decide) rfl (by decide)
  have k3 := cn_wt (f := 3) (e := 25) hW hx (by decide) rfl (by decide)
  have k4 := cn_wt (f := 4) (e := 6) hW hx (by decide) rfl (by decide)
  have k5 := cn_wt (f := 5) (e := 4) hW hx (by decide) rfl (by decide)
  have k6 := cn_wt (f := 6) (e := 9) hW hx (by decide) rfl (by decide)
  have k24 : ∀ b, b < 2 → kd (R 24 (R 11 x 2) b) = 10 := fun b hb => cn_wt hW k2 (by decide) ((rk_rkA (k := 24) rfl).trans (if_pos hb)) (by decide)
  have k63 := cn_wt (f := 3) (e := 16) hW k4 (by decide) rfl (by decide)
  have k40 := cn_wt (f := 0) (e := 15) hW k5 (by decide) rfl (by decide)
  have k90 := cn_wt (f := 0) (e := 23) hW k6 (by decide) rfl (by decide)
  have k23 : ∀ i, i < 11 → kd (R 23 (R 9 (R 11 x 6) 0) i) = 8 := fun i hi => cn_wt hW k90 (by decide) ((rk_rkA (k := 23) rfl).trans (if_pos hi)) (by decide)
  have gx := hk x (by omega) (by omega)
  have g2 := hk (R 11 x 2) (by omega) (by omega)
  have g3 := hk (R 11 x 3) (by omega) (by omega)
  have g4 := hk (R 11 x 4) (by omega) (by omega)
  have g5 := hk (R 11 x 5) (by omega) (by omega)
  have g6 := hk (R 11 x 6) (by omega) (by omega)
  have g63 := hk (R 6 (R 11 x 4) 3) (by omega) (by omega)
  have g40 := hk (R 4 (R 11 x 5) 0) (by omega) (by omega)
  have g90 := hk (R 9 (R 11 x 6) 0) (by omega) (by omega)
  obtain ⟨h1, h2, h3, h4, h5, ⟨t1, t2, t3⟩, h7, h8, h9, h10, h11⟩ := h
  unfold cl_xs cl_ts
  simp only [gx.2, g2.2, g4.2, g5.2, g6.2, g90.2]
  rw [gx.1, g2.1, g3.1, g4.1, g5.1, g6.1, g63.1, g40.1, g90.1]
  exact ⟨h1, h2, h3, cn_ys hW k0 hk h4, fun b hb => cn_ys hW (k24 b hb) hk (h5 b hb), ⟨t1, t2, fun i hi => cn_ss hW (k23 i hi) hk (t3 i hi)⟩, h7, h8, h9, h10, h11⟩
theorem cn_hs {kd : Nat → Nat} {R R2 : rk_Rm} {rg rg2 : Nat → Nat} {q : Nat} {g : Nat → Nat} (hW : rk_WT kd R) (hh : kd q = 2) (hk : ∀ a, kd a ≠ 0 → kd a < 50 → rg2 a = rg a ∧ ∀ c j, R2 c a j = R c a j) (h : cl_hs rg R q g) : cl_hs rg2 R2 q g := by
  have k0 := cn_wt (f := 0) (e := 14) hW hh (by decide) rfl (by decide)
  have k14 : ∀ i, i < 7 → kd (R 14 (R 2 q 0) i) = 10 := fun i hi => cn_wt hW k0 (by decide) ((rk_rkA (k := 14) rfl).trans (if_pos hi)) (by decide)
  have g0 := hk q (by omega) (by omega)
  have g1 := hk (R 2 q 0) (by omega) (by omega)
  obtain ⟨h1, h2, h3, h4⟩ := h
  unfold cl_hs
  simp only [g0.2, g1.2]
  rw [g0.1, g1.1]
  exact ⟨h1, h2, fun i hi => ⟨(h3 i hi).1, (h3 i hi).2.1, cn_ys hW (k14 i hi) hk (h3 i hi).2.2⟩, h4⟩
end EZ
