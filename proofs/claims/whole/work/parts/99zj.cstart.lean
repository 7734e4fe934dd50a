section EZ
theorem rk_rk11 {f : Nat} {P : Nat → Nat → Prop} (h0 : P 0 10) (h1 : P 1 2) (h2 : P 2 24) (h3 : P 3 25) (h4 : P 4 6) (h5 : P 5 4) (h6 : P 6 9) (hf : rk_rk 11 f ≠ 0) : P f (rk_rk 11 f) := by
  match f with
  | 0 => exact h0
  | 1 => exact h1
  | 2 => exact h2
  | 3 => exact h3
  | 4 => exact h4
  | 5 => exact h5
  | 6 => exact h6
  | f + 7 => exact absurd rfl hf
theorem rk_rk12 {f : Nat} {P : Nat → Nat → Prop} (h0 : P 0 26) (h1 : P 1 27) (h2 : P 2 28) (h4 : P 4 29) (h5 : P 5 30) (h6 : P 6 31) (h9 : P 9 32) (h10 : P 10 33) (hf : rk_rk 12 f ≠ 0) : P f (rk_rk 12 f) := by
  match f with
  | 0 => exact h0
  | 1 => exact h1
  | 2 => exact h2
  | 3 => exact absurd rfl hf
  | 4 => exact h4
  | 5 => exact h5
  | 6 => exact h6
  | 7 => exact absurd rfl hf
  | 8 => exact absurd rfl hf
  | 9 => exact h9
  | 10 => exact h10
  | 11 => exact absurd rfl hf
  | 12 => exact absurd rfl hf
  | 13 => exact absurd rfl hf
  | f + 14 => exact absurd rfl hf
/-- the class's shape stands when only others change -/
theorem cn_xs {kd : Nat → Nat} {R R2 : rk_Rm} {rg rg2 : Nat → Nat} {x : Nat} (hW : rk_WT kd R) (hx : kd x = 11) (hk : ∀ a, kd a ≠ 0 → kd a < 50 → rg2 a = rg a ∧ ∀ c j, R2 c a j = R c a j) (h : cl_xs rg R x) : cl_xs rg2 R2 x := by
  have k0 := cn_wt (f := 0) (e := 10) hW hx (by decide) rfl (by decide)
  have k2 := cn_wt (f := 2) (e := 24) hW hx (by decide) rfl (by decide)
  have k3 := cn_wt (f := 3) (e := 25) hW hx (by decide) rfl (by decide)
  have k4 := cn_wt (f := 4) (e := 6) hW hx (by decide) rfl (by decide)
  have k5 := cn_wt (f := 5) (e := 4) hW hx (by decide) rfl (by decide)
  have k6 := cn_wt (f := 6) (e := 9) hW hx (by decide) rfl (by decide)
  have k24 : ∀ b, b < 2 → kd (R 24 (R 11 x 2) b) = 10 := fun b hb => cn_wt hW k2 (by decide) ((rk_rkA (k := 24) rfl).trans (if_pos hb)) (by decide)
  have k63 := cn_wt (f := 3) (e := 16) hW k4 (by decide) rfl (by decide)
  have k40 := cn_wt (f := 0) (e := 15) hW k5 (by decide) rfl (by decide)
  have k90 := cn_wt (f := 0) (e := 23) hW k6 (by decide) rfl (by decide)
  have k23 : ∀ i, i < 11 → kd (R 23 (R 9 (R 11 x 6) 0) i) = 8 := fun i hi => cn_wt hW k90 (by decide) ((rk_rkA (k := 23) rfl).trans (if_pos hi)) (by decide)
  have gx := hk x (by omega) (by omega)
  have g2 := hk (R 11 x 2) (by omega) (by omega)
  have g3 := hk (R 11 x 3) (by omega) (by omega)
  have g4 := hk (R 11 x 4) (by omega) (by omega)
  have g5 := hk (R 11 x 5) (by omega) (by omega)
  have g6 := hk (R 11 x 6) (by omega) (by omega)
  have g63 := hk (R 6 (R 11 x 4) 3) (by omega) (by omega)
  have g40 := hk (R 4 (R 11 x 5) 0) (by omega) (by omega)
  have g90 := hk (R 9 (R 11 x 6) 0) (by omega) (by omega)
  obtain ⟨h1, h2, h3, h4, h5, ⟨t1, t2, t3⟩, h7, h8, h9, h10, h11⟩ := h
  unfold cl_xs cl_ts
  simp only [gx.2, g2.2, g4.2, g5.2, g6.2, g90.2]
  rw [gx.1, g2.1, g3.1, g4.1, g5.1, g6.1, g63.1, g40.1, g90.1]
  exact ⟨h1, h2, h3, cn_ys hW k0 hk h4, fun b hb => cn_ys hW (k24 b hb) hk (h5 b hb), ⟨t1, t2, fun i hi => cn_ss hW (k23 i hi) hk (t3 i hi)⟩, h7, h8, h9, h10, h11⟩
theorem cn_hs {kd : Nat → Nat} {R R2 : rk_Rm} {rg rg2 : Nat → Nat} {q : Nat} {g : Nat → Nat} (hW : rk_WT kd R) (hh : kd q = 2) (hk : ∀ a, kd a ≠ 0 → kd a < 50 → rg2 a = rg a ∧ ∀ c j, R2 c a j = R c a j) (h : cl_hs rg R q g) : cl_hs rg2 R2 q g := by
  have k0 := cn_wt (f := 0) (e := 14) hW hh (by decide) rfl (by decide)
  have k14 : ∀ i, i < 7 → kd (R 14 (R 2 q 0) i) = 10 := fun i hi => cn_wt hW k0 (by decide) ((rk_rkA (k := 14) rfl).trans (if_pos hi)) (by decide)
  have g0 := hk q (by omega) (by omega)
  have g1 := hk (R 2 q 0) (by omega) (by omega)
  obtain ⟨h1, h2, h3, h4⟩ := h
  unfold cl_hs
  simp only [g0.2, g1.2]
  rw [g0.1, g1.1]
  exact ⟨h1, h2, fun i hi => ⟨(h3 i hi).1, (h3 i hi).2.1, cn_ys hW (k14 i hi) hk (h3 i hi).2.2⟩, h4⟩
variable {w : rk_W} {l : Launch} {d mc ms : Nat} {G : List Frame → Array Value → State → State → Prop}
/-- the law from its first instruction -/
theorem cL_start {b Lx : Nat} (hd : 20 ≤ d) (hmc : 880 ≤ mc) (hms : 9951 ≤ ms) (hLx : (rk_fz w 5).2.1 = Lx) (hw : cl_W w) (hL : Lx ≤ 3584) (hq : ∀ (x m k : Nat) (Sh : rk_Sh) (I : rk_Mm) (R : rk_Rm), rk_Wp w l rk_mL_law d mc ms G 1062 [(0, rk_a 105 b), (1, rk_a 11 x), (2, rk_a 12 m), (3, rk_i (nI k))] [] (Sh, 880, 9951) I R) {I : rk_Mm} {R : rk_Rm} : rk_Wp w l rk_mL_law d mc ms G 0 [(0, rk_a 105 b)] [] (([], fun _ => 0), 0, 0) I R := by
  refine rk_nw11 (by exact rk_inT 20 (by decide +kernel) (by decide +kernel)) (by first | omega | (dsimp only; omega)) (by first | omega | (dsimp only; omega)) dL_law_0 (fun nz1 hn1 => ?_)
  refine rk_dup dL_law_3 rfl ?_
  have q1 : (rk_nS (([], fun _ => 0) : rk_Sh) nz1 61).2 nz1 = 61 := va_up_self _ _ _
  refine rk_cIe _ _ _ _ (cX10_init_s hw q1) rk_eX10_init rfl rk_kL_9 dL_law_4 rfl (by first | omega | (dsimp only; omega)) (by first | omega | (dsimp only; omega)) (Nat.le_of_ble_eq_true rfl) (fun u1 hu1 => ?_)
  obtain ⟨k1, P1, Kx, X0, Gx⟩ := hu1
  refine rk_pub 11 (by decide) (fun f hf => rk_rk11 (P := fun f z => u1.1.2 (u1.2.2 11 nz1 f) = z) Kx.1 Kx.2.1 Kx.2.2.1 Kx.2.2.2.1 Kx.2.2.2.2.1 Kx.2.2.2.2.2.1 Kx.2.2.2.2.2.2 hf) rfl rfl ?_
  refine rk_astore_n 1 (ls' := [(1, _), (0, _)]) dL_law_7 rfl (by decide) rfl ?_
  refine rk_wt (fun hW0 => ?_)
  have W1 : rk_WT (rk_pS u1.1 nz1 11).2 u1.2.2 := hW0
  have v1 : (rk_pS u1.1 nz1 11).2 nz1 = 11 := va_up_self _ _ _
  refine rk_nw12 (by exact rk_inT 873 (by decide +kernel) (by decide +kernel)) (by first | omega | (dsimp only; omega)) (by first | omega | (dsimp only; omega)) dL_law_8 (fun nz2 hn2 => ?_)
  refine rk_dup dL_law_11 rfl ?_
  have q2 : (rk_nS (rk_pS u1.1 nz1 11) nz2 62).2 nz2 = 62 := va_up_self _ _ _
  refine rk_cIe _ _ _ _ (cX11_init_s q2) rk_eX11_init rfl rk_kL_12 dL_law_12 rfl (by first | omega | (dsimp only; omega)) (by first | omega | (dsimp only; omega)) (Nat.le_of_ble_eq_true rfl) (fun u2 hu2 => ?_)
  obtain ⟨k2, P2, ⟨m0, m1, m2, m4, m5, m6, m9, m10⟩, N0, F0⟩ := hu2
  refine rk_pub 12 (by decide) (fun f hf => rk_rk12 (P := fun f z => u2.1.2 (u2.2.2 12 nz2 f) = z) m0.1 m1.1 m2.1 m4.1 m5.1 m6.1 m9.1 m10.1 hf) rfl rfl ?_
  refine rk_astore_n 2 (ls' := [(2, _), (1, _), (0, _)]) dL_law_15 rfl (by decide) rfl ?_
  refine rk_iconst 0 dL_law_16 (by decide) ?_
  refine rk_istore_n 3 (ls' := [(3, _), (2, _), (1, _), (0, _)]) dL_law_17 rfl (by decide) rfl ?_
  refine rk_ord [0, 1, 2, 3] (ls' := [(0, _), (1, _), (2, _), (3, _)]) rfl ?_
  have ne2 : ∀ a, (rk_pS u1.1 nz1 11).2 a ≠ 0 → a ≠ nz2 := fun a h z => h (by rw [z]; exact hn2.1)
  have al2 : ∀ a, (rk_pS u1.1 nz1 11).2 a ≠ 0 → (rk_nS (rk_pS u1.1 nz1 11) nz2 62).2 a ≠ 0 := fun a h => by
    show va_up (rk_pS u1.1 nz1 11).2 nz2 62 a ≠ 0
    rw [va_up_ne _ _ (ne2 a h)]; exact h
  have cI : ∀ a, (rk_pS u1.1 nz1 11).2 a ≠ 0 → ∀ c j, u2.2.1 c a j = u1.2.1 c a j := fun a h c j => ((P2 a (al2 a h)).1 c j).trans (rk_nI_n (ne2 a h))
  have cR : ∀ a, (rk_pS u1.1 nz1 11).2 a ≠ 0 → ∀ c j, u2.2.2 c a j = u1.2.2 c a j := fun a h c j => ((P2 a (al2 a h)).2 (ne2 a h) c j).trans (rk_nR_n (ne2 a h))
  obtain ⟨rg1, -, xs1, g, hs1⟩ := Gx (fun _ => 100) rfl
  obtain ⟨rg2, hrg2⟩ : ∃ rg2 : Nat → Nat, rg2 = fun a => if (rk_pS u1.1 nz1 11).2 a ≠ 0 then rg1 a else 104 := ⟨_, rfl⟩
  have r1 : ∀ a, (rk_pS u1.1 nz1 11).2 a ≠ 0 → rg2 a = rg1 a := fun a h => by rw [hrg2]; exact if_pos h
  have r0 : ∀ a, (rk_pS u1.1 nz1 11).2 a = 0 → rg2 a = 104 := fun a h => by rw [hrg2]; exact if_neg (fun z => z h)
  have hk : ∀ a, (rk_pS u1.1 nz1 11).2 a ≠ 0 → (rk_pS u1.1 nz1 11).2 a < 50 → rg2 a = rg1 a ∧ ∀ c j, u2.2.2 c a j = u1.2.2 c a j := fun a h _ => ⟨r1 a h, cR a h⟩
  have xs2 : cl_xs rg2 u2.2.2 nz1 := cn_xs W1 v1 hk xs1
  have w0 := cn_wt (f := 0) (e := 10) W1 v1 (by decide) rfl (by decide)
  have w1 := cn_wt (f := 1) (e := 2) W1 v1 (by decide) rfl (by decide)
  have w3 := cn_wt (f := 3) (e := 25) W1 v1 (by decide) rfl (by decide)
  have w5 := cn_wt (f := 5) (e := 4) W1 v1 (by decide) rfl (by decide)
  have eR : ∀ j, u2.2.2 11 nz1 j = u1.2.2 11 nz1 j := fun j => cR nz1 (by rw [v1]; decide) 11 j
  have hs2 : cl_hs rg2 u2.2.2 (u2.2.2 11 nz1 1) g := by rw [eR]; exact cn_hs W1 w1 hk hs1
  obtain ⟨X1, X2, X3, X4, X5⟩ := X0
  have y2 : cn_y0 w (rk_pS u2.1 nz2 12, u2.2) (u2.2.2 11 nz1 0) := by
    rw [eR]
    exact cn_y0.keep (u := (rk_pS u1.1 nz1 11, u1.2)) X1 W1 w0 (fun a h _ => ⟨cI a h, cR a h⟩)
  have nI2 : ∀ j, u2.2.1 12 nz2 j = 0 := fun j => ((P2 nz2 (by rw [q2]; decide)).1 12 j).trans rk_nI_s
  have z2 : ∀ a k, cn_n (rk_nS (rk_pS u1.1 nz1 11) nz2 62) u2 k a → rg2 a = 104 := fun a k h => r0 a (cn_up0 h.2 (by decide)).2
  have C : cm_at rg2 u2.2.1 u2.2.2 nz1 nz2 0 (md_N0 3) 0 (fun _ _ => 0) (fun _ => 0) (fun _ _ => 0) (fun _ => 0) 0 := by
    refine ⟨⟨xs2, ?_, ⟨g, hs2, ?_, fun i hi => absurd hi (Nat.not_lt_zero i)⟩, fun c hc => ⟨?_, Or.inl rfl, fun h => absurd rfl h⟩, ?_, fun j hj => absurd hj (Nat.not_lt_zero j)⟩, ⟨N0, ?_, fun i hi => absurd hi (Nat.not_lt_zero i), fun c hc => ⟨F0 c, fun h => absurd rfl h⟩, fun j hj => absurd hj (Nat.not_lt_zero j), ?_, nI2 8⟩, ⟨vs_N0, by decide, fun i hi => absurd hi (Nat.not_lt_zero i), fun c hc h => absurd rfl h, by decide, trivial⟩, ⟨r0 _ hn2.1, z2 _ _ m0, z2 _ _ m1, z2 _ _ m2, z2 _ _ m4, z2 _ _ m5, z2 _ _ m6, z2 _ _ m9, z2 _ _ m10⟩⟩
    · refine cl_y_first (u := (rk_pS u2.1 nz2 12, u2.2)) hw y2 (fun j => ?_) xs2.2.2.2.1
      show u2.2.1 10 (u2.2.2 11 nz1 0) j = 0
      rw [eR, cI _ (by rw [w0]; decide)]
      exact X2 j
    · rw [eR, cI _ (by rw [w1]; decide)]
      exact X3.trans nI_0.symm
    · rw [eR, cI _ (by rw [w3]; decide)]
      exact X4 c
    · rw [eR, cI _ (by rw [w5]; decide)]
      exact X5.trans nI_0.symm
    · exact (nI2 3).trans nI_0.symm
    · exact (nI2 7).trans nI_0.symm
  refine rk_zc (c' := 880) (z' := 9951) (by dsimp only) (by dsimp only) ?_
  have e0 : (0 : Int32) = nI 0 := nI_0.symm
  rw [e0]
  exact cL_loop (Z := (rk_pS u2.1 nz2 12, 880, 9951)) hd ⟨hmc, hms⟩ hLx hw hL (fun k I R => hq nz1 nz2 k _ I R) 513 0 u2.2.1 u2.2.2 0 (by omega) (Nat.zero_le _) (by omega) ⟨_, _, _, _, _, _, _, C⟩
end EZ
