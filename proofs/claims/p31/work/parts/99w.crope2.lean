section EM
variable {w : rk_W} {l : Launch} {Sh : rk_Sh} {I : rk_Mm} {R : rk_Rm}
theorem cn_k.rf {u : rk_S} {s : Nat} : cn_k u.1 u.2.1 u.2.2 u s := ⟨fun _ _ => rfl, fun _ _ => ⟨fun _ _ => rfl, fun _ _ _ => rfl⟩⟩
theorem cn_mkA {s v k K f : Nat} {R' : rk_Rm} (hv : Sh.2 v = 0 ∧ v ≠ 0) (e : R' = rk_uR (rk_nR R v) K s f v) : cn_k Sh I R (rk_nS Sh v k, rk_nI I v, R') s := by
  have ne : ∀ a, Sh.2 a ≠ 0 → a ≠ v := fun a h z => h (by rw [z]; exact hv.1)
  refine ⟨fun a h => va_up_ne _ _ (ne a h), fun a h => ⟨fun c j => rk_nI_n (ne a h), fun hs c j => ?_⟩⟩
  show R' c a j = R c a j
  rw [e, rk_uR_n (fun z => hs z.2.1), rk_nR_n (ne a h)]
theorem cn_mkAS {s v K f : Nat} {R' : rk_Rm} (hv : Sh.2 v = 0 ∧ v ≠ 0) (hs : Sh.2 s ≠ 0) (e : R' = rk_uR (rk_nR R v) K s f v) : R' K s f = v ∧ ∀ j, j ≠ f → R' K s j = R K s j := by
  have ne : s ≠ v := fun z => hs (by rw [z]; exact hv.1)
  refine ⟨by rw [e, rk_uR_s], fun j hj => ?_⟩
  rw [e, rk_uR_n (fun z => hj z.2.2), rk_nR_n ne]
theorem rk_rk6 {f : Nat} {P : Nat → Nat → Prop} (h0 : P 0 4) (h3 : P 3 16) (hf : rk_rk 6 f ≠ 0) : P f (rk_rk 6 f) := by
  match f with
  | 0 => exact h0
  | 1 => exact absurd rfl hf
  | 2 => exact absurd rfl hf
  | 3 => exact h3
  | 4 => exact absurd rfl hf
  | f + 5 => exact absurd rfl hf
theorem rk_rk2 {f : Nat} {P : Nat → Nat → Prop} (h0 : P 0 14) (hf : rk_rk 2 f ≠ 0) : P f (rk_rk 2 f) := by
  match f with
  | 0 => exact h0
  | 1 => exact absurd rfl hf
  | f + 2 => exact absurd rfl hf
theorem rk_rk9 {f : Nat} {P : Nat → Nat → Prop} (h0 : P 0 23) (hf : rk_rk 9 f ≠ 0) : P f (rk_rk 9 f) := by
  match f with
  | 0 => exact h0
  | 1 => exact absurd rfl hf
  | 2 => exact absurd rfl hf
  | f + 3 => exact absurd rfl hf
theorem cn_y0.keep {w : rk_W} {kd : Nat → Nat} {u u2 : rk_S} {y : Nat} (h : cn_y0 w u y) (hW : rk_WT kd u.2.2) (hy : kd y = 10) (hk : ∀ a, kd a ≠ 0 → kd a < 50 → (∀ c j, u2.2.1 c a j = u.2.1 c a j) ∧ ∀ c j, u2.2.2 c a j = u.2.2 c a j) : cn_y0 w u2 y := by
  have k0 := cn_wt (f := 0) (e := 7) hW hy (by decide) rfl (by decide)
  have k1 := cn_wt (f := 1) (e := 8) hW hy (by decide) rfl (by decide)
  have k2 := cn_wt (f := 2) (e := 1) hW hy (by decide) rfl (by decide)
  have m0 := cn_wt (f := 0) (e := 17) hW k0 (by decide) rfl (by decide)
  have m1 := cn_wt (f := 1) (e := 18) hW k0 (by decide) rfl (by decide)
  have m2 := cn_wt (f := 2) (e := 19) hW k0 (by decide) rfl (by decide)
  have a2 := cn_wt (f := 2) (e := 21) hW k1 (by decide) rfl (by decide)
  have a22 : ∀ f, f < 3 → kd (u.2.2 21 (u.2.2 8 (u.2.2 10 y 1) 2) f) = 22 := fun f hf => cn_wt hW a2 (by decide) ((rk_rkA (k := 21) rfl).trans (if_pos hf)) (by decide)
  have ey := (hk y (by omega) (by omega)).2
  have e0 := (hk (u.2.2 10 y 0) (by omega) (by omega)).2
  have e1 := (hk (u.2.2 10 y 1) (by omega) (by omega))
  have e2 := (hk (u.2.2 10 y 2) (by omega) (by omega)).1
  have ea := (hk (u.2.2 8 (u.2.2 10 y 1) 2) (by omega) (by omega)).2
  obtain ⟨h1, h2, h3, h4, h5, h6⟩ := h
  refine ⟨fun j hj => ?_, fun j hj => ?_, fun j hj => ?_, ?_, fun f hf j => ?_, ?_⟩
  · rw [ey, e0, (hk (u.2.2 7 (u.2.2 10 y 0) 0) (by omega) (by omega)).1]; exact h1 j hj
  · rw [ey, e0, (hk (u.2.2 7 (u.2.2 10 y 0) 1) (by omega) (by omega)).1]; exact h2 j hj
  · rw [ey, e0, (hk (u.2.2 7 (u.2.2 10 y 0) 2) (by omega) (by omega)).1]; exact h3 j hj
  · rw [ey, e1.1]; exact h4
  · rw [ey, e1.2, ea]
    have := a22 f hf
    rw [(hk (u.2.2 21 (u.2.2 8 (u.2.2 10 y 1) 2) f) (by omega) (by omega)).1]; exact h5 f hf j
  · rw [ey, e2]; exact h6
/-- the class as it is made -/
def cn_x0 (w : rk_W) (u : rk_S) (x : Nat) : Prop := cn_y0 w u (u.2.2 11 x 0) ∧ (∀ j, u.2.1 10 (u.2.2 11 x 0) j = 0) ∧ u.2.1 2 (u.2.2 11 x 1) 1 = 0 ∧ (∀ j, u.2.1 25 (u.2.2 11 x 3) j = 0) ∧ u.2.1 4 (u.2.2 11 x 5) 1 = 0
def cn_xk (u : rk_S) (x : Nat) : Prop := u.1.2 (u.2.2 11 x 0) = 10 ∧ u.1.2 (u.2.2 11 x 1) = 2 ∧ u.1.2 (u.2.2 11 x 2) = 24 ∧ u.1.2 (u.2.2 11 x 3) = 25 ∧ u.1.2 (u.2.2 11 x 4) = 6 ∧ u.1.2 (u.2.2 11 x 5) = 4 ∧ u.1.2 (u.2.2 11 x 6) = 9
theorem cX10_init_s {s : Nat} (hw : cl_W w) (hs : Sh.2 s = 61) : rk_K w l rk_mX10_init 5 870 6224 [rk_a 61 s] Sh I R (fun u => cn_f Sh I R u s ∧ cn_xk u s ∧ cn_x0 w u s ∧ ∀ rg : Nat → Nat, rg s = 100 → ∃ rg' : Nat → Nat, (∀ a, Sh.2 a ≠ 0 → rg' a = rg a) ∧ cl_xs rg' u.2.2 s ∧ ∃ g, cl_hs rg' u.2.2 (u.2.2 11 s 1) g) := by
  have hs0 : Sh.2 s ≠ 0 := by rw [hs]; decide
  refine rk_bK (ls := [(0, _)]) (by decide) rfl (Nat.le_of_ble_eq_true rfl) ?_
  refine rk_aload_n 0 dX10_init_0 rfl rfl ?_
  refine rk_oinit (by exact rk_inT 19 (by decide +kernel) (by decide +kernel)) rk_oin rk_oco dX10_init_1 (by decide) (Nat.le_of_ble_eq_true rfl) ?_
  refine rk_aload_n 0 dX10_init_4 rfl rfl ?_
  refine rk_nw10 (by exact rk_inT 22 (by decide +kernel) (by decide +kernel)) (by first | omega | (dsimp only; omega)) (by first | omega | (dsimp only; omega)) dX10_init_5 (fun nz1 hn1 => ?_)
  refine rk_dup dX10_init_8 rfl ?_
  refine rk_cIeN _ _ _ _ (cX9_init_s hw (va_up_self _ _ _)) rk_eX9_init rfl rk_nX10_9 dX10_init_9 rfl (by first | omega | (dsimp only; omega)) (by first | omega | (dsimp only; omega)) (Nat.le_of_ble_eq_true rfl) (fun uz1 hz1 => ?_)
  obtain ⟨k1, P1, Y2, Y3, Y4⟩ := hz1
  refine rk_pub 10 (by decide) (fun f hf => rk_rk10 (P := fun f x => uz1.1.2 (uz1.2.2 10 nz1 f) = x) Y2.1 Y2.2.1 Y2.2.2 hf) rfl rfl ?_
  refine rk_pc (pc' := 12) rfl ?_
  refine rk_pf11_0 rfl rfl rk_kX10_10 (by decide) dX10_init_12 (fun Rz2 eRz2 => ?_)
  have H1 := cn_mk (I := I) (R := R) (k := 10) (by decide) hn1 k1 P1 eRz2
  obtain ⟨S1, T1⟩ := cn_mkS (I := I) (R := R) hn1 hs0 P1 eRz2
  refine rk_wt (fun hW1 => ?_)
  have W1 : rk_WT (rk_pS uz1.1 nz1 10).2 Rz2 := hW1
  have hs1 : (rk_pS uz1.1 nz1 10).2 s ≠ 0 := by rw [H1.1 s hs0]; exact hs0
  refine rk_aload_n 0 dX10_init_15 rfl rfl ?_
  refine rk_nw2 (by exact rk_inT 223 (by decide +kernel) (by decide +kernel)) (by first | omega | (dsimp only; omega)) (by first | omega | (dsimp only; omega)) dX10_init_16 (fun nz2 hn2 => ?_)
  refine rk_dup dX10_init_19 rfl ?_
  refine rk_cIe _ _ _ _ (cX1_init_s hw (va_up_self _ _ _)) rk_eX1_init rfl rk_kX10_18 dX10_init_20 rfl (by first | omega | (dsimp only; omega)) (by first | omega | (dsimp only; omega)) (Nat.le_of_ble_eq_true rfl) (fun uz3 hz3 => ?_)
  obtain ⟨k2, P2, Hk, Hg⟩ := hz3
  refine rk_pub 2 (by decide) (fun f hf => rk_rk2 (P := fun f x => uz3.1.2 (uz3.2.2 2 nz2 f) = x) Hk.1.1 hf) rfl rfl ?_
  refine rk_pf11_1 rfl rfl rk_kX10_19 (by decide) dX10_init_23 (fun Rz4 eRz4 => ?_)
  have H2 := cn_mk (k := 2) (by decide) hn2 k2 P2 eRz4
  obtain ⟨S2, T2⟩ := cn_mkS hn2 hs1 P2 eRz4
  refine rk_wt (fun hW2 => ?_)
  have W2 : rk_WT (rk_pS uz3.1 nz2 2).2 Rz4 := hW2
  have hs2 : (rk_pS uz3.1 nz2 2).2 s ≠ 0 := by rw [H2.1 s hs1]; exact hs1
  refine rk_aload_n 0 dX10_init_26 rfl rfl ?_
  refine rk_iconst 2 dX10_init_27 (by decide) ?_
  refine rk_pc (pc' := 28) rfl ?_
  refine rk_nq24 (by exact rk_inT 22 (by decide +kernel) (by decide +kernel)) (by decide) (by first | omega | (dsimp only; omega)) (by first | omega | (dsimp only; omega)) dX10_init_28 (fun nz3 hn3 => ?_)
  refine rk_pf11_2 rfl rfl rk_kX10_23 (by decide) dX10_init_31 (fun Rz5 eRz5 => ?_)
  have H3 := cn_mkA (Sh := rk_pS uz3.1 nz2 2) (I := uz3.2.1) (k := 74) hn3 eRz5
  obtain ⟨S3, T3⟩ := cn_mkAS (Sh := rk_pS uz3.1 nz2 2) hn3 hs2 eRz5
  have hs3 : (rk_nS (rk_pS uz3.1 nz2 2) nz3 74).2 s ≠ 0 := by rw [H3.1 s hs2]; exact hs2
  refine rk_aload_n 0 dX10_init_34 rfl rfl ?_
  refine rk_iconst 2 dX10_init_35 (by decide) ?_
  refine rk_na25 (by decide) (by first | omega | (dsimp only; omega)) (by first | omega | (dsimp only; omega)) dX10_init_36 (fun nz4 hn4 => ?_)
  refine rk_pf11_3 rfl rfl rk_kX10_27 (by decide) dX10_init_38 (fun Rz6 eRz6 => ?_)
  have H4 := cn_mkA (Sh := rk_nS (rk_pS uz3.1 nz2 2) nz3 74) (I := rk_nI uz3.2.1 nz3) (k := 25) hn4 eRz6
  obtain ⟨S4, T4⟩ := cn_mkAS (Sh := rk_nS (rk_pS uz3.1 nz2 2) nz3 74) hn4 hs3 eRz6
  have hs4 : (rk_nS (rk_nS (rk_pS uz3.1 nz2 2) nz3 74) nz4 25).2 s ≠ 0 := by rw [H4.1 s hs3]; exact hs3
  refine rk_aload_n 0 dX10_init_41 rfl rfl ?_
  refine rk_nw6 (by exact rk_inT 240 (by decide +kernel) (by decide +kernel)) (by first | omega | (dsimp only; omega)) (by first | omega | (dsimp only; omega)) dX10_init_42 (fun nz5 hn5 => ?_)
  refine rk_pc (pc' := 45) rfl ?_
  refine rk_dup dX10_init_45 rfl ?_
  refine rk_cIeN _ _ _ _ (cX5_init_s (va_up_self _ _ _)) rk_eX5_init rfl rk_nX10_33 dX10_init_46 rfl (by first | omega | (dsimp only; omega)) (by first | omega | (dsimp only; omega)) (Nat.le_of_ble_eq_true rfl) (fun uz7 hz7 => ?_)
  obtain ⟨k5, P5, D1, D2, D3, D4⟩ := hz7
  refine rk_pub 6 (by decide) (fun f hf => rk_rk6 (P := fun f x => uz7.1.2 (uz7.2.2 6 nz5 f) = x) D1.1 D3.1 hf) rfl rfl ?_
  refine rk_pf11_4 rfl rfl rk_kX10_34 (by decide) dX10_init_49 (fun Rz8 eRz8 => ?_)
  have H5 := cn_mk (k := 6) (by decide) hn5 k5 P5 eRz8
  obtain ⟨S5, T5⟩ := cn_mkS hn5 hs4 P5 eRz8
  have v5 : (rk_pS uz7.1 nz5 6).2 nz5 = 6 := va_up_self _ _ _
  have hs5 : (rk_pS uz7.1 nz5 6).2 s ≠ 0 := by rw [H5.1 s hs4]; exact hs4
  refine rk_aload_n 0 dX10_init_52 rfl rfl ?_
  refine rk_aload_n 0 dX10_init_53 rfl rfl ?_
  refine rk_gr11_4 6 rk_kX10_34 dX10_init_54 (by rw [S5]; exact v5) (by decide) ?_
  refine rk_g6_0 rk_kX10_38 dX10_init_57 ?_
  refine rk_pc (pc' := 60) rfl ?_
  refine rk_pf11_5 rfl rfl rk_kX10_42 (by decide) dX10_init_60 (fun Rz9 eRz9 => ?_)
  obtain ⟨H6, S6, T6⟩ : cn_k (rk_pS uz7.1 nz5 6) uz7.2.1 Rz8 (rk_pS uz7.1 nz5 6, uz7.2.1, Rz9) s ∧ Rz9 11 s 5 = Rz8 6 (Rz8 11 s 4) 0 ∧ ∀ j, j ≠ 5 → Rz9 11 s j = Rz8 11 s j := ⟨⟨fun _ _ => rfl, fun a h => ⟨fun _ _ => rfl, fun hs2 c j => by show Rz9 c a j = _; rw [eRz9]; exact rk_uR_n (fun z => hs2 z.2.1)⟩⟩, by rw [eRz9, rk_uR_s], fun j hj => by rw [eRz9]; exact rk_uR_n (fun z => hj z.2.2)⟩
  refine rk_aload_n 0 dX10_init_63 rfl rfl ?_
  refine rk_nw9 (by exact rk_inT 275 (by decide +kernel) (by decide +kernel)) (by first | omega | (dsimp only; omega)) (by first | omega | (dsimp only; omega)) dX10_init_64 (fun nz6 hn6 => ?_)
  refine rk_dup dX10_init_67 rfl ?_
  refine rk_cIe _ _ _ _ (cX8_init_s (va_up_self _ _ _)) rk_eX8_init rfl rk_kX10_45 dX10_init_68 rfl (by first | omega | (dsimp only; omega)) (by first | omega | (dsimp only; omega)) (Nat.le_of_ble_eq_true rfl) (fun uz10 hz10 => ?_)
  obtain ⟨k7, P7, Rk, Rg⟩ := hz10
  refine rk_pub 9 (by decide) (fun f hf => rk_rk9 (P := fun f x => uz10.1.2 (uz10.2.2 9 nz6 f) = x) Rk.1.1 hf) rfl rfl ?_
  refine rk_pf11_6 rfl rfl rk_kX10_46 (by decide) dX10_init_71 (fun Rz11 eRz11 => ?_)
  have H7 := cn_mk (k := 9) (by decide) hn6 k7 P7 eRz11
  obtain ⟨S7, T7⟩ := cn_mkS hn6 hs5 P7 eRz11
  refine rk_wt (fun hW7 => ?_)
  have W7 : rk_WT (rk_pS uz10.1 nz6 9).2 Rz11 := hW7
  refine rk_iconst 0 dX10_init_74 (by decide) ?_
  refine rk_istore_n 1 (ls' := [(1, _), (0, _)]) dX10_init_75 rfl (by decide) rfl ?_
  refine rk_pc (pc' := 76) rfl ?_
  refine rk_ord [0, 1] (ls' := [(0, _), (1, _)]) rfl ?_
  have H57 := H6.tr H7
  have H47 := H5.tr H57
  have H37 := H4.tr H47
  have H27 := H3.tr H37
  have H17 := H2.tr H27
  have H07 := H1.tr H17
  have r0 : Rz11 11 s 0 = nz1 := (T7 0 (by decide)).trans ((T6 0 (by decide)).trans ((T5 0 (by decide)).trans ((T4 0 (by decide)).trans ((T3 0 (by decide)).trans ((T2 0 (by decide)).trans S1)))))
  have r1 : Rz11 11 s 1 = nz2 := (T7 1 (by decide)).trans ((T6 1 (by decide)).trans ((T5 1 (by decide)).trans ((T4 1 (by decide)).trans ((T3 1 (by decide)).trans S2))))
  have r2 : Rz11 11 s 2 = nz3 := (T7 2 (by decide)).trans ((T6 2 (by decide)).trans ((T5 2 (by decide)).trans ((T4 2 (by decide)).trans S3)))
  have r3 : Rz11 11 s 3 = nz4 := (T7 3 (by decide)).trans ((T6 3 (by decide)).trans ((T5 3 (by decide)).trans S4))
  have r4 : Rz11 11 s 4 = nz5 := (T7 4 (by decide)).trans ((T6 4 (by decide)).trans S5)
  have e8 : ∀ c, c ≠ 11 → Rz8 c = uz7.2.2 c := fun c hc => by funext a j; rw [eRz8]; exact rk_uR_n (fun z => hc z.1)
  have e2C : ∀ c, c ≠ 11 → Rz2 c = uz1.2.2 c := fun c hc => by funext a j; rw [eRz2]; exact rk_uR_n (fun z => hc z.1)
  have e4C : ∀ c, c ≠ 11 → Rz4 c = uz3.2.2 c := fun c hc => by funext a j; rw [eRz4]; exact rk_uR_n (fun z => hc z.1)
  have e11C : ∀ c, c ≠ 11 → Rz11 c = uz10.2.2 c := fun c hc => by funext a j; rw [eRz11]; exact rk_uR_n (fun z => hc z.1)
  have r5 : Rz11 11 s 5 = uz7.2.2 6 nz5 0 := (T7 5 (by decide)).trans (S6.trans (by rw [S5, e8 6 (by decide)]))
  have r6 : Rz11 11 s 6 = nz6 := S7
  have v1 : (rk_pS uz1.1 nz1 10).2 nz1 = 10 := va_up_self _ _ _
  have v2 : (rk_pS uz3.1 nz2 2).2 nz2 = 2 := va_up_self _ _ _
  have v3 : (rk_nS (rk_pS uz3.1 nz2 2) nz3 74).2 nz3 = 74 := va_up_self _ _ _
  have v4 : (rk_nS (rk_nS (rk_pS uz3.1 nz2 2) nz3 74) nz4 25).2 nz4 = 25 := va_up_self _ _ _
  have v6 : (rk_pS uz10.1 nz6 9).2 nz6 = 9 := va_up_self _ _ _
  have w1 : (rk_pS uz10.1 nz6 9).2 nz1 = 10 := (H17.1 nz1 (by rw [v1]; decide)).trans v1
  have w2 : (rk_pS uz10.1 nz6 9).2 nz2 = 2 := (H27.1 nz2 (by rw [v2]; decide)).trans v2
  have w3 : (rk_pS uz10.1 nz6 9).2 nz3 = 74 := (H37.1 nz3 (by rw [v3]; decide)).trans v3
  have w4 : (rk_pS uz10.1 nz6 9).2 nz4 = 25 := (H47.1 nz4 (by rw [v4]; decide)).trans v4
  have w5 : (rk_pS uz10.1 nz6 9).2 nz5 = 6 := (H57.1 nz5 (by rw [v5]; decide)).trans v5
  have d1 := cn_in D1 (by decide)
  have d2 := cn_in D2 (by decide)
  have d3 := cn_in D3 (by decide)
  have d1k : (rk_pS uz7.1 nz5 6).2 (uz7.2.2 6 nz5 0) = 4 := d1.1
  have d2k : (rk_pS uz7.1 nz5 6).2 (uz7.2.2 4 (uz7.2.2 6 nz5 0) 0) = 15 := d2.1
  have d3k : (rk_pS uz7.1 nz5 6).2 (uz7.2.2 6 nz5 3) = 16 := d3.1
  have wp : (rk_pS uz10.1 nz6 9).2 (uz7.2.2 6 nz5 0) = 4 := (H57.1 _ (by rw [d1k]; decide)).trans d1k
  have hs7 : (rk_pS uz10.1 nz6 9).2 s = 61 := (H07.1 s hs0).trans hs
  have z2 : ∀ a, (rk_pS uz3.1 nz2 2).2 a = 0 → Sh.2 a = 0 := fun a h => Classical.byContradiction fun z => z (by rw [← (H1.tr H2).1 a z]; exact h)
  have hq0 : Sh.2 nz3 = 0 := z2 _ hn3.1
  refine rk_zc (c' := 764 + 53 * 0) (z' := 5478 + 373 * 0) (by dsimp only) (by dsimp only) ?_
  refine cX10_init_l (c0 := 764) (z0 := 5478) (u0 := (rk_pS uz10.1 nz6 9, uz10.2.1, Rz11)) (q := nz3) hw hs7 w3 r2 (fun u hK hk2 hD => ?_) 2 0 (rk_pS uz10.1 nz6 9, uz10.2.1, Rz11) rfl cn_k.rf (fun i hi => absurd hi (Nat.not_lt_zero i)) (fun rg => ⟨rg, fun _ _ => rfl, fun i hi => absurd hi (Nat.not_lt_zero i)⟩)
  have n3 : ∀ a, (rk_pS uz10.1 nz6 9).2 a ≠ 74 → a ≠ nz3 := fun a h z => h (by rw [z]; exact w3)
  have fk : ∀ a k, (rk_pS uz10.1 nz6 9).2 a = k → k ≠ 0 → k ≠ 74 → (rk_pS u.1 nz3 24).2 a = k := fun a k h h0 h74 => (va_up_ne _ _ (n3 a (by rw [h]; exact h74))).trans ((hK.1 a (by show (rk_pS uz10.1 nz6 9).2 a ≠ 0; rw [h]; exact h0)).trans h)
  have fI : ∀ a, (rk_pS uz10.1 nz6 9).2 a ≠ 0 → ∀ c j, u.2.1 c a j = uz10.2.1 c a j := fun a h => (hK.2 a h).1
  have fR : ∀ a, (rk_pS uz10.1 nz6 9).2 a ≠ 0 → (rk_pS uz10.1 nz6 9).2 a ≠ 74 → ∀ c j, u.2.2 c a j = Rz11 c a j := fun a h h2 => (hK.2 a h).2 (n3 a h2)
  have fs : ∀ j, u.2.2 11 s j = Rz11 11 s j := fun j => fR s (by rw [hs7]; decide) (by rw [hs7]; decide) 11 j
  have n0 : ∀ a, Sh.2 a ≠ 0 → a ≠ nz3 := fun a h z => h (by rw [z]; exact hq0)
  have f1 : ∀ a, (rk_pS uz1.1 nz1 10).2 a ≠ 0 → (rk_pS uz1.1 nz1 10).2 a < 50 → (∀ c j, u.2.1 c a j = uz1.2.1 c a j) ∧ ∀ c j, u.2.2 c a j = Rz2 c a j := fun a h h2 => by
    have e := H17.1 a h
    have e2 : (rk_pS uz10.1 nz6 9).2 a = (rk_pS uz1.1 nz1 10).2 a := e
    have hsa : a ≠ s := fun z => by rw [z] at h2; have h9 : (rk_pS uz1.1 nz1 10).2 s = 61 := (H1.1 s hs0).trans hs; omega
    exact ⟨fun c j => (fI a (by rw [e2]; exact h) c j).trans ((H17.2 a h).1 c j), fun c j => (fR a (by rw [e2]; exact h) (by omega) c j).trans ((H17.2 a h).2 hsa c j)⟩
  have f2 : ∀ a, (rk_pS uz3.1 nz2 2).2 a ≠ 0 → (rk_pS uz3.1 nz2 2).2 a < 50 → (∀ c j, u.2.1 c a j = uz3.2.1 c a j) ∧ ∀ c j, u.2.2 c a j = Rz4 c a j := fun a h h2 => by
    have e2 : (rk_pS uz10.1 nz6 9).2 a = (rk_pS uz3.1 nz2 2).2 a := H27.1 a h
    have hsa : a ≠ s := fun z => by rw [z] at h2; have := (H1.tr H2).1 s hs0; have h9 : (rk_pS uz3.1 nz2 2).2 s = 61 := this.trans hs; omega
    exact ⟨fun c j => (fI a (by rw [e2]; exact h) c j).trans ((H27.2 a h).1 c j), fun c j => (fR a (by rw [e2]; exact h) (by omega) c j).trans ((H27.2 a h).2 hsa c j)⟩
  have f5 : ∀ a, (rk_pS uz7.1 nz5 6).2 a ≠ 0 → (rk_pS uz7.1 nz5 6).2 a < 50 → (∀ c j, u.2.1 c a j = uz7.2.1 c a j) ∧ ∀ c j, u.2.2 c a j = Rz9 c a j := fun a h h2 => by
    have e2 : (rk_pS uz10.1 nz6 9).2 a = (rk_pS uz7.1 nz5 6).2 a := H57.1 a h
    have hsa : a ≠ s := fun z => by rw [z] at e2 h2; rw [hs7] at e2; omega
    exact ⟨fun c j => (fI a (by rw [e2]; exact h) c j).trans ((H57.2 a h).1 c j), fun c j => (fR a (by rw [e2]; exact h) (by omega) c j).trans ((H7.2 a h).2 hsa c j)⟩
  have f7 : ∀ a, (rk_pS uz10.1 nz6 9).2 a ≠ 0 → (rk_pS uz10.1 nz6 9).2 a < 50 → ∀ c j, u.2.2 c a j = Rz11 c a j := fun a h h2 => fR a h (by omega)
  have R9 : ∀ c, c ≠ 11 → Rz9 c = uz7.2.2 c := fun c hc => by rw [← e8 c hc]; funext a j; rw [eRz9]; exact rk_uR_n (fun z => hc z.1)
  refine ⟨rfl, fun a h => (va_up_ne _ _ (n0 a h)).trans ((hK.1 a (by show (rk_pS uz10.1 nz6 9).2 a ≠ 0; rw [H07.1 a h]; exact h)).trans (H07.1 a h)), fun a h => ⟨fun c j => (fI a (by rw [H07.1 a h]; exact h) c j).trans ((H07.2 a h).1 c j), fun hsa c j => ((hK.2 a (by show (rk_pS uz10.1 nz6 9).2 a ≠ 0; rw [H07.1 a h]; exact h)).2 (n0 a h) c j).trans ((H07.2 a h).2 hsa c j)⟩, ?_, ?_, fun rg hrg => ?_⟩
  · unfold cn_xk
    show (rk_pS u.1 nz3 24).2 (u.2.2 11 s 0) = 10 ∧ (rk_pS u.1 nz3 24).2 (u.2.2 11 s 1) = 2 ∧ (rk_pS u.1 nz3 24).2 (u.2.2 11 s 2) = 24 ∧ (rk_pS u.1 nz3 24).2 (u.2.2 11 s 3) = 25 ∧ (rk_pS u.1 nz3 24).2 (u.2.2 11 s 4) = 6 ∧ (rk_pS u.1 nz3 24).2 (u.2.2 11 s 5) = 4 ∧ (rk_pS u.1 nz3 24).2 (u.2.2 11 s 6) = 9
    rw [fs, fs, fs, fs, fs, fs, fs, r0, r1, r2, r3, r4, r5, r6]
    exact ⟨fk _ _ w1 (by decide) (by decide), fk _ _ w2 (by decide) (by decide), va_up_self _ _ _, fk _ _ w4 (by decide) (by decide), fk _ _ w5 (by decide) (by decide), fk _ _ wp (by decide) (by decide), fk _ _ v6 (by decide) (by decide)⟩
  · unfold cn_x0
    show cn_y0 w (rk_pS u.1 nz3 24, u.2) (u.2.2 11 s 0) ∧ (∀ j, u.2.1 10 (u.2.2 11 s 0) j = 0) ∧ u.2.1 2 (u.2.2 11 s 1) 1 = 0 ∧ (∀ j, u.2.1 25 (u.2.2 11 s 3) j = 0) ∧ u.2.1 4 (u.2.2 11 s 5) 1 = 0
    rw [fs, fs, fs, fs, r0, r1, r3, r5]
    refine ⟨?_, fun j => ?_, ?_, fun j => ?_, ?_⟩
    · refine cn_y0.keep (u := (rk_pS uz1.1 nz1 10, uz1.2.1, Rz2)) ?_ W1 v1 f1
      have Y3' := Y3
      unfold cn_y0 at Y3' ⊢
      show (∀ j, j < 10 → uz1.2.1 17 (Rz2 7 (Rz2 10 nz1 0) 0) j = (rk_fz w 0).2.2 j) ∧ (∀ j, j < 3 → uz1.2.1 18 (Rz2 7 (Rz2 10 nz1 0) 1) j = (rk_fz w 3).2.2 j) ∧ (∀ j, j < 3 → uz1.2.1 19 (Rz2 7 (Rz2 10 nz1 0) 2) j = (rk_fz w 4).2.2 j) ∧ uz1.2.1 8 (Rz2 10 nz1 1) 1 = 0 ∧ (∀ f, f < 3 → ∀ j, uz1.2.1 22 (Rz2 21 (Rz2 8 (Rz2 10 nz1 1) 2) f) j = 0) ∧ uz1.2.1 1 (Rz2 10 nz1 2) 1 = 0
      rw [e2C 7 (by decide), e2C 10 (by decide), e2C 21 (by decide), e2C 8 (by decide)]
      exact Y3'
    · exact ((f1 nz1 (by rw [v1]; decide) (by rw [v1]; decide)).1 10 j).trans (((P1 nz1 (by rw [show (rk_nS Sh nz1 60).2 nz1 = 60 from va_up_self _ _ _]; decide)).1 10 j).trans rk_nI_s)
    · exact ((f2 nz2 (by rw [v2]; decide) (by rw [v2]; decide)).1 2 1).trans (((P2 nz2 (by rw [show (rk_nS (rk_pS uz1.1 nz1 10) nz2 52).2 nz2 = 52 from va_up_self _ _ _]; decide)).1 2 1).trans rk_nI_s)
    · exact (fI nz4 (by rw [w4]; decide) 25 j).trans (((H47.2 nz4 (by rw [v4]; decide)).1 25 j).trans rk_nI_s)
    · exact ((f5 _ (by rw [d1k]; decide) (by rw [d1k]; decide)).1 4 1).trans D4
  · obtain ⟨rg1, e1, y1⟩ := Y4 (fun a => if a = nz1 then 4 * 0 else rg a) 0 (if_pos rfl)
    have c1 : ∀ a, Sh.2 a ≠ 0 → rg1 a = rg a := fun a h => by
      have ne : a ≠ nz1 := fun z => h (by rw [z]; exact hn1.1)
      exact (e1 a (by show va_up Sh.2 nz1 60 a ≠ 0; rw [va_up_ne _ _ ne]; exact h)).trans (if_neg ne)
    have y1' : cl_ys rg1 Rz2 nz1 0 := by
      unfold cl_ys cl_rs cl_ss cl_bs at y1 ⊢
      rw [e2C 10 (by decide), e2C 7 (by decide), e2C 8 (by decide), e2C 20 (by decide), e2C 21 (by decide), e2C 1 (by decide), e2C 13 (by decide)]
      exact y1
    obtain ⟨rg2, e2, h2a, h2b⟩ := Hg (fun a => if a = nz2 then 88 else rg1 a) (if_pos rfl)
    have c2 : ∀ a, (rk_pS uz1.1 nz1 10).2 a ≠ 0 → rg2 a = rg1 a := fun a h => by
      have ne : a ≠ nz2 := fun z => h (by rw [z]; exact hn2.1)
      exact (e2 a (by show va_up (rk_pS uz1.1 nz1 10).2 nz2 52 a ≠ 0; rw [va_up_ne _ _ ne]; exact h)).trans (if_neg ne)
    have c2n : rg2 nz2 = 88 := (e2 nz2 (by show va_up (rk_pS uz1.1 nz1 10).2 nz2 52 nz2 ≠ 0; rw [va_up_self]; decide)).trans (if_pos rfl)
    obtain ⟨rg5, hrg5⟩ : ∃ rg5 : Nat → Nat, rg5 = fun a => if (rk_pS uz3.1 nz2 2).2 a ≠ 0 then rg2 a else if (rk_nS (rk_nS (rk_pS uz3.1 nz2 2) nz3 74) nz4 25).2 a ≠ 0 then 100 else if (rk_pS uz7.1 nz5 6).2 a = 4 ∨ (rk_pS uz7.1 nz5 6).2 a = 15 then 96 else 92 := ⟨_, rfl⟩
    have c5 : ∀ a, (rk_pS uz3.1 nz2 2).2 a ≠ 0 → rg5 a = rg2 a := fun a h => by rw [hrg5]; exact if_pos h
    have c5a : ∀ a, (rk_pS uz3.1 nz2 2).2 a = 0 → (rk_nS (rk_nS (rk_pS uz3.1 nz2 2) nz3 74) nz4 25).2 a ≠ 0 → rg5 a = 100 := fun a h h2 => by rw [hrg5]; exact (if_neg (fun z => z h)).trans (if_pos h2)
    have zz : ∀ a, (rk_nS (rk_nS (rk_pS uz3.1 nz2 2) nz3 74) nz4 25).2 a = 0 → (rk_pS uz3.1 nz2 2).2 a = 0 := fun a h => Classical.byContradiction fun z => z (by rw [← (H3.tr H4).1 a z]; exact h)
    have c5b : ∀ a, (rk_nS (rk_nS (rk_pS uz3.1 nz2 2) nz3 74) nz4 25).2 a = 0 → ((rk_pS uz7.1 nz5 6).2 a = 4 ∨ (rk_pS uz7.1 nz5 6).2 a = 15) → rg5 a = 96 := fun a h h2 => by rw [hrg5]; exact (if_neg (fun z => z (zz a h))).trans ((if_neg (fun z => z h)).trans (if_pos h2))
    have c5c : ∀ a, (rk_nS (rk_nS (rk_pS uz3.1 nz2 2) nz3 74) nz4 25).2 a = 0 → ¬ ((rk_pS uz7.1 nz5 6).2 a = 4 ∨ (rk_pS uz7.1 nz5 6).2 a = 15) → rg5 a = 92 := fun a h h2 => by rw [hrg5]; exact (if_neg (fun z => z (zz a h))).trans ((if_neg (fun z => z h)).trans (if_neg h2))
    obtain ⟨rg6, e6, t6a, t6b⟩ := Rg (fun a => if a = nz6 then 84 else rg5 a) (if_pos rfl)
    have c6 : ∀ a, (rk_pS uz7.1 nz5 6).2 a ≠ 0 → rg6 a = rg5 a := fun a h => by
      have ne : a ≠ nz6 := fun z => h (by rw [z]; exact hn6.1)
      exact (e6 a (by show va_up (rk_pS uz7.1 nz5 6).2 nz6 59 a ≠ 0; rw [va_up_ne _ _ ne]; exact h)).trans (if_neg ne)
    have c6n : rg6 nz6 = 84 := (e6 nz6 (by show va_up (rk_pS uz7.1 nz5 6).2 nz6 59 nz6 ≠ 0; rw [va_up_self]; decide)).trans (if_pos rfl)
    obtain ⟨rg7, c7, l7⟩ := hD rg6
    have k25 : ∀ a, (rk_pS uz3.1 nz2 2).2 a ≠ 0 → (rk_pS uz7.1 nz5 6).2 a ≠ 0 := fun a h => by rw [((H3.tr H4).tr H5).1 a h]; exact h
    have k57 : ∀ a, (rk_pS uz7.1 nz5 6).2 a ≠ 0 → (rk_pS uz10.1 nz6 9).2 a ≠ 0 := fun a h => by rw [H57.1 a h]; exact h
    have k12 : ∀ a, (rk_pS uz1.1 nz1 10).2 a ≠ 0 → (rk_pS uz3.1 nz2 2).2 a ≠ 0 := fun a h => by rw [H2.1 a h]; exact h
    have b5 : ∀ a, (rk_pS uz7.1 nz5 6).2 a ≠ 0 → rg7 a = rg5 a := fun a h => (c7 a (k57 a h)).trans (c6 a h)
    have b2 : ∀ a, (rk_pS uz3.1 nz2 2).2 a ≠ 0 → rg7 a = rg2 a := fun a h => (b5 a (k25 a h)).trans (c5 a h)
    have b1 : ∀ a, (rk_pS uz1.1 nz1 10).2 a ≠ 0 → rg7 a = rg1 a := fun a h => (b2 a (k12 a h)).trans (c2 a h)
    have b0 : ∀ a, Sh.2 a ≠ 0 → rg7 a = rg a := fun a h => (b1 a (by rw [H1.1 a h]; exact h)).trans (c1 a h)
    have k47 : ∀ a, (rk_nS (rk_nS (rk_pS uz3.1 nz2 2) nz3 74) nz4 25).2 a ≠ 0 → (rk_pS uz7.1 nz5 6).2 a ≠ 0 := fun a h => by rw [H5.1 a h]; exact h
    have g3 : rg7 nz3 = 100 := by
      have h4 : (rk_nS (rk_nS (rk_pS uz3.1 nz2 2) nz3 74) nz4 25).2 nz3 ≠ 0 := by rw [H4.1 nz3 (by rw [v3]; decide)]; exact (by rw [v3]; decide)
      exact (b5 _ (k47 _ h4)).trans (c5a _ hn3.1 h4)
    have g4 : rg7 nz4 = 100 := by
      have h4 : (rk_nS (rk_nS (rk_pS uz3.1 nz2 2) nz3 74) nz4 25).2 nz4 ≠ 0 := by rw [v4]; decide
      exact (b5 _ (k47 _ h4)).trans (c5a _ (cn_up0 hn4.1 (by decide)).2 h4)
    have hh : cl_hs rg7 u.2.2 nz2 (fun i => i + 1) := by
      have kq : (rk_pS uz3.1 nz2 2).2 (uz3.2.2 2 nz2 0) = 14 := (cn_in Hk.1 (by decide)).1
      have x2 := (f2 nz2 (by rw [v2]; decide) (by rw [v2]; decide)).2
      have xq := (f2 _ (by rw [kq]; decide) (by rw [kq]; decide)).2
      have er : u.2.2 2 nz2 0 = uz3.2.2 2 nz2 0 := (x2 2 0).trans (by rw [e4C 2 (by decide)])
      refine ⟨(b2 _ (by rw [v2]; decide)).trans c2n, by rw [er]; exact (b2 _ (by rw [kq]; decide)).trans h2a, fun i hi => ⟨by show 1 ≤ i + 1; omega, by show i + 1 ≤ 7; omega, ?_⟩, fun i j _ _ z => by have z2 : i + 1 = j + 1 := z; omega⟩
      have ei : u.2.2 14 (u.2.2 2 nz2 0) i = uz3.2.2 14 (uz3.2.2 2 nz2 0) i := by rw [er, xq 14 i, e4C 14 (by decide)]
      rw [ei]
      refine cn_ys (rg := rg2) (R := Rz4) W2 (cn_in (Hk.2.1 i hi) (by decide)).1 (fun a h h2 => ⟨b2 a h, (f2 a h h2).2⟩) ?_
      have y := h2b i hi
      unfold cl_ys cl_rs cl_ss cl_bs at y ⊢
      rw [e4C 10 (by decide), e4C 7 (by decide), e4C 8 (by decide), e4C 20 (by decide), e4C 21 (by decide), e4C 1 (by decide), e4C 13 (by decide)]
      exact y
    refine ⟨rg7, b0, ?_, fun i => i + 1, by show cl_hs rg7 u.2.2 (u.2.2 11 s 1) _; rw [fs, r1]; exact hh⟩
    show cl_xs rg7 u.2.2 s
    unfold cl_xs
    rw [fs, fs, fs, fs, fs, fs, r0, r2, r3, r4, r5, r6]
    have x5 := (f5 nz5 (by rw [v5]; decide) (by rw [v5]; decide)).2
    have xp := (f5 _ (by rw [d1k]; decide) (by rw [d1k]; decide)).2
    refine ⟨(b0 s hs0).trans hrg, g3, g4, ?_, fun b hb => l7 b hb, ?_, ?_, ?_, ?_, ?_, ?_⟩
    · exact cn_ys W1 v1 (fun a h h2 => ⟨b1 a h, (f1 a h h2).2⟩) y1'
    · have kq : (rk_pS uz10.1 nz6 9).2 (uz10.2.2 9 nz6 0) = 23 := (cn_in Rk.1 (by decide)).1
      have er : u.2.2 9 nz6 0 = uz10.2.2 9 nz6 0 := (f7 nz6 (by rw [v6]; decide) (by rw [v6]; decide) 9 0).trans (by rw [e11C 9 (by decide)])
      have xq := f7 _ (by rw [kq]; decide) (by rw [kq]; decide)
      refine ⟨(c7 _ (by show (rk_pS uz10.1 nz6 9).2 nz6 ≠ 0; rw [v6]; decide)).trans c6n, by rw [er]; exact (c7 _ (by show (rk_pS uz10.1 nz6 9).2 (uz10.2.2 9 nz6 0) ≠ 0; rw [kq]; decide)).trans t6a, fun i hi => ?_⟩
      have ei : u.2.2 23 (u.2.2 9 nz6 0) i = uz10.2.2 23 (uz10.2.2 9 nz6 0) i := by rw [er, xq 23 i, e11C 23 (by decide)]
      rw [ei]
      refine cn_ss (rg := rg6) (R := Rz11) W7 (cn_in (Rk.2.1 i hi) (by decide)).1 (fun a h h2 => ⟨c7 a h, f7 a h h2⟩) ?_
      have y := t6b i hi
      unfold cl_ss at y ⊢
      rw [e11C 8 (by decide), e11C 20 (by decide), e11C 21 (by decide)]
      exact y
    · exact (b5 _ (by rw [v5]; decide)).trans (c5c _ hn5.1 (by rw [v5]; decide))
    · rw [x5 6 3, R9 6 (by decide)]
      exact (b5 _ (by rw [d3k]; decide)).trans (c5c _ d3.2.1 (by rw [d3k]; decide))
    · rw [x5 6 0, R9 6 (by decide)]
    · exact (b5 _ (by rw [d1k]; decide)).trans (c5b _ d1.2.1 (by rw [d1k]; decide))
    · rw [xp 4 0, R9 4 (by decide)]
      exact (b5 _ (by rw [d2k]; decide)).trans (c5b _ d2.2.1 (by rw [d2k]; decide))
end EM

