section EI
variable {w : rk_W} {l : Launch} {Sh : rk_Sh} {I : rk_Mm} {R : rk_Rm}
theorem cX5_init_s {s : Nat} (hs : Sh.2 s = 56) : rk_K w l rk_mX5_init 3 3 86 [rk_a 56 s] Sh I R (fun u => cn_f Sh I R u s ∧ cn_n Sh u 4 (u.2.2 6 s 0) ∧ cn_n Sh u 15 (u.2.2 4 (u.2.2 6 s 0) 0) ∧ cn_n Sh u 16 (u.2.2 6 s 3) ∧ u.2.1 4 (u.2.2 6 s 0) 1 = 0) := by
  refine rk_bK (ls := [(0, _)]) (by decide) rfl (Nat.le_of_ble_eq_true rfl) ?_
  refine rk_aload_n 0 dX5_init_0 rfl rfl ?_
  refine rk_oinit (by exact rk_inT 245 (by decide +kernel) (by decide +kernel)) rk_oin rk_oco dX5_init_1 (by decide) (Nat.le_of_ble_eq_true rfl) ?_
  refine rk_aload_n 0 dX5_init_4 rfl rfl ?_
  refine rk_nw4 (by exact rk_inT 246 (by decide +kernel) (by decide +kernel)) (by first | omega | (dsimp only; omega)) (by first | omega | (dsimp only; omega)) dX5_init_5 (fun nz1 hn1 => ?_)
  refine rk_dup dX5_init_8 rfl ?_
  refine rk_cIeN _ _ _ _ (cX3_init_s (va_up_self _ _ _)) rk_eX3_init rfl rk_nX5_11 dX5_init_9 rfl (by first | omega | (dsimp only; omega)) (by first | omega | (dsimp only; omega)) (Nat.le_of_ble_eq_true rfl) (fun uz1 hz1 => ?_)
  obtain ⟨k1, P1, P2⟩ := hz1
  refine rk_pub 4 (by decide) (fun f hf => by
    match f with
    | 0 => exact P2.1
    | 1 => exact absurd rfl hf
    | f + 2 => exact absurd rfl hf) rfl rfl ?_
  refine rk_pc (pc' := 12) rfl ?_
  refine rk_pf6_0 rfl rfl rk_kX5_12 (by decide) dX5_init_12 (fun Rz2 eRz2 => ?_)
  have H1 := cn_mk (I := I) (R := R) (k := 4) (by decide) hn1 k1 P1 eRz2
  refine rk_aload_n 0 dX5_init_15 rfl rfl ?_
  refine rk_iconst 4 dX5_init_16 (by decide) ?_
  refine rk_na16 (by decide) (by first | omega | (dsimp only; omega)) (by first | omega | (dsimp only; omega)) dX5_init_17 (fun nz2 hn2 => ?_)
  refine rk_pf6_3 rfl rfl rk_kX5_18 (by decide) dX5_init_19 (fun Rz3 eRz3 => ?_)
  refine rk_vret dX5_init_22 rfl (by first | omega | (dsimp only; omega)) ?_
  have hs0 : Sh.2 s ≠ 0 := by rw [hs]; decide
  have hs1 : (rk_pS uz1.1 nz1 4).2 s ≠ 0 := by rw [H1.1 s hs0]; exact hs0
  obtain ⟨S1, -⟩ := cn_mkS (I := I) (R := R) hn1 hs0 P1 eRz2
  obtain ⟨b1, b0⟩ := hn2
  have p2 := cn_in P2 (by decide)
  have v1 : (rk_pS uz1.1 nz1 4).2 nz1 = 4 := va_up_self _ _ _
  have nb : ∀ a, (rk_pS uz1.1 nz1 4).2 a ≠ 0 → a ≠ nz2 := fun a h z => h (by rw [z]; exact b1)
  have sn1 : nz1 ≠ s := fun z => hs0 (by rw [← z]; exact hn1.1)
  have n1 : nz1 ≠ nz2 := nb _ (by rw [v1]; decide)
  have r0 : Rz3 6 s 0 = nz1 := by rw [eRz3, rk_uR_n (by simp), rk_nR_n (nb s hs1)]; exact S1
  have r3 : Rz3 6 s 3 = nz2 := by rw [eRz3, rk_uR_s]
  have R4 : ∀ j, Rz3 4 nz1 j = uz1.2.2 4 nz1 j := fun j => by rw [eRz3, rk_uR_n (fun z => absurd z.1 (by decide)), rk_nR_n n1, eRz2, rk_uR_n (fun z => absurd z.1 (by decide))]
  have z0 : ∀ a, (rk_pS uz1.1 nz1 4).2 a = 0 → Sh.2 a = 0 := fun a h => Classical.byContradiction fun z => z (by rw [← H1.1 a z]; exact h)
  refine ⟨rfl, fun a h => ?_, fun a h => ⟨fun c j => ?_, fun hs2 c j => ?_⟩, ?_, ?_, ?_, ?_⟩
  · exact (va_up_ne _ _ (nb a (by rw [H1.1 a h]; exact h))).trans (H1.1 a h)
  · exact (rk_nI_n (nb a (by rw [H1.1 a h]; exact h))).trans ((H1.2 a h).1 c j)
  · show Rz3 c a j = R c a j
    rw [eRz3, rk_uR_n (fun z => hs2 z.2.1), rk_nR_n (nb a (by rw [H1.1 a h]; exact h))]
    exact (H1.2 a h).2 hs2 c j
  · show va_up (rk_pS uz1.1 nz1 4).2 nz2 16 (Rz3 6 s 0) = 4 ∧ Sh.2 (Rz3 6 s 0) = 0
    rw [r0, va_up_ne _ _ n1]
    exact ⟨v1, hn1.1⟩
  · show va_up (rk_pS uz1.1 nz1 4).2 nz2 16 (Rz3 4 (Rz3 6 s 0) 0) = 15 ∧ Sh.2 (Rz3 4 (Rz3 6 s 0) 0) = 0
    rw [r0, R4, va_up_ne _ _ (nb _ (by rw [show (rk_pS uz1.1 nz1 4).2 (uz1.2.2 4 nz1 0) = 15 from p2.1]; decide))]
    exact ⟨p2.1, p2.2.1⟩
  · show va_up (rk_pS uz1.1 nz1 4).2 nz2 16 (Rz3 6 s 3) = 16 ∧ Sh.2 (Rz3 6 s 3) = 0
    rw [r3, va_up_self]
    exact ⟨rfl, z0 _ b1⟩
  · show rk_nI uz1.2.1 nz2 4 (Rz3 6 s 0) 1 = 0
    rw [r0, rk_nI_n n1]
    exact ((P1 nz1 (by rw [show (rk_nS Sh nz1 54).2 nz1 = 54 from va_up_self _ _ _]; decide)).1 4 1).trans rk_nI_s
end EI
section EJ
variable {w : rk_W} {l : Launch} {Sh : rk_Sh} {I : rk_Mm} {R : rk_Rm}
theorem cn_wt {kd : Nat → Nat} {R : rk_Rm} {k a f e : Nat} (hW : rk_WT kd R) (hk : kd a = k) (h50 : k < 50) (he : rk_rk k f = e) (h0 : e ≠ 0) : kd (R k a f) = e := by
  have h := hW a f (by rw [hk]; exact h50) (by rw [hk, he]; exact h0)
  rw [hk, he] at h
  exact h
/-- a stock that stands keeps its shape when only others change -/
theorem cn_ss {kd : Nat → Nat} {R R2 : rk_Rm} {rg rg2 : Nat → Nat} {q r : Nat} (hW : rk_WT kd R) (hq : kd q = 8) (hk : ∀ a, kd a ≠ 0 → kd a < 50 → rg2 a = rg a ∧ ∀ c j, R2 c a j = R c a j) (h : cl_ss rg R q r) : cl_ss rg2 R2 q r := by
  have k0 := cn_wt (f := 0) (e := 20) hW hq (by decide) rfl (by decide)
  have k2 := cn_wt (f := 2) (e := 21) hW hq (by decide) rfl (by decide)
  have k5 : ∀ i, i < 24 → kd (R 20 (R 8 q 0) i) = 5 := fun i hi => cn_wt hW k0 (by decide) ((rk_rkA (k := 20) rfl).trans (if_pos hi)) (by decide)
  have k22 : ∀ i, i < 3 → kd (R 21 (R 8 q 2) i) = 22 := fun i hi => cn_wt hW k2 (by decide) ((rk_rkA (k := 21) rfl).trans (if_pos hi)) (by decide)
  have e8 := (hk q (by omega) (by omega)).2
  have e20 := (hk (R 8 q 0) (by omega) (by omega)).2
  have e21 := (hk (R 8 q 2) (by omega) (by omega)).2
  obtain ⟨h1, h2, h3, h4, h5, h6, h7⟩ := h
  refine ⟨?_, ?_, ?_, fun i hi => ?_, fun i hi => ?_, fun i j hi hj e => ?_, fun i j hi hj e => ?_⟩
  · rw [(hk q (by omega) (by omega)).1]; exact h1
  · rw [e8, (hk _ (by omega) (by omega)).1]; exact h2
  · rw [e8, (hk _ (by omega) (by omega)).1]; exact h3
  · rw [e8, e20]
    have := k5 i hi
    rw [(hk _ (by omega) (by omega)).1]; exact h4 i hi
  · rw [e8, e21]
    have := k22 i hi
    rw [(hk _ (by omega) (by omega)).1]; exact h5 i hi
  · rw [e8, e20, e20] at e; exact h6 i j hi hj e
  · rw [e8, e21, e21] at e; exact h7 i j hi hj e
theorem cn_ys {kd : Nat → Nat} {R R2 : rk_Rm} {rg rg2 : Nat → Nat} {y t : Nat} (hW : rk_WT kd R) (hq : kd y = 10) (hk : ∀ a, kd a ≠ 0 → kd a < 50 → rg2 a = rg a ∧ ∀ c j, R2 c a j = R c a j) (h : cl_ys rg R y t) : cl_ys rg2 R2 y t := by
  have k0 := cn_wt (f := 0) (e := 7) hW hq (by decide) rfl (by decide)
  have k1 := cn_wt (f := 1) (e := 8) hW hq (by decide) rfl (by decide)
  have k2 := cn_wt (f := 2) (e := 1) hW hq (by decide) rfl (by decide)
  have m0 := cn_wt (f := 0) (e := 17) hW k0 (by decide) rfl (by decide)
  have m1 := cn_wt (f := 1) (e := 18) hW k0 (by decide) rfl (by decide)
  have m2 := cn_wt (f := 2) (e := 19) hW k0 (by decide) rfl (by decide)
  have b0 := cn_wt (f := 0) (e := 13) hW k2 (by decide) rfl (by decide)
  have b3 : ∀ i, i < 16 → kd (R 13 (R 1 (R 10 y 2) 0) i) = 3 := fun i hi => cn_wt hW b0 (by decide) ((rk_rkA (k := 13) rfl).trans (if_pos hi)) (by decide)
  have ey := (hk y (by omega) (by omega)).2
  have er := (hk (R 10 y 0) (by omega) (by omega)).2
  have eb := (hk (R 10 y 2) (by omega) (by omega)).2
  have ea := (hk (R 1 (R 10 y 2) 0) (by omega) (by omega)).2
  obtain ⟨h1, ⟨r1, r2, r3, r4⟩, h3, ⟨b1, b2, b4, b5⟩⟩ := h
  refine ⟨by rw [(hk y (by omega) (by omega)).1]; exact h1, ?_, ?_, ?_⟩
  · rw [ey]
    refine ⟨?_, ?_, ?_, ?_⟩
    · rw [(hk _ (by omega) (by omega)).1]; exact r1
    · rw [er, (hk _ (by omega) (by omega)).1]; exact r2
    · rw [er, (hk _ (by omega) (by omega)).1]; exact r3
    · rw [er, (hk _ (by omega) (by omega)).1]; exact r4
  · rw [ey]
    exact cn_ss hW k1 hk h3
  · rw [ey]
    refine ⟨?_, ?_, fun i hi => ?_, fun i j hi hj e => ?_⟩
    · rw [(hk _ (by omega) (by omega)).1]; exact b1
    · rw [eb, (hk _ (by omega) (by omega)).1]; exact b2
    · rw [eb, ea]
      have := b3 i hi
      rw [(hk _ (by omega) (by omega)).1]; exact b4 i hi
    · rw [eb, ea, ea] at e; exact b5 i j hi hj e
end EJ

