section EG
variable {w : rk_W} {l : Launch} {Sh Sh2 : rk_Sh} {I I2 : rk_Mm} {R R2 : rk_Rm}
/-- all that was there is as it was, but for the references of the one that is made -/
def cn_k (Sh : rk_Sh) (I : rk_Mm) (R : rk_Rm) (u : rk_S) (s : Nat) : Prop := (∀ a, Sh.2 a ≠ 0 → u.1.2 a = Sh.2 a) ∧ cn_f Sh I R u s
theorem cn_k.tr {u u2 : rk_S} {s : Nat} (h : cn_k Sh I R u s) (g : cn_k u.1 u.2.1 u.2.2 u2 s) : cn_k Sh I R u2 s := by
  have al : ∀ a, Sh.2 a ≠ 0 → u.1.2 a ≠ 0 := fun a ha => by rw [h.1 a ha]; exact ha
  refine ⟨fun a ha => (g.1 a (al a ha)).trans (h.1 a ha), fun a ha => ⟨fun c j => ((g.2 a (al a ha)).1 c j).trans ((h.2 a ha).1 c j), fun hs c j => ((g.2 a (al a ha)).2 hs c j).trans ((h.2 a ha).2 hs c j)⟩⟩
/-- a new object made, published and stored into the one that is made -/
theorem cn_mk {u : rk_S} {s v k K f : Nat} {R' : rk_Rm} (hk : 1 ≤ k) (hv : Sh.2 v = 0 ∧ v ≠ 0) (h1 : ∀ a, (rk_nS Sh v (k + 50)).2 a ≠ 0 → u.1.2 a = (rk_nS Sh v (k + 50)).2 a) (h2 : cn_f (rk_nS Sh v (k + 50)) (rk_nI I v) (rk_nR R v) u v) (e : R' = rk_uR u.2.2 K s f v) : cn_k Sh I R (rk_pS u.1 v k, u.2.1, R') s := by
  have ne : ∀ a, Sh.2 a ≠ 0 → a ≠ v := fun a h z => h (by rw [z]; exact hv.1)
  have al : ∀ a, Sh.2 a ≠ 0 → (rk_nS Sh v (k + 50)).2 a = Sh.2 a := fun a h => va_up_ne _ _ (ne a h)
  have al2 : ∀ a, Sh.2 a ≠ 0 → (rk_nS Sh v (k + 50)).2 a ≠ 0 := fun a h => by rw [al a h]; exact h
  refine ⟨fun a h => ?_, fun a h => ⟨fun c j => ?_, fun hs c j => ?_⟩⟩
  · show va_up u.1.2 v k a = Sh.2 a
    rw [va_up_ne _ _ (ne a h), h1 a (al2 a h), al a h]
  · exact ((h2 a (al2 a h)).1 c j).trans (rk_nI_n (ne a h))
  · show R' c a j = R c a j
    rw [e, rk_uR_n (fun z => hs z.2.1)]
    exact ((h2 a (al2 a h)).2 (ne a h) c j).trans (rk_nR_n (ne a h))
theorem cn_mkS {u : rk_S} {s v k K f : Nat} {R' : rk_Rm} (hv : Sh.2 v = 0 ∧ v ≠ 0) (hs : Sh.2 s ≠ 0) (h2 : cn_f (rk_nS Sh v k) (rk_nI I v) (rk_nR R v) u v) (e : R' = rk_uR u.2.2 K s f v) : R' K s f = v ∧ ∀ j, j ≠ f → R' K s j = R K s j := by
  have ne : s ≠ v := fun z => hs (by rw [z]; exact hv.1)
  refine ⟨by rw [e, rk_uR_s], fun j hj => ?_⟩
  rw [e, rk_uR_n (fun z => hj z.2.2)]
  exact ((h2 s (by show va_up Sh.2 v k s ≠ 0; rw [va_up_ne _ _ ne]; exact hs)).2 ne K j).trans (rk_nR_n ne)
/-- a new cell in an object made, when the object is published -/
theorem cn_in {u : rk_S} {v k a K : Nat} (h : cn_n (rk_nS Sh v (k + 50)) u K a) (hK : K ≠ 0) : va_up u.1.2 v k a = K ∧ Sh.2 a = 0 ∧ a ≠ v := by
  obtain ⟨h1, h2⟩ := cn_up0 h.2 (by omega)
  exact ⟨by rw [va_up_ne _ _ h1]; exact h.1, h2, h1⟩
/-- a yard as it is made -/
def cn_y0 (w : rk_W) (u : rk_S) (y : Nat) : Prop := (∀ j, j < 10 → u.2.1 17 (u.2.2 7 (u.2.2 10 y 0) 0) j = (rk_fz w 0).2.2 j) ∧ (∀ j, j < 3 → u.2.1 18 (u.2.2 7 (u.2.2 10 y 0) 1) j = (rk_fz w 3).2.2 j) ∧ (∀ j, j < 3 → u.2.1 19 (u.2.2 7 (u.2.2 10 y 0) 2) j = (rk_fz w 4).2.2 j) ∧ u.2.1 8 (u.2.2 10 y 1) 1 = 0 ∧ (∀ f, f < 3 → ∀ j, u.2.1 22 (u.2.2 21 (u.2.2 8 (u.2.2 10 y 1) 2) f) j = 0) ∧ u.2.1 1 (u.2.2 10 y 2) 1 = 0
end EG
section EH
variable {w : rk_W} {l : Launch} {Sh : rk_Sh} {I : rk_Mm} {R : rk_Rm}
theorem rk_rk7 {f : Nat} {P : Nat → Nat → Prop} (h0 : P 0 17) (h1 : P 1 18) (h2 : P 2 19) (hf : rk_rk 7 f ≠ 0) : P f (rk_rk 7 f) := by
  match f with
  | 0 => exact h0
  | 1 => exact h1
  | 2 => exact h2
  | f + 3 => exact absurd rfl hf
theorem rk_rk8 {f : Nat} {P : Nat → Nat → Prop} (h0 : P 0 20) (h2 : P 2 21) (hf : rk_rk 8 f ≠ 0) : P f (rk_rk 8 f) := by
  match f with
  | 0 => exact h0
  | 1 => exact absurd rfl hf
  | 2 => exact h2
  | f + 3 => exact absurd rfl hf
theorem rk_rk1 {f : Nat} {P : Nat → Nat → Prop} (h0 : P 0 13) (hf : rk_rk 1 f ≠ 0) : P f (rk_rk 1 f) := by
  match f with
  | 0 => exact h0
  | 1 => exact absurd rfl hf
  | f + 2 => exact absurd rfl hf
theorem cX9_init_s {s : Nat} (hw : cl_W w) (hs : Sh.2 s = 60) : rk_K w l rk_mX9_init 3 52 365 [rk_a 60 s] Sh I R (fun u => cn_f Sh I R u s ∧ (u.1.2 (u.2.2 10 s 0) = 7 ∧ u.1.2 (u.2.2 10 s 1) = 8 ∧ u.1.2 (u.2.2 10 s 2) = 1) ∧ cn_y0 w u s ∧ ∀ (rg : Nat → Nat) (t : Nat), rg s = 4 * t → ∃ rg', (∀ a, Sh.2 a ≠ 0 → rg' a = rg a) ∧ cl_ys rg' u.2.2 s t) := by
  refine rk_bK (ls := [(0, _)]) (by decide) rfl (Nat.le_of_ble_eq_true rfl) ?_
  refine rk_aload_n 0 dX9_init_0 rfl rfl ?_
  refine rk_oinit (by exact rk_inT 27 (by decide +kernel) (by decide +kernel)) rk_oin rk_oco dX9_init_1 (by decide) (Nat.le_of_ble_eq_true rfl) ?_
  refine rk_aload_n 0 dX9_init_4 rfl rfl ?_
  refine rk_nw7 (by exact rk_inT 28 (by decide +kernel) (by decide +kernel)) (by first | omega | (dsimp only; omega)) (by first | omega | (dsimp only; omega)) dX9_init_5 (fun nz1 hn1 => ?_)
  refine rk_dup dX9_init_8 rfl ?_
  refine rk_cIe _ _ _ _ (cX6_init_s hw (va_up_self _ _ _)) rk_eX6_init rfl rk_kX9_11 dX9_init_9 rfl (by first | omega | (dsimp only; omega)) (by first | omega | (dsimp only; omega)) (Nat.le_of_ble_eq_true rfl) (fun uz1 hz1 => ?_)
  obtain ⟨k1, P1, P2, P3, P4, P5, P6, P7⟩ := hz1
  refine rk_pub 7 (by decide) (fun f hf => rk_rk7 (P := fun f x => uz1.1.2 (uz1.2.2 7 nz1 f) = x) P2.1 P3.1 P4.1 hf) rfl rfl ?_
  refine rk_pc (pc' := 12) rfl ?_
  refine rk_pf10_0 rfl rfl rk_kX9_12 (by decide) dX9_init_12 (fun Rz2 eRz2 => ?_)
  have H1 := cn_mk (I := I) (R := R) (k := 7) (by decide) hn1 k1 P1 eRz2
  refine rk_aload_n 0 dX9_init_15 rfl rfl ?_
  refine rk_nw8 (by exact rk_inT 58 (by decide +kernel) (by decide +kernel)) (by first | omega | (dsimp only; omega)) (by first | omega | (dsimp only; omega)) dX9_init_16 (fun nz2 hn2 => ?_)
  refine rk_dup dX9_init_19 rfl ?_
  refine rk_cIe _ _ _ _ (cX7_init_s (va_up_self _ _ _)) rk_eX7_init rfl rk_kX9_20 dX9_init_20 rfl (by first | omega | (dsimp only; omega)) (by first | omega | (dsimp only; omega)) (Nat.le_of_ble_eq_true rfl) (fun uz3 hz3 => ?_)
  obtain ⟨k2, Q1, Q2, Q3, Q4⟩ := hz3
  refine rk_pub 8 (by decide) (fun f hf => rk_rk8 (P := fun f x => uz3.1.2 (uz3.2.2 8 nz2 f) = x) Q2.1.1 Q3.1.1 hf) rfl rfl ?_
  refine rk_pf10_1 rfl rfl rk_kX9_21 (by decide) dX9_init_23 (fun Rz4 eRz4 => ?_)
  have H2 := cn_mk (k := 8) (by decide) hn2 k2 Q1 eRz4
  refine rk_aload_n 0 dX9_init_26 rfl rfl ?_
  refine rk_nw1 (by exact rk_inT 131 (by decide +kernel) (by decide +kernel)) (by first | omega | (dsimp only; omega)) (by first | omega | (dsimp only; omega)) dX9_init_27 (fun nz3 hn3 => ?_)
  refine rk_pc (pc' := 30) rfl ?_
  refine rk_dup dX9_init_30 rfl ?_
  refine rk_cIe _ _ _ _ (cX0_init_s (va_up_self _ _ _)) rk_eX0_init rfl rk_kX9_27 dX9_init_31 rfl (by first | omega | (dsimp only; omega)) (by first | omega | (dsimp only; omega)) (Nat.le_of_ble_eq_true rfl) (fun uz5 hz5 => ?_)
  obtain ⟨k3, B1, B2⟩ := hz5
  refine rk_pub 1 (by decide) (fun f hf => rk_rk1 (P := fun f x => uz5.1.2 (uz5.2.2 1 nz3 f) = x) B2.1.1 hf) rfl rfl ?_
  refine rk_pf10_2 rfl rfl rk_kX9_28 (by decide) dX9_init_34 (fun Rz6 eRz6 => ?_)
  have H3 := cn_mk (k := 1) (by decide) hn3 k3 B1 eRz6
  refine rk_vret dX9_init_37 rfl (by first | omega | (dsimp only; omega)) ?_
  have hs0 : Sh.2 s ≠ 0 := by rw [hs]; decide
  have H12 := H1.tr H2
  have H23 := H2.tr H3
  have hs1 : (rk_pS uz1.1 nz1 7).2 s ≠ 0 := by rw [H1.1 s hs0]; exact hs0
  have hs2 : (rk_pS uz3.1 nz2 8).2 s ≠ 0 := by rw [H12.1 s hs0]; exact hs0
  obtain ⟨S1, -⟩ := cn_mkS (I := I) (R := R) hn1 hs0 P1 eRz2
  obtain ⟨S2, T2⟩ := cn_mkS hn2 hs1 Q1 eRz4
  obtain ⟨S3, T3⟩ := cn_mkS hn3 hs2 B1 eRz6
  have r0 : Rz6 10 s 0 = nz1 := (T3 0 (by decide)).trans ((T2 0 (by decide)).trans S1)
  have r1 : Rz6 10 s 1 = nz2 := (T3 1 (by decide)).trans S2
  have r2 : Rz6 10 s 2 = nz3 := S3
  have v1 : (rk_pS uz1.1 nz1 7).2 nz1 = 7 := va_up_self _ _ _
  have v2 : (rk_pS uz3.1 nz2 8).2 nz2 = 8 := va_up_self _ _ _
  have v3 : (rk_pS uz5.1 nz3 1).2 nz3 = 1 := va_up_self _ _ _
  have sn1 : nz1 ≠ s := fun z => hs0 (by rw [← z]; exact hn1.1)
  have sn2 : nz2 ≠ s := fun z => hs1 (by rw [← z]; exact hn2.1)
  have sn3 : nz3 ≠ s := fun z => hs2 (by rw [← z]; exact hn3.1)
  have R7 : ∀ c j, Rz6 c nz1 j = uz1.2.2 c nz1 j := fun c j => ((H23.2 nz1 (by rw [v1]; decide)).2 sn1 c j).trans (by show Rz2 c nz1 j = _; rw [eRz2, rk_uR_n (fun z => sn1 z.2.1)])
  have R8 : ∀ c j, Rz6 c nz2 j = uz3.2.2 c nz2 j := fun c j => ((H3.2 nz2 (by rw [v2]; decide)).2 sn2 c j).trans (by show Rz4 c nz2 j = _; rw [eRz4, rk_uR_n (fun z => sn2 z.2.1)])
  have R1 : ∀ c j, Rz6 c nz3 j = uz5.2.2 c nz3 j := fun c j => by rw [eRz6, rk_uR_n (fun z => sn3 z.2.1)]
  have p2 := cn_in P2 (by decide)
  have p3 := cn_in P3 (by decide)
  have p4 := cn_in P4 (by decide)
  have q2 := cn_in Q2.1 (by decide)
  have q3 := cn_in Q3.1 (by decide)
  have q2i := fun i hi => cn_in (Q2.2.1 i hi) (by decide)
  have q3i := fun i hi => cn_in (Q3.2.1 i hi) (by decide)
  have b2 := cn_in B2.1 (by decide)
  have b2i := fun i hi => cn_in (B2.2.1 i hi) (by decide)
  have z0 : ∀ a, (rk_pS uz1.1 nz1 7).2 a = 0 → Sh.2 a = 0 := fun a h => Classical.byContradiction fun z => z (by rw [← H1.1 a z]; exact h)
  have z1 : ∀ a, (rk_pS uz3.1 nz2 8).2 a = 0 → (rk_pS uz1.1 nz1 7).2 a = 0 := fun a h => Classical.byContradiction fun z => z (by rw [← H2.1 a z]; exact h)
  have nsn : ∀ a, Sh.2 a = 0 → a ≠ s := fun a h z => hs0 (by rw [← z]; exact h)
  have A20 : ∀ j, Rz6 20 (uz3.2.2 8 nz2 0) j = uz3.2.2 20 (uz3.2.2 8 nz2 0) j := fun j => ((H3.2 _ (by rw [show (rk_pS uz3.1 nz2 8).2 (uz3.2.2 8 nz2 0) = 20 from q2.1]; decide)).2 (nsn _ (z0 _ q2.2.1)) 20 j).trans (by show Rz4 20 _ j = _; rw [eRz4, rk_uR_n (fun z => absurd z.1 (by decide))])
  have A21 : ∀ j, Rz6 21 (uz3.2.2 8 nz2 2) j = uz3.2.2 21 (uz3.2.2 8 nz2 2) j := fun j => ((H3.2 _ (by rw [show (rk_pS uz3.1 nz2 8).2 (uz3.2.2 8 nz2 2) = 21 from q3.1]; decide)).2 (nsn _ (z0 _ q3.2.1)) 21 j).trans (by show Rz4 21 _ j = _; rw [eRz4, rk_uR_n (fun z => absurd z.1 (by decide))])
  have A13 : ∀ j, Rz6 13 (uz5.2.2 1 nz3 0) j = uz5.2.2 13 (uz5.2.2 1 nz3 0) j := fun j => by rw [eRz6, rk_uR_n (fun z => absurd z.1 (by decide))]
  refine ⟨rfl, (H12.tr H3).1, (H12.tr H3).2, ⟨?_, ?_, ?_⟩, ⟨fun j hj => ?_, fun j hj => ?_, fun j hj => ?_, ?_, fun f hf j => ?_, ?_⟩, fun rg t hrg => ?_⟩
  · show (rk_pS uz5.1 nz3 1).2 (Rz6 10 s 0) = 7
    rw [r0, H23.1 nz1 (by rw [v1]; decide)]; exact v1
  · show (rk_pS uz5.1 nz3 1).2 (Rz6 10 s 1) = 8
    rw [r1, H3.1 nz2 (by rw [v2]; decide)]; exact v2
  · show (rk_pS uz5.1 nz3 1).2 (Rz6 10 s 2) = 1
    rw [r2]; exact v3
  · show uz5.2.1 17 (Rz6 7 (Rz6 10 s 0) 0) j = _
    rw [r0, R7]
    exact ((H23.2 _ (by rw [show (rk_pS uz1.1 nz1 7).2 (uz1.2.2 7 nz1 0) = 17 from p2.1]; decide)).1 17 j).trans (P5 j hj)
  · show uz5.2.1 18 (Rz6 7 (Rz6 10 s 0) 1) j = _
    rw [r0, R7]
    exact ((H23.2 _ (by rw [show (rk_pS uz1.1 nz1 7).2 (uz1.2.2 7 nz1 1) = 18 from p3.1]; decide)).1 18 j).trans (P6 j hj)
  · show uz5.2.1 19 (Rz6 7 (Rz6 10 s 0) 2) j = _
    rw [r0, R7]
    exact ((H23.2 _ (by rw [show (rk_pS uz1.1 nz1 7).2 (uz1.2.2 7 nz1 2) = 19 from p4.1]; decide)).1 19 j).trans (P7 j hj)
  · show uz5.2.1 8 (Rz6 10 s 1) 1 = 0
    rw [r1]
    exact ((H3.2 nz2 (by rw [v2]; decide)).1 8 1).trans (((Q1 nz2 (by rw [show (rk_nS (rk_pS uz1.1 nz1 7) nz2 58).2 nz2 = 58 from va_up_self _ _ _]; decide)).1 8 1).trans rk_nI_s)
  · show uz5.2.1 22 (Rz6 21 (Rz6 8 (Rz6 10 s 1) 2) f) j = 0
    rw [r1, R8, A21]
    exact ((H3.2 _ (by rw [show (rk_pS uz3.1 nz2 8).2 (uz3.2.2 21 (uz3.2.2 8 nz2 2) f) = 22 from (q3i f hf).1]; decide)).1 22 j).trans (Q4 f hf j)
  · show uz5.2.1 1 (Rz6 10 s 2) 1 = 0
    rw [r2]
    exact ((B1 nz3 (by rw [show (rk_nS (rk_pS uz3.1 nz2 8) nz3 51).2 nz3 = 51 from va_up_self _ _ _]; decide)).1 1 1).trans rk_nI_s
  · obtain ⟨rg', hrg'⟩ : ∃ rg' : Nat → Nat, rg' = fun a => if Sh.2 a ≠ 0 then rg a else if (rk_pS uz1.1 nz1 7).2 a ≠ 0 then 4 * t + 1 else if (rk_pS uz3.1 nz2 8).2 a ≠ 0 then 4 * t + 2 else 4 * t + 3 := ⟨_, rfl⟩
    have g0 : ∀ a, Sh.2 a ≠ 0 → rg' a = rg a := fun a h => by rw [hrg']; exact if_pos h
    have g1 : ∀ a, Sh.2 a = 0 → (rk_pS uz1.1 nz1 7).2 a ≠ 0 → rg' a = 4 * t + 1 := fun a h h2 => by rw [hrg']; exact (if_neg (fun z => z h)).trans (if_pos h2)
    have g2 : ∀ a, (rk_pS uz1.1 nz1 7).2 a = 0 → (rk_pS uz3.1 nz2 8).2 a ≠ 0 → rg' a = 4 * t + 2 := fun a h h2 => by rw [hrg']; exact (if_neg (fun z => z (z0 a h))).trans ((if_neg (fun z => z h)).trans (if_pos h2))
    have g3 : ∀ a, (rk_pS uz3.1 nz2 8).2 a = 0 → rg' a = 4 * t + 3 := fun a h => by rw [hrg']; exact (if_neg (fun z => z (z0 a (z1 a h)))).trans ((if_neg (fun z => z (z1 a h))).trans (if_neg (fun z => z h)))
    refine ⟨rg', g0, (g0 s hs0).trans hrg, ?_, ?_, ?_⟩
    · show cl_rs rg' Rz6 (Rz6 10 s 0) (4 * t + 1)
      rw [r0]
      refine ⟨g1 _ hn1.1 (by rw [v1]; decide), ?_, ?_, ?_⟩
      · rw [R7]; exact g1 _ p2.2.1 (by rw [show (rk_pS uz1.1 nz1 7).2 (uz1.2.2 7 nz1 0) = 17 from p2.1]; decide)
      · rw [R7]; exact g1 _ p3.2.1 (by rw [show (rk_pS uz1.1 nz1 7).2 (uz1.2.2 7 nz1 1) = 18 from p3.1]; decide)
      · rw [R7]; exact g1 _ p4.2.1 (by rw [show (rk_pS uz1.1 nz1 7).2 (uz1.2.2 7 nz1 2) = 19 from p4.1]; decide)
    · show cl_ss rg' Rz6 (Rz6 10 s 1) (4 * t + 2)
      rw [r1]
      refine ⟨g2 _ hn2.1 (by rw [v2]; decide), ?_, ?_, fun i hi => ?_, fun f hf => ?_, fun i j hi hj e => ?_, fun i j hi hj e => ?_⟩
      · rw [R8]; exact g2 _ q2.2.1 (by rw [show (rk_pS uz3.1 nz2 8).2 (uz3.2.2 8 nz2 0) = 20 from q2.1]; decide)
      · rw [R8]; exact g2 _ q3.2.1 (by rw [show (rk_pS uz3.1 nz2 8).2 (uz3.2.2 8 nz2 2) = 21 from q3.1]; decide)
      · rw [R8, A20]; exact g2 _ (q2i i hi).2.1 (by rw [show (rk_pS uz3.1 nz2 8).2 (uz3.2.2 20 (uz3.2.2 8 nz2 0) i) = 5 from (q2i i hi).1]; decide)
      · rw [R8, A21]; exact g2 _ (q3i f hf).2.1 (by rw [show (rk_pS uz3.1 nz2 8).2 (uz3.2.2 21 (uz3.2.2 8 nz2 2) f) = 22 from (q3i f hf).1]; decide)
      · rw [R8, A20, A20] at e; exact Q2.2.2 i j hi hj e
      · rw [R8, A21, A21] at e; exact Q3.2.2 i j hi hj e
    · show cl_bs rg' Rz6 (Rz6 10 s 2) (4 * t + 3)
      rw [r2]
      refine ⟨g3 _ hn3.1, ?_, fun i hi => ?_, fun i j hi hj e => ?_⟩
      · rw [R1]; exact g3 _ b2.2.1
      · rw [R1, A13]; exact g3 _ (b2i i hi).2.1
      · rw [R1, A13, A13] at e; exact B2.2.2 i j hi hj e
end EH

