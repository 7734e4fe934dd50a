section ED
variable {w : rk_W} {l : Launch} {M : rk_M} {d mc ms : Nat} {G : List Frame → Array Value → State → State → Prop} {pc : Nat} {ls : List (Nat × rk_V)} {st : List rk_V} {Sh : rk_Sh} {I : rk_Mm} {R : rk_Rm}
theorem rk_zc {c c' z z' : Nat} (h1 : c = c') (h2 : z = z') (kk : rk_Wp w l M d mc ms G pc ls st (Sh, c', z') I R) : rk_Wp w l M d mc ms G pc ls st (Sh, c, z) I R := by
  subst h1
  subst h2
  exact kk
theorem rk_rkA {k t n ek f : Nat} (h : rk_kd k = .inr (t, n, ek)) : rk_rk k f = if f < n then ek else 0 := by simp only [rk_rk, h]
/-- an array that is being filled: its first k places are new, and apart -/
def cn_fill (Sh : rk_Sh) (u : rk_S) (K ek q k : Nat) : Prop := u.1.2 q = K + 50 ∧ Sh.2 q = 0 ∧ (∀ i, i < k → cn_n Sh u ek (u.2.2 K q i)) ∧ ∀ i j, i < k → j < k → u.2.2 K q i = u.2.2 K q j → i = j
theorem cn_fill.next {u u2 : rk_S} {K ek q k v : Nat} (h : cn_fill Sh u K ek q k) (h0 : ek ≠ 0) (hS : ∀ a, Sh.2 a ≠ 0 → u.1.2 a = Sh.2 a) (hk : ∀ a, u.1.2 a ≠ 0 → u2.1.2 a = u.1.2 a) (hR : ∀ j, j ≠ k → u2.2.2 K q j = u.2.2 K q j) (hv : u2.2.2 K q k = v) (v1 : u2.1.2 v = ek) (v2 : u.1.2 v = 0) : cn_fill Sh u2 K ek q (k + 1) := by
  obtain ⟨f1, f2, f3, f4⟩ := h
  have old : ∀ i, i < k → u.2.2 K q i ≠ v := fun i hi z => by
    have g := (f3 i hi).1
    rw [z, v2] at g
    exact h0 g.symm
  refine ⟨by rw [hk q (by rw [f1]; omega)]; exact f1, f2, fun i hi => ?_, fun i j hi hj e => ?_⟩
  · by_cases e : i = k
    · subst e
      rw [hv]
      exact ⟨v1, Classical.byContradiction fun z => by
        have g := hS v z
        rw [v2] at g
        exact z g.symm⟩
    · rw [hR i e]
      have g := f3 i (by omega)
      exact ⟨by rw [hk _ (by rw [g.1]; exact h0)]; exact g.1, g.2⟩
  · by_cases ei : i = k <;> by_cases ej : j = k
    · omega
    · rw [ei, hv, hR j ej] at e
      exact absurd e.symm (old j (by omega))
    · rw [ej, hv, hR i ei] at e
      exact absurd e (old i (by omega))
    · rw [hR i ei, hR j ej] at e
      exact f4 i j (by omega) (by omega) e
/-- an array all of whose places are new objects of a kind -/
def cn_arr (Sh : rk_Sh) (u : rk_S) (K n ek q : Nat) : Prop := cn_n Sh u K q ∧ (∀ i, i < n → cn_n Sh u ek (u.2.2 K q i)) ∧ ∀ i j, i < n → j < n → u.2.2 K q i = u.2.2 K q j → i = j
theorem cn_fill.done {u : rk_S} {K ek q n : Nat} (h : cn_fill Sh u K ek q n) (h0 : ek ≠ K + 50) : cn_arr Sh (rk_pS u.1 q K, u.2) K n ek q := by
  obtain ⟨f1, f2, f3, f4⟩ := h
  refine ⟨⟨va_up_self _ _ _, f2⟩, fun i hi => ⟨?_, (f3 i hi).2⟩, f4⟩
  show va_up u.1.2 q K (u.2.2 K q i) = ek
  rw [va_up_ne _ _ (fun z => by have g := (f3 i hi).1; rw [z, f1] at g; exact h0 g.symm)]
  exact (f3 i hi).1
end ED
section EE
variable {w : rk_W} {l : Launch} {Sh : rk_Sh} {I : rk_Mm} {R : rk_Rm}
/-- a step of a loop that makes one object of no references and stores it -/
theorem cn_step {u : rk_S} {K ek q k v s : Nat} {R2 : rk_Rm} (h0 : ek ≠ 0) (hK : ∀ a, Sh.2 a ≠ 0 → u.1.2 a = Sh.2 a) (hf : cn_f Sh I R u s) (hfl : cn_fill Sh u K ek q k) (hv : u.1.2 v = 0 ∧ v ≠ 0) (e : R2 = rk_uR (rk_nR u.2.2 v) K q k v) : (∀ a, Sh.2 a ≠ 0 → (rk_nS u.1 v ek).2 a = Sh.2 a) ∧ cn_f Sh I R (rk_nS u.1 v ek, rk_nI u.2.1 v, R2) s ∧ cn_fill Sh (rk_nS u.1 v ek, rk_nI u.2.1 v, R2) K ek q (k + 1) ∧ ∀ c j, (c ≠ K ∨ s ≠ q) → s ≠ v → R2 c s j = u.2.2 c s j := by
  have hne : ∀ a, u.1.2 a ≠ 0 → a ≠ v := fun a h z => h (by rw [z]; exact hv.1)
  have hq : q ≠ v := hne q (by rw [hfl.1]; omega)
  have hqn : ∀ a, Sh.2 a ≠ 0 → a ≠ q := fun a h z => h (by rw [z]; exact hfl.2.1)
  refine ⟨fun a h => ?_, fun a h => ⟨fun c j => ?_, fun hs c j => ?_⟩, hfl.next (v := v) h0 hK (fun a h => va_up_ne _ _ (hne a h)) (fun j hj => ?_) (by show R2 K q k = v; rw [e, rk_uR_s]) (va_up_self _ _ _) hv.1, fun c j hc hsv => ?_⟩
  · show va_up u.1.2 v ek a = Sh.2 a
    rw [va_up_ne _ _ (hne a (by rw [hK a h]; exact h))]
    exact hK a h
  · show rk_nI u.2.1 v c a j = I c a j
    rw [rk_nI_n (hne a (by rw [hK a h]; exact h))]
    exact (hf a h).1 c j
  · show R2 c a j = R c a j
    rw [e, rk_uR_n (fun z => hqn a h z.2.1), rk_nR_n (hne a (by rw [hK a h]; exact h))]
    exact (hf a h).2 hs c j
  · show R2 K q j = u.2.2 K q j
    rw [e, rk_uR_n (fun z => hj z.2.2), rk_nR_n hq]
  · rw [e, rk_uR_n (fun z => hc.elim (fun y => y z.1) (fun y => y z.2.1)), rk_nR_n hsv]
theorem cX0_init_l {s q : Nat} {Q : rk_S → Prop} (hs : Sh.2 s = 51) (hQ : ∀ u : rk_S, cn_f Sh I R u s → u.2.2 1 s 0 = q → cn_arr Sh u 13 16 3 q → Q u) : ∀ (n k : Nat) (u : rk_S), k + n = 16 → (∀ a, Sh.2 a ≠ 0 → u.1.2 a = Sh.2 a) → cn_f Sh I R u s → cn_fill Sh u 13 3 q k → u.2.2 1 s 0 = q → rk_Wp w l rk_mX0_init 2 17 128 (rk_G w (fun r u => r = none ∧ (∀ a, Sh.2 a ≠ 0 → u.1.2 a = Sh.2 a) ∧ Q u) 17 128) 15 [(0, rk_a 51 s), (1, rk_i (nI k))] [] (u.1, 1 + k, 16 + 7 * k) u.2.1 u.2.2 := by
  intro n
  induction n with
  | zero =>
    intro k u hk hK hf hfl h0
    obtain rfl : k = 16 := by omega
    have hqn : ∀ a, Sh.2 a ≠ 0 → a ≠ q := fun a h z => h (by rw [z]; exact hfl.2.1)
    refine rk_iload_n 1 dX0_init_15 rfl rfl ?_
    refine rk_bipush 16 dX0_init_16 (by decide) ?_
    refine rk_icmp_ge 40 dX0_init_18 (by decide) (fun qz18 => ?_) (fun qz18 => ?_)
    · skip
      refine rk_pubg 13 (by decide) hfl.1 (fun f hf2 => ?_) rfl rfl ?_
      · rw [rk_rkA (k := 13) rfl] at hf2 ⊢
        by_cases h16 : f < 16
        · rw [if_pos h16]; exact (hfl.2.2.1 f h16).1
        · rw [if_neg h16] at hf2; exact absurd rfl hf2
      · refine rk_vret dX0_init_40 rfl (by dsimp only; omega) ?_
        exact ⟨rfl, fun a h => by show va_up u.1.2 q 13 a = Sh.2 a; rw [va_up_ne _ _ (hqn a h)]; exact hK a h, hQ (rk_pS u.1 q 13, u.2) hf h0 (hfl.done (by decide))⟩
    · skip
      exact absurd (Int32.le_refl _) qz18
  | succ n ih =>
    intro k u hk hK hf hfl h0
    have hlt : ¬ (16 : Int32) ≤ nI k := nI_ge (b := 16) (by omega) (by decide)
    have hin : vp_in (nI k) 16 := vp_in_nI (by omega) (by omega)
    refine rk_iload_n 1 dX0_init_15 rfl rfl ?_
    refine rk_bipush 16 dX0_init_16 (by decide) ?_
    refine rk_icmp_ge 40 dX0_init_18 (by decide) (fun qz18 => ?_) (fun qz18 => ?_)
    · skip
      exact absurd qz18 hlt
    · skip
      refine rk_aload_n 0 dX0_init_21 rfl rfl ?_
      refine rk_gr1_0 63 rk_kX0_11 dX0_init_22 (by rw [h0]; exact hfl.1) (by decide) ?_
      rw [h0]
      refine rk_iload_n 1 dX0_init_25 rfl rfl ?_
      refine rk_nw3 (by exact rk_inT 137 (by decide +kernel) (by decide +kernel)) (by first | omega | (dsimp only; omega)) (by first | omega | (dsimp only; omega)) dX0_init_26 (fun nz1 hn1 => ?_)
      refine rk_pc (pc' := 29) rfl ?_
      refine rk_dup dX0_init_29 rfl ?_
      refine rk_cIeN _ _ _ _ (cX2_init_s) rk_eX2_init rfl rk_nX0_17 dX0_init_30 rfl (by first | omega | (dsimp only; omega)) (by first | omega | (dsimp only; omega)) (Nat.le_of_ble_eq_true rfl) (fun uz1 hz1 => ?_)
      obtain ⟨-, hu⟩ := hz1
      subst hu
      refine rk_sr13 dX0_init_33 (by exact hin) (fun Rz2 eRz2 => ?_)
      rw [nI_clamp (by omega)] at eRz2
      obtain ⟨g1, g2, g3, g4⟩ := cn_step (by decide) hK hf hfl hn1 eRz2
      have hsv : s ≠ nz1 := fun z => by have g := hn1.1; rw [← z, hK s (by rw [hs]; decide), hs] at g; cases g
      refine rk_iinc 1 (ls' := [(1, _), (0, _)]) dX0_init_34 (by decide) rfl (by decide) rfl ?_
      refine rk_goto 15 dX0_init_37 (by decide) ?_
      refine rk_ord [0, 1] (ls' := [(0, _), (1, _)]) rfl ?_
      rw [nI_1]
      refine rk_zc (c' := 1 + (k + 1)) (z' := 16 + 7 * (k + 1)) (by dsimp only; omega) (by dsimp only; omega) ?_
      exact ih (k + 1) _ (by omega) g1 g2 g3 ((g4 1 0 (Or.inl (by decide)) hsv).trans h0)
theorem cX0_init_s {s : Nat} (hs : Sh.2 s = 51) : rk_K w l rk_mX0_init 2 17 128 [rk_a 51 s] Sh I R (fun u => cn_f Sh I R u s ∧ cn_arr Sh u 13 16 3 (u.2.2 1 s 0)) := by
  refine rk_bK (ls := [(0, _)]) (by decide) rfl (Nat.le_of_ble_eq_true rfl) ?_
  refine rk_aload_n 0 dX0_init_0 rfl rfl ?_
  refine rk_oinit (by exact rk_inT 136 (by decide +kernel) (by decide +kernel)) rk_oin rk_oco dX0_init_1 (by decide) (Nat.le_of_ble_eq_true rfl) ?_
  refine rk_aload_n 0 dX0_init_4 rfl rfl ?_
  refine rk_bipush 16 dX0_init_5 (by decide) ?_
  refine rk_nq13 (by exact rk_inT 137 (by decide +kernel) (by decide +kernel)) (by decide) (by first | omega | (dsimp only; omega)) (by first | omega | (dsimp only; omega)) dX0_init_7 (fun nz1 hn1 => ?_)
  refine rk_pf1_0 rfl rfl rk_kX0_11 (by decide) dX0_init_10 (fun Rz1 eRz1 => ?_)
  refine rk_iconst 0 dX0_init_13 (by decide) ?_
  refine rk_pc (pc' := 14) rfl ?_
  refine rk_istore_n 1 (ls' := [(1, _), (0, _)]) dX0_init_14 rfl (by decide) rfl ?_
  refine rk_ord [0, 1] (ls' := [(0, _), (1, _)]) rfl ?_
  obtain ⟨a1, a0⟩ := hn1
  have s1 : s ≠ nz1 := fun z => by rw [z, a1] at hs; cases hs
  have ne1 : ∀ a, Sh.2 a ≠ 0 → a ≠ nz1 := fun a h z => h (by rw [z]; exact a1)
  refine cX0_init_l hs (q := nz1) (fun u h1 h2 h3 => ⟨h1, by rw [h2]; exact h3⟩) 16 0 (rk_nS Sh nz1 63, rk_nI I nz1, Rz1) (by omega) (fun a h => va_up_ne _ _ (ne1 a h)) (fun a h => ⟨fun c j => rk_nI_n (ne1 a h), fun hs2 c j => ?_⟩) ⟨va_up_self _ _ _, a1, fun i hi => absurd hi (Nat.not_lt_zero i), fun i j hi => absurd hi (Nat.not_lt_zero i)⟩ (by show Rz1 1 s 0 = nz1; rw [eRz1, rk_uR_s])
  show Rz1 c a j = R c a j
  rw [eRz1, rk_uR_n (fun z => hs2 z.2.1), rk_nR_n (ne1 a h)]
end EE

