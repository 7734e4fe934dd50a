section EA
variable {w : rk_W} {l : Launch} {M : rk_M} {d mc ms : Nat} {G : List Frame → Array Value → State → State → Prop} {pc : Nat} {ls : List (Nat × rk_V)} {st : List rk_V} {Z : rk_Z} {I : rk_Mm} {R : rk_Rm}
/-- a constructor: what it makes, all that was there keeps its kind -/
def rk_K (w : rk_W) (l : Launch) (M : rk_M) (d mc ms : Nat) (as : List rk_V) (Sh : rk_Sh) (I : rk_Mm) (R : rk_Rm) (Q : rk_S → Prop) : Prop := rk_C w l M d mc ms as (Sh, I, R) (fun r u => r = none ∧ (∀ a, Sh.2 a ≠ 0 → u.1.2 a = Sh.2 a) ∧ Q u)
theorem rk_bK {as : List rk_V} {Sh : rk_Sh} {Q : rk_S → Prop} {ls : List (Nat × rk_V)} (hp : plainName M.1.cls = true) (hls : rk_args 0 as = ls) (hsz : rk_wid as ≤ M.2.2.1) (kk : rk_Wp w l M d mc ms (rk_G w (fun r u => r = none ∧ (∀ a, Sh.2 a ≠ 0 → u.1.2 a = Sh.2 a) ∧ Q u) mc ms) 0 ls [] (Sh, 0, 0) I R) : rk_K w l M d mc ms as Sh I R Q := rk_body hp hls hsz kk
theorem rk_kok2 {kd kd' : Nat → Nat} {v : rk_V} (hk : ∀ a, kd a ≠ 0 → kd' a = kd a) (h : rk_ok w kd v) : rk_ok w kd' v := by
  rcases v with x | x | ⟨k', a'⟩ | i
  · trivial
  · trivial
  · rcases h with h | h
    · have h2 : kd a' = k' := h.2.1
      exact Or.inl ⟨h.1, by show kd' a' = k'; rw [hk a' (by rw [h2]; exact h.2.2)]; exact h2, h.2.2⟩
    · exact Or.inr h
  · exact h
theorem rk_cIe (M' : rk_M) (d' mc' ms' : Nat) {n idx : Nat} {as st0 : List rk_V} {Q' : rk_S → Prop} {k a : Nat} (hC : rk_K w l M' d' mc' ms' (rk_a k a :: as) Z.1 I R Q') (hM : rk_MeI M' n) (hn : as.length = n) (hlink : Cond.methodLink M.1.cls idx M'.1 ∈ rk_tbl) (hd : decode M.2.1 pc = .ok (.invokespecial idx, 3)) (hs : st0 = rk_rev (rk_a k a :: as) st) (hroom : d' + 1 ≤ d ∧ 1 ≤ d') (hZ : Z.2.1 + mc' ≤ mc ∧ Z.2.2 + ms' ≤ ms) (hst : rk_cats st ≤ 8) (kk : ∀ u : rk_S, ((∀ a, Z.1.2 a ≠ 0 → u.1.2 a = Z.1.2 a) ∧ Q' u) → rk_Wp w l M d mc ms G (pc + 3) ls st (u.1, Z.2.1 + mc', Z.2.2 + ms') u.2.1 u.2.2) : rk_Wp w l M d mc ms G pc ls st0 Z I R := by
  subst hs
  intro p e Rm s m args below meth cd H locs la C a1 a2 a3 a4 a5
  refine rk_cI M' d' mc' ms' (st := st) hC hM hn hlink hd rfl hroom hZ hst (fun r u h => ?_) p e Rm s m args below meth cd H locs la C a1 a2 a3 a4 a5
  obtain ⟨rfl, h1, h2⟩ := h
  exact ⟨fun v hv => rk_kok2 h1 ((rk_okrev a1).2 v hv), fun v hv => rk_kok2 h1 (a2 v hv), kk u ⟨h1, h2⟩⟩
theorem rk_cIeN (M' : rk_M) (d' mc' ms' : Nat) {n idx : Nat} {as st0 : List rk_V} {Q' : rk_S → Prop} {host : String} {k a : Nat} (hC : rk_K w l M' d' mc' ms' (rk_a k a :: as) Z.1 I R Q') (hM : rk_MeI M' n) (hn : as.length = n) (hlink : (M.1.cls, idx, M'.1, host) ∈ rk_nest) (hd : decode M.2.1 pc = .ok (.invokespecial idx, 3)) (hs : st0 = rk_rev (rk_a k a :: as) st) (hroom : d' + 1 ≤ d ∧ 1 ≤ d') (hZ : Z.2.1 + mc' ≤ mc ∧ Z.2.2 + ms' ≤ ms) (hst : rk_cats st ≤ 8) (kk : ∀ u : rk_S, ((∀ a, Z.1.2 a ≠ 0 → u.1.2 a = Z.1.2 a) ∧ Q' u) → rk_Wp w l M d mc ms G (pc + 3) ls st (u.1, Z.2.1 + mc', Z.2.2 + ms') u.2.1 u.2.2) : rk_Wp w l M d mc ms G pc ls st0 Z I R := by
  subst hs
  intro p e Rm s m args below meth cd H locs la C a1 a2 a3 a4 a5
  refine rk_cIN M' d' mc' ms' (st := st) hC hM hn hlink hd rfl hroom hZ hst (fun r u h => ?_) p e Rm s m args below meth cd H locs la C a1 a2 a3 a4 a5
  obtain ⟨rfl, h1, h2⟩ := h
  exact ⟨fun v hv => rk_kok2 h1 ((rk_okrev a1).2 v hv), fun v hv => rk_kok2 h1 (a2 v hv), kk u ⟨h1, h2⟩⟩
/-- the types of all references are known, at any place -/
theorem rk_wt (kk : rk_WT Z.1.2 R → rk_Wp w l M d mc ms G pc ls st Z I R) : rk_Wp w l M d mc ms G pc ls st Z I R := by
  intro p e Rm s m args below meth cd H locs la C a1 a2 a3 a4 a5
  exact kk a3.2.2.2.2 p e Rm s m args below meth cd H locs la C a1 a2 a3 a4 a5
end EA
section EB
variable {w : rk_W} {l : Launch} {Sh : rk_Sh} {I : rk_Mm} {R : rk_Rm}
theorem cX4_init_s {s : Nat} : rk_K w l rk_mX4_init 1 0 0 [rk_a 5 s] Sh I R (fun u => u = (Sh, I, R)) := by
  refine rk_bK (ls := [(0, _)]) (by decide) rfl (Nat.le_of_ble_eq_true rfl) ?_
  refine rk_aload_n 0 dX4_init_0 rfl rfl ?_
  refine rk_oinit (by exact rk_inT 72 (by decide +kernel) (by decide +kernel)) rk_oin rk_oco dX4_init_1 (by decide) (Nat.le_of_ble_eq_true rfl) ?_
  refine rk_vret dX4_init_4 rfl (by first | omega | (dsimp only; omega)) ?_
  exact ⟨rfl, fun _ _ => rfl, rfl⟩
theorem cX2_init_s {s : Nat} : rk_K w l rk_mX2_init 1 0 0 [rk_a 3 s] Sh I R (fun u => u = (Sh, I, R)) := by
  refine rk_bK (ls := [(0, _)]) (by decide) rfl (Nat.le_of_ble_eq_true rfl) ?_
  refine rk_aload_n 0 dX2_init_0 rfl rfl ?_
  refine rk_oinit (by exact rk_inT 143 (by decide +kernel) (by decide +kernel)) rk_oin rk_oco dX2_init_1 (by decide) (Nat.le_of_ble_eq_true rfl) ?_
  refine rk_vret dX2_init_4 rfl (by first | omega | (dsimp only; omega)) ?_
  exact ⟨rfl, fun _ _ => rfl, rfl⟩
end EB

