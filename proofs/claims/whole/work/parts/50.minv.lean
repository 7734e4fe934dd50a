section MI
/-- the orders are well made -/
def sp_bo (N : Nat → Int32) : Prop := ∃ oc, oc ≤ 16 ∧ N 13 = nI oc ∧ ∀ o, o < oc → sp_ov N o ∧ (∃ n, 1 ≤ n ∧ n ≤ 20 ∧ N (220 + 7 * o + 3) = nI n) ∧ (∃ du, du ≤ 3101 ∧ N (220 + 7 * o + 5) = nI du)
def sp_dy (N : Nat → Int32) : Prop := ∃ t, t ≤ 3000 ∧ N 10 = nI t
def sp_rl (N : Nat → Int32) : Prop := (∀ s, s < 10 → sp_lst s ≤ N s ∧ N s ≤ sp_mst s) ∧ ∀ f, f < 3 → (1 ≤ N (20 + 3 * f) ∧ N (20 + 3 * f) ≤ 200) ∧ 10 ≤ N (20 + 3 * f + 1) ∧ N (20 + 3 * f + 1) ≤ 60
/-- the row of the yard is well made; T bounds all splices and pieces together -/
def sp_iv (T : Int) (N : Nat → Int32) : Prop := (∃ c, sp_pv T N c) ∧ sp_bo N ∧ sp_dy N ∧ sp_rl N
theorem sp_pv_fr {T : Int} {N M : Nat → Int32} {c : Nat} (h : sp_pv T N c) (e : ∀ j, j = 12 ∨ (50 ≤ j ∧ j < 218) → M j = N j) : sp_pv T M c := by
  obtain ⟨g1, g2, g3, g4, g5⟩ := h
  refine ⟨g1, by rw [e 12 (Or.inl rfl)]; exact g2, fun i hi => ?_, fun i hi => ?_, ?_⟩
  · rw [e _ (Or.inr (by omega))]; exact g3 i hi
  · rw [e _ (Or.inr (by omega)), e _ (Or.inr (by omega))]; exact g4 i hi
  · rw [sp_sg_c (fun i hi => by rw [e _ (Or.inr (by omega))])]; exact g5
theorem sp_pv_T {T T' : Int} {N : Nat → Int32} {c : Nat} (h : sp_pv T N c) (e : T ≤ T') : sp_pv T' N c := ⟨h.1, h.2.1, h.2.2.1, h.2.2.2.1, Int.le_trans h.2.2.2.2 e⟩
theorem sp_bo_fr {N M : Nat → Int32} (h : sp_bo N) (e : ∀ j, j = 13 ∨ (220 ≤ j ∧ j < 332) → M j = N j) : sp_bo M := by
  obtain ⟨oc, h1, h2, h3⟩ := h
  refine ⟨oc, h1, by rw [e 13 (Or.inl rfl)]; exact h2, fun o ho => ?_⟩
  obtain ⟨⟨⟨g, hg, hg0⟩, hl⟩, ⟨n, hn1, hn2, hn3⟩, du, hd, hd2⟩ := h3 o ho
  exact ⟨⟨⟨g, hg, by rw [e _ (Or.inr (by omega))]; exact hg0⟩, by rw [e _ (Or.inr (by omega))]; exact hl⟩, ⟨n, hn1, hn2, by rw [e _ (Or.inr (by omega))]; exact hn3⟩, du, hd, by rw [e _ (Or.inr (by omega))]; exact hd2⟩
theorem sp_rl_fr {N M : Nat → Int32} (h : sp_rl N) (e : ∀ j, j < 10 ∨ (20 ≤ j ∧ j < 29 ∧ (j - 20) % 3 ≠ 2) → M j = N j) : sp_rl M := by
  refine ⟨fun s hs => by rw [e s (Or.inl hs)]; exact h.1 s hs, fun f hf => ?_⟩
  rw [e (20 + 3 * f) (Or.inr (by omega)), e (20 + 3 * f + 1) (Or.inr (by omega))]
  exact h.2 f hf
theorem sp_dy_fr {N M : Nat → Int32} (h : sp_dy N) (e : M 10 = N 10) : sp_dy M := by
  obtain ⟨t, h1, h2⟩ := h
  exact ⟨t, h1, by rw [e]; exact h2⟩
theorem sp_iv_set {T : Int} {N M : Nat → Int32} {s v r : Int32} (h : sp_iv T N) (e : sp_set N s v = (r, some M)) : sp_iv T M := by
  unfold sp_set at e
  split at e
  · next hc =>
    obtain ⟨k, hk, rfl⟩ := rk_in_n (n := 9) rfl (by decide) hc.1
    rw [nI_clamp (by omega)] at e hc
    injection e with e1 e2
    injection e2 with e2
    subst e2
    obtain ⟨⟨c, hp⟩, hb, hd, hr⟩ := h
    refine ⟨⟨c, sp_pv_fr hp (fun j hj => sp_un (by omega))⟩, sp_bo_fr hb (fun j hj => sp_un (by omega)), sp_dy_fr hd (sp_un (by omega)), fun q hq => ?_, fun f hf => ?_⟩
    · by_cases hqk : q = k
      · subst hqk; rw [sp_us]; exact hc.2
      · rw [sp_un hqk]; exact hr.1 q hq
    · rw [sp_un (by omega), sp_un (by omega)]; exact hr.2 f hf
  · cases e
theorem sp_iv_fibre {T : Int} {N M : Nat → Int32} {f st tw r : Int32} (h : sp_iv T N) (e : sp_fibre N f st tw = (r, some M)) : sp_iv T M := by
  unfold sp_fibre at e
  split at e
  · next hf =>
    split at e
    · next hc =>
      obtain ⟨k, hk, rfl⟩ := rk_in_n (n := 2) rfl (by decide) hf
      rw [nI_clamp (by omega)] at e
      injection e with e1 e2
      injection e2 with e2
      subst e2
      obtain ⟨⟨c, hp⟩, hb, hd, hr⟩ := h
      refine ⟨⟨c, sp_pv_fr hp (fun j hj => by rw [sp_un (by omega), sp_un (by omega)])⟩, sp_bo_fr hb (fun j hj => by rw [sp_un (by omega), sp_un (by omega)]), sp_dy_fr hd (by rw [sp_un (by omega), sp_un (by omega)]), fun q hq => ?_, fun g hg => ?_⟩
      · rw [sp_un (by omega), sp_un (by omega)]; exact hr.1 q hq
      · by_cases hgk : g = k
        · subst hgk
          rw [sp_un (by omega), sp_us, sp_us]
          exact hc
        · rw [sp_un (by omega), sp_un (by omega), sp_un (by omega), sp_un (by omega)]
          exact hr.2 g hg
    · cases e
  · cases e
theorem sp_iv_spin {T : Int} {N M : Nat → Int32} {f ft r : Int32} (h : sp_iv T N) (e : sp_spin N f ft = (r, some M)) : sp_iv T M := by
  unfold sp_spin at e
  split at e
  · next hf =>
    split at e
    · split at e
      · obtain ⟨k, hk, rfl⟩ := rk_in_n (n := 2) rfl (by decide) hf
        rw [nI_clamp (by omega)] at e
        injection e with e1 e2
        injection e2 with e2
        subst e2
        obtain ⟨⟨c, hp⟩, hb, hd, hr⟩ := h
        exact ⟨⟨c, sp_pv_fr hp (fun j hj => by rw [sp_un (by omega), sp_un (by omega)])⟩, sp_bo_fr hb (fun j hj => by rw [sp_un (by omega), sp_un (by omega)]), sp_dy_fr hd (by rw [sp_un (by omega), sp_un (by omega)]), sp_rl_fr hr (fun j hj => by rw [sp_un (by omega), sp_un (by omega)])⟩
      · cases e
    · cases e
  · cases e
theorem sp_iv_pass {T : Int} {N M : Nat → Int32} {d r : Int32} (h : sp_iv T N) (e : sp_pass N d = (r, some M)) : sp_iv T M := by
  unfold sp_pass at e
  split at e
  · next hd0 =>
    split at e
    · next hle =>
      injection e with e1 e2
      injection e2 with e2
      subst e2
      obtain ⟨⟨c, hp⟩, hb, ⟨t, ht, ht2⟩, hr⟩ := h
      refine ⟨⟨c, sp_pv_fr hp (fun j hj => by rw [sp_un (by omega), sp_un (by omega), sp_un (by omega)])⟩, sp_bo_fr hb (fun j hj => by rw [sp_un (by omega), sp_un (by omega), sp_un (by omega)]), ?_, sp_rl_fr hr (fun j hj => by rw [sp_un (by omega), sp_un (by omega), sp_un (by omega)])⟩
      obtain ⟨k, hk, rfl⟩ := rk_in_n (x := d) (n := 60) rfl (by decide) ⟨Int32.le_trans (by decide) hd0.1, hd0.2⟩
      rw [ht2, nI_add] at hle
      have hle2 : t + k ≤ 3000 := (nI_leI (b := 3000) (by omega) (by decide)).mp hle
      exact ⟨t + k, hle2, by rw [sp_un (by omega), sp_us, ht2, nI_add]⟩
    · cases e
  · cases e
end MI

