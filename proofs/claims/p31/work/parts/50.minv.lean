section MI
/-- the orders are well made -/
def sp_bo (N : Nat → Int32) : Prop := ∃ oc, oc ≤ 16 ∧ N 13 = nI oc ∧ ∀ o, o < oc → sp_ov N o ∧ (∃ n, 1 ≤ n ∧ n ≤ 20 ∧ N (220 + 7 * o + 3) = nI n) ∧ (∃ du, du ≤ 3101 ∧ N (220 + 7 * o + 5) = nI du)
def sp_dy (N : Nat → Int32) : Prop := ∃ t, t ≤ 3000 ∧ N 10 = nI t
def sp_rl (N : Nat → Int32) : Prop := (∀ s, s < 10 → sp_lst s ≤ N s ∧ N s ≤ sp_mst s) ∧ ∀ f, f < 3 → (1 ≤ N (20 + 3 * f) ∧ N (20 + 3 * f) ≤ 200) ∧ 10 ≤ N (20 + 3 * f + 1) ∧ N (20 + 3 * f + 1) ≤ 60
/-- the row of the yard is well made; T bounds all splices and pieces together -/
def sp_iv (T : Int) (N : Nat → Int32) : Prop := (∃ c, sp_pv T N c) ∧ sp_bo N ∧ sp_dy N ∧ sp_rl N
theorem sp_pv_fr {T : Int} {N M : Nat → Int32} {c : Nat} (h : sp_pv T N c) (e : ∀ j, j = 12 ∨ (50 ≤ j ∧ j < 218) → M j = N j) : sp_pv T M c := by
  obtain ⟨g1, g2, g3, g4, g5⟩ := h
  refine ⟨g1, by rw [e 12 (Or.inl rfl)]; exact g2, fun i hi => ?_, fun i hi => ?_, ?_⟩
  · rw [e _ (Or.inr (by omega))]; exact g3 i hi
  · rw [e _ (Or.inr (by omega)), e _ (Or.inr (by omega))]; exact g4 i hi
  · rw [sp_sg_c (fun i hi => by rw [e _ (Or.inr (by omega))])]; exact g5
theorem sp_pv_T {T T' : Int} {N : Nat → Int32} {c : Nat} (h : sp_pv T N c) (e : T ≤ T') : sp_pv T' N c := ⟨h.1, h.2.1, h.2.2.1, h.2.2.2.1, Int.le_trans h.2.2.2.2 e⟩
theorem sp_bo_fr {N M : Nat → Int32} (h : sp_bo N) (e : ∀ j, j = 13 ∨ (220 ≤ j ∧ j < 332) → M j = N j) : sp_bo M := by
  obtain ⟨oc, h1, h2, h3⟩ := h
  refine ⟨oc, h1, by rw [e 13 (Or.inl rfl)]; exact h2, fun o ho => ?_⟩
  obtain ⟨⟨⟨g, hg, hg0⟩, hl⟩, ⟨n, hn1, hn2, hn3⟩, du, hd, hd2⟩ := h3 o ho
  exact ⟨⟨⟨g, hg, by rw [e _ (Or.inr (by omega))]; exact hg0⟩, by rw [e _ (Or.inr (by omega))]; exact hl⟩, ⟨n, hn1, hn2, by rw [e _ (Or.inr (by omega))]; exact hn3⟩, du, hd, by rw [e _ (Or.inr (by omega))]; exact hd2⟩
theorem sp_rl_fr {N M : Nat → Int32} (h : sp_rl N) (e : ∀ j, j < 10 ∨ (20 ≤ j ∧ j < 29 ∧ (j - 20) % 3 ≠ 2) → M j = N j) : sp_rl M := by
  refine ⟨fun s hs => by rw [e s (Or.inl hs)]; exact h.1 s hs, fun f hf => ?_⟩
  rw [e (20 + 3 * f) (Or.inr (by omega)), e (20 + 3 * f + 1) (Or.inr (by omega))]
  exact h.2 f hf
theorem sp_dy_fr {N M : Nat → Int32} (h : sp_dy N) (e : M 10 = N 10) : sp_dy M := by
  obtain ⟨t, h1, h2⟩ := h
  exact ⟨t, h1, by rw [e]; exact h2⟩
theorem sp_iv_set {T : Int} {N M : Nat → Int32} {s v r : Int32} (h : sp_iv T N) (e : sp_set N s v = (r, some M)) : sp_iv T M := by
  unfold sp_set at e
  split at e
  · next hc =>
    obtain ⟨k, hk, rfl⟩ := rk_in_n (n := 9) rfl (by decide) hc.1
    rw [nI_clamp (by omega)] at e hc
    injection e with e1 e2
    injection e2 with e2
    subst e2
    obtain ⟨⟨c, hp⟩, hb, hd, hr⟩ := h
    refine ⟨⟨c, sp_pv_fr hp (fun j hj => sp_un (by omega))⟩, sp_bo_fr hb (fun j hj => sp_un (by omega)), sp_dy_fr hd (sp_un (by omega)), fun q hq => ?_, fun f hf => ?_⟩
    · by_cases hqk : q = k
      · subst hqk; rw [sp_us]; exact hc.2
      · rw [sp_un hqk]; exact hr.1 q hq
    · rw [sp_un (by omega), sp_un (by omega)]; exact hr.2 f hf
  · cases e
theorem sp_iv_fibre {T : Int} {N M : Nat → Int32} {f st tw r : Int32} (h : sp_iv T N) (e : sp_fibre N f st tw = (r, some M)) : sp_iv T M := by
  unfold sp_fibre at e
  split at e
  · next hf =>
    split at e
    · next hc =>
      obtain ⟨k, hk, rfl⟩ := rk_in_n (n := 2) rfl (by decide) hf
      rw [nI_clamp (by omega)] at e
      injection e with e1 e2
      injection e2 with e2
      subst e2
      obtain ⟨⟨c, hp⟩, hb, hd, hr⟩ := h
      refine ⟨⟨c, sp_pv_fr hp (fun j hj => by rw [sp_un (by omega), sp_un (by omega)])⟩, sp_bo_fr hb (fun j hj => by rw [sp_un (by omega), sp_un (by omega)]), sp_dy_fr hd (by rw [sp_un (by omega), sp_un (by omega)]), fun q hq => ?_, fun g hg => ?_⟩
      · rw [sp_un (by omega), sp_un (by omega)]; exact hr.1 q hq
      · by_cases hgk : g = k
        · subst hgk
          rw [sp_un (by omega), sp_us, sp_us]
          exact hc
        · rw [sp_un (by omega), sp_un (by omega), sp_un (by omega), sp_un (by omega)]
          exact hr.2 g hg
    · cases e
  · cases e
theorem sp_iv_spin {T : Int} {N M : Nat → Int32} {f ft r : Int32} (h : sp_iv T N) (e : sp_spin N f ft = (r, some M)) : sp_iv T M := by
  unfold sp_spin at e
  split at e
  · next hf =>
    split at e
    · split at e
      · obtain ⟨k, hk, rfl⟩ := rk_in_n (n := 2) rfl (by decide) hf
        rw [nI_clamp (by omega)] at e
        injection e with e1 e2
        injection e2 with e2
        subst e2
        obtain ⟨⟨c, hp⟩, hb, hd, hr⟩ := h
        exact ⟨⟨c, sp_pv_fr hp (fun j hj => by rw [sp_un (by omega), sp_un (by omega)])⟩, sp_bo_fr hb (fun j hj => by rw [sp_un (by omega), sp_un (by omega)]), sp_dy_fr hd (by rw [sp_un (by omega), sp_un (by omega)]), sp_rl_fr hr (fun j hj => by rw [sp_un (by omega), sp_un (by omega)])⟩
      · cases e
    · cases e
  · cases e
theorem sp_iv_pass {T : Int} {N M : Nat → Int32} {d r : Int32} (h : sp_iv T N) (e : sp_pass N d = (r, some M)) : sp_iv T M := by
  unfold sp_pass at e
  split at e
  · next hd0 =>
    split at e
    · next hle =>
      injection e with e1 e2
      injection e2 with e2
      subst e2
      obtain ⟨⟨c, hp⟩, hb, ⟨t, ht, ht2⟩, hr⟩ := h
      refine ⟨⟨c, sp_pv_fr hp (fun j hj => by rw [sp_un (by omega), sp_un (by omega), sp_un (by omega)])⟩, sp_bo_fr hb (fun j hj => by rw [sp_un (by omega), sp_un (by omega), sp_un (by omega)]), ?_, sp_rl_fr hr (fun j hj => by rw [sp_un (by omega), sp_un (by omega), sp_un (by omega)])⟩
      obtain ⟨k, hk, rfl⟩ := rk_in_n (x := d) (n := 60) rfl (by decide) ⟨Int32.le_trans (by decide) hd0.1, hd0.2⟩
      rw [ht2, nI_add] at hle
      have hle2 : t + k ≤ 3000 := (nI_leI (b := 3000) (by omega) (by decide)).mp hle
      exact ⟨t + k, hle2, by rw [sp_un (by omega), sp_us, ht2, nI_add]⟩
    · cases e
  · cases e
theorem sp_bo_gone {N M : Nat → Int32} {oc o : Nat} (hoc : oc ≤ 16) (h13 : N 13 = nI oc) (ho : o < oc) (h : ∀ q, q < oc → q ≠ o → sp_ov N q ∧ (∃ n, 1 ≤ n ∧ n ≤ 20 ∧ N (220 + 7 * q + 3) = nI n) ∧ (∃ du, du ≤ 3101 ∧ N (220 + 7 * q + 5) = nI du)) (e : ∀ q, q < oc → q ≠ o → ∀ k, k < 7 → M (220 + 7 * q + k) = N (220 + 7 * q + k)) (e13 : M 13 = N 13) : sp_bo (sp_gone M 13 220 o) := by
  have hm13 : M 13 = nI oc := e13.trans h13
  refine ⟨oc - 1, by omega, sp_gone_n hm13 (by omega), fun q hq => ?_⟩
  have hlt : (if q < o then q else q + 1) < oc ∧ (if q < o then q else q + 1) ≠ o := by split <;> omega
  have g : ∀ k, k < 7 → sp_gone M 13 220 o (220 + 7 * q + k) = N (220 + 7 * (if q < o then q else q + 1) + k) := fun k hk => by
    rw [sp_gone_p hm13 (by omega) (by decide) hq hk]
    exact e _ hlt.1 hlt.2 k hk
  obtain ⟨⟨⟨f, hf, hf0⟩, hl⟩, ⟨n, hn1, hn2, hn3⟩, du, hd, hd2⟩ := h _ hlt.1 hlt.2
  exact ⟨⟨⟨f, hf, by rw [g 0 (by decide)]; exact hf0⟩, by rw [g 2 (by decide)]; exact hl⟩, ⟨n, hn1, hn2, by rw [g 3 (by decide)]; exact hn3⟩, du, hd, by rw [g 5 (by decide)]; exact hd2⟩
theorem sp_iv_drop {T : Int} {N M : Nat → Int32} {x r : Int32} (h : sp_iv T N) (e : sp_drop N x = (r, some M)) : sp_iv T M := by
  unfold sp_drop at e
  split at e
  · next hx =>
    obtain ⟨⟨c, hp⟩, ⟨oc, hoc, h13, hb⟩, hd, hr⟩ := h
    obtain ⟨o, ho, rfl⟩ := sp_is_n h13 (by omega) hx
    rw [nI_clamp (by omega)] at e
    injection e with e1 e2
    injection e2 with e2
    subst e2
    have hx : ∀ j, j ≠ 13 → j < 220 → j ≠ 16 → sp_gone (sp_u N 16 (N 16 + N 9 * N (220 + 7 * o + 3))) 13 220 o j = N j := fun j j1 j2 j3 => by
      rw [sp_gone_x (c := oc) (by rw [sp_un (by decide)]; exact h13) (by omega) j1 (Or.inl (by omega)), sp_un j3]
    refine ⟨⟨c, sp_pv_fr hp (fun j hj => hx j (by omega) (by omega) (by omega))⟩, ?_, sp_dy_fr hd (hx 10 (by decide) (by decide) (by decide)), sp_rl_fr hr (fun j hj => hx j (by omega) (by omega) (by omega))⟩
    exact sp_bo_gone hoc h13 ho (fun q hq _ => hb q hq) (fun q hq _ k hk => sp_un (by omega)) (sp_un (by decide))
  · cases e
theorem sp_iv_fill {T : Int} {N M : Nat → Int32} {x r : Int32} (h : sp_iv T N) (e : sp_fill N x = (r, some M)) : sp_iv T M := by
  unfold sp_fill at e
  split at e
  · next hx =>
    split at e
    · cases e
    · obtain ⟨⟨c, hp⟩, ⟨oc, hoc, h13, hb⟩, hd, hr⟩ := h
      obtain ⟨o, ho, rfl⟩ := sp_is_n h13 (by omega) hx
      rw [nI_clamp (by omega)] at e
      obtain ⟨hov, ⟨n, hn1, hn2, hn3⟩, du, hdu, hdu2⟩ := hb o ho
      rw [sp_cN hn3 (by omega)] at e
      injection e with e1 e2
      injection e2 with e2
      subst e2
      obtain ⟨i1, ⟨c', _, i2⟩, i3, i4⟩ := sp_cf_inv (by omega) n c N (by omega) hp hov hn3
      simp only [sp_fillN]
      split
      · next hz =>
        have hx : ∀ j, (j < 12 ∨ (16 ≤ j ∧ j < 30)) → sp_gone (sp_cf o n N).1 13 220 o j = N j := fun j hj => by
          rw [sp_gone_x (c := oc) (by rw [i1 13 (by omega)]; exact h13) (by omega) (by omega) (Or.inl (by omega)), i1 j (by omega)]
        refine ⟨⟨c', sp_pv_fr i2 (fun j hj => sp_gone_x (c := oc) (by rw [i1 13 (by omega)]; exact h13) (by omega) (by omega) (Or.inl (by omega)))⟩, ?_, sp_dy_fr hd (hx 10 (by omega)), sp_rl_fr hr (fun j hj => hx j (by omega))⟩
        exact sp_bo_gone hoc h13 ho (fun q hq _ => hb q hq) (fun q hq hne k hk => i1 _ (by omega)) (i1 13 (by omega))
      · next hz =>
        refine ⟨⟨c', i2⟩, ⟨oc, hoc, by rw [i1 13 (by omega)]; exact h13, fun q hq => ?_⟩, sp_dy_fr hd (i1 10 (by omega)), sp_rl_fr hr (fun j hj => i1 j (by omega))⟩
        obtain ⟨⟨⟨f, hf, hf0⟩, hl⟩, ⟨n2, hn21, hn22, hn23⟩, du2, hdu2, hdu22⟩ := hb q hq
        refine ⟨⟨⟨f, hf, by rw [i1 _ (by omega)]; exact hf0⟩, by rw [i1 _ (by omega)]; exact hl⟩, ?_, du2, hdu2, by rw [i1 _ (by omega)]; exact hdu22⟩
        by_cases hqo : q = o
        · subst hqo
          refine ⟨n - (sp_cf q n N).2, ?_, by omega, i4⟩
          have : ¬ n - (sp_cf q n N).2 = 0 := fun z => hz (by rw [i4, z]; rfl)
          omega
        · exact ⟨n2, hn21, hn22, by rw [i1 _ (by omega)]; exact hn23⟩
  · cases e
theorem sp_iv_test {T : Int} {N M : Nat → Int32} {x r : Int32} (h : sp_iv T N) (e : sp_test N x = (r, some M)) : sp_iv T M := by
  unfold sp_test at e
  split at e
  · next hx =>
    split at e
    · next hle =>
      obtain ⟨⟨c, hp⟩, hb, hd, hr⟩ := h
      have hc24 := hp.1
      obtain ⟨p, hpc, rfl⟩ := sp_is_n hp.2.1 (by omega) hx
      rw [nI_clamp (by omega)] at e hle
      injection e with e1 e2
      injection e2 with e2
      subst e2
      obtain ⟨f, hf, hf0⟩ := hp.2.2.1 p hpc
      have h5 : 1 ≤ N 5 := (hr.1 5 (by decide)).1
      have h5i := Int32.le_iff_toInt_le.mp h5
      obtain ⟨c', _, hp'⟩ := sp_pv_cut hp hpc (by have : (1 : Int32).toInt = 1 := rfl; omega) (Int32.le_iff_toInt_le.mp hle)
      have hsc : sp_c N (50 + 7 * p + 0) = f := sp_cN hf0 (by omega)
      simp only [sp_testN, hsc]
      have hx : ∀ j, j ≠ 12 → j ≠ 30 + 4 * f + 3 → j ≠ 30 + 4 * f + 2 → (j < 50 ∨ 218 ≤ j) → sp_u (sp_cut N p (N 5)) (30 + 4 * f + 2) (N (30 + 4 * f + 2) + sp_yin (N (50 + 7 * p + 4)) (N 5) (N (50 + 7 * p + 3))) j = N j := fun j j1 j2 j3 j4 => by
        rw [sp_un j3, sp_cut_x hp.2.1 hc24 hpc hf hf0 j1 j2 j4]
      exact ⟨⟨c', sp_pv_fr hp' (fun j hj => sp_un (by omega))⟩, sp_bo_fr hb (fun j hj => hx j (by omega) (by omega) (by omega) (by omega)), sp_dy_fr hd (hx 10 (by omega) (by omega) (by omega) (by omega)), sp_rl_fr hr (fun j hj => hx j (by omega) (by omega) (by omega) (by omega))⟩
    · cases e
  · cases e
end MI

