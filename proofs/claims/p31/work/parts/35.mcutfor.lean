section ME
variable {w : rk_W} {l : Launch} {Sh : rk_Sh} {I : rk_Mm} {R : rk_Rm}
noncomputable def sp_bq (N : Nat → Int32) (o : Nat) : Int32 := sp_bp N (sp_P N) (sp_O N o) (sp_c N 12)
/-- one rope is cut for an order from piece q -/
def sp_step (N : Nat → Int32) (o q : Nat) : Nat → Int32 :=
  sp_u (sp_u (sp_u (sp_u (sp_cut N q (N (220 + 7 * o + 2))) (30 + 4 * sp_c N (220 + 7 * o) + 1) (N (30 + 4 * sp_c N (220 + 7 * o) + 1) + sp_yin (N (50 + 7 * q + 4)) (N (220 + 7 * o + 2)) (N (50 + 7 * q + 3)))) (220 + 7 * o + 3) (N (220 + 7 * o + 3) - 1)) 14 (N 14 + 1)) 15 (N 15 + N (220 + 7 * o + 6))
/-- an order is filled as far as it goes, with n ropes at most: the row then, and how many ropes -/
noncomputable def sp_cf (o : Nat) : Nat → (Nat → Int32) → (Nat → Int32) × Nat
  | 0, N => (N, 0)
  | n + 1, N => @ite _ (sp_bq N o < 0) (Classical.propDecidable _) (N, 0) ((sp_cf o n (sp_step N o (sp_bq N o).toNatClampNeg)).1, (sp_cf o n (sp_step N o (sp_bq N o).toNatClampNeg)).2 + 1)
theorem sp_cf0 {o n : Nat} {N : Nat → Int32} (h : sp_bq N o < 0) : sp_cf o n N = (N, 0) := by
  cases n with
  | zero => rfl
  | succ n => exact if_pos h
theorem sp_cf1 {o n q : Nat} {N : Nat → Int32} (h : sp_bq N o = nI q) (hq : q < 24) : sp_cf o (n + 1) N = ((sp_cf o n (sp_step N o q)).1, (sp_cf o n (sp_step N o q)).2 + 1) := by
  have h1 : ¬ sp_bq N o < 0 := by rw [h]; exact nI_pos (by omega)
  have h2 : (sp_bq N o).toNatClampNeg = q := by rw [h]; exact nI_clamp (by omega)
  simp only [sp_cf, h2]
  exact if_neg h1
theorem sp_bq_in {T : Int} {N : Nat → Int32} {o c : Nat} (h : sp_pv T N c) : sp_bq N o = -6 ∨ ∃ q, q < c ∧ sp_bq N o = nI q ∧ sp_su N (sp_P N q) (sp_O N o) := by
  unfold sp_bq
  rw [sp_cN h.2.1 (by have := h.1; omega)]
  exact sp_bp_in N (sp_P N) (sp_O N o) c h.1
theorem sp_step_x {N : Nat → Int32} {o q c f g j : Nat} (hc : N 12 = nI c) (hc2 : c ≤ 24) (hq : q < c) (hf : f < 3) (h0 : N (50 + 7 * q) = nI f) (hg : g < 3) (hg0 : N (220 + 7 * o) = nI g) (hfg : f = g) (h1 : j ≠ 12) (h2 : j ≠ 30 + 4 * g + 3) (h3 : j < 50 ∨ 218 ≤ j) (h4 : j ≠ 30 + 4 * g + 1) (h5 : j ≠ 220 + 7 * o + 3) (h6 : j ≠ 14) (h7 : j ≠ 15) : sp_step N o q j = N j := by
  subst hfg
  have hsc : sp_c N (220 + 7 * o) = f := sp_cN hg0 (by omega)
  simp only [sp_step, hsc]
  rw [sp_un h7, sp_un h6, sp_un h5, sp_un h4, sp_cut_x hc hc2 hq hf h0 h1 h2 h3]
theorem sp_pv_step {T : Int} {N : Nat → Int32} {o q c : Nat} (h : sp_pv T N c) (ho : o < 16) (hq : q < c) (hf0 : 0 < (N (220 + 7 * o + 2)).toInt) (hf : (N (220 + 7 * o + 2)).toInt ≤ (N (50 + 7 * q + 3)).toInt) (hg : sp_c N (220 + 7 * o) < 3) : ∃ c', c' ≤ c ∧ sp_pv T (sp_step N o q) c' := by
  obtain ⟨c', h1, h2⟩ := sp_pv_cut h hq hf0 hf
  refine ⟨c', h1, ?_⟩
  have e : ∀ j, j = 12 ∨ (50 ≤ j ∧ j < 218) → sp_step N o q j = sp_cut N q (N (220 + 7 * o + 2)) j := fun j hj => by
    simp only [sp_step]
    rw [sp_un (by omega), sp_un (by omega), sp_un (by omega), sp_un (by omega)]
  obtain ⟨g1, g2, g3, g4, g5⟩ := h2
  refine ⟨g1, by rw [e 12 (Or.inl rfl)]; exact g2, fun i hi => ?_, fun i hi => ?_, ?_⟩
  · rw [e _ (Or.inr (by omega))]; exact g3 i hi
  · rw [e _ (Or.inr (by omega)), e _ (Or.inr (by omega))]; exact g4 i hi
  · rw [sp_sg_c (fun i hi => by rw [e _ (Or.inr (by omega))])]; exact g5
/-- an order's own numbers are well made -/
def sp_ov (N : Nat → Int32) (o : Nat) : Prop := (∃ g, g < 3 ∧ N (220 + 7 * o + 0) = nI g) ∧ 0 < (N (220 + 7 * o + 2)).toInt
end ME

