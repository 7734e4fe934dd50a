section MQ1
variable {w : rk_W} {l : Launch} {Sh : rk_Sh} {I : rk_Mm} {R : rk_Rm}
def sp_ispc (N : Nat → Int32) (p : Int32) : Prop := 0 ≤ p ∧ p ≤ N 12 - 1
def sp_isor (N : Nat → Int32) (p : Int32) : Prop := 0 ≤ p ∧ p ≤ N 13 - 1
theorem sp_is_n {x y : Int32} {c : Nat} (hc : y = nI c) (hc2 : c < 2 ^ 31) (h : 0 ≤ x ∧ x ≤ y - 1) : ∃ p, p < c ∧ x = nI p := by
  subst hc
  obtain ⟨j, h1, h2⟩ := nI_of (x := x) (Int32.not_lt.mpr h.1)
  subst h2
  rcases Nat.eq_zero_or_pos c with rfl | h0
  · exact absurd (Int32.le_trans h.1 h.2) (by decide)
  · have h3 := h.2
    rw [rk_pred h0] at h3
    exact ⟨j, by have := (nI_leI h1 (by omega)).mp h3; omega, rfl⟩
/-- pieces a < b joined -/
def sp_joinN (N : Nat → Int32) (a b : Nat) : Nat → Int32 := sp_u (sp_u (sp_u (sp_u N (50 + 7 * a + 3) (N (50 + 7 * a + 3) + (N (50 + 7 * b + 3) - N 4))) (50 + 7 * a + 4) (N (50 + 7 * a + 4) + N (50 + 7 * b + 4))) (50 + 7 * a + 5) (if N (50 + 7 * b + 5) < N (50 + 7 * a + 5) then N (50 + 7 * b + 5) else N (50 + 7 * a + 5))) (50 + 7 * a + 6) (N (50 + 7 * a + 6) + (N (50 + 7 * b + 6) + 1))
def sp_lk (N : Nat → Int32) (p q : Nat) : Prop := N (50 + 7 * p + 0) = N (50 + 7 * q + 0) ∧ N (50 + 7 * p + 1) = N (50 + 7 * q + 1) ∧ N (50 + 7 * p + 2) = N (50 + 7 * q + 2)
noncomputable def sp_join (N : Nat → Int32) (p q : Int32) : sp_R := @ite _ (sp_ispc N p ∧ sp_ispc N q ∧ p ≠ q) (Classical.propDecidable _) (@ite _ (sp_lk N p.toNatClampNeg q.toNatClampNeg ∧ N 4 < N (50 + 7 * p.toNatClampNeg + 3) ∧ N 4 < N (50 + 7 * q.toNatClampNeg + 3)) (Classical.propDecidable _) (if p < q then (p, some (sp_gone (sp_joinN N p.toNatClampNeg q.toNatClampNeg) 12 50 q.toNatClampNeg)) else (q, some (sp_gone (sp_joinN N q.toNatClampNeg p.toNatClampNeg) 12 50 p.toNatClampNeg))) (-5, none)) (-1, none)
end MQ1

