/-! the reference's changes: an answer, and the row of numbers behind it (none: an error, nothing changes) -/
abbrev sp_R : Type := Int32 × Option (Nat → Int32)
theorem rk_in_n {x : Int32} {n : Nat} {y : Int32} (hy : y = nI n) (hn : n < 2 ^ 31) (h : 0 ≤ x ∧ x ≤ y) : ∃ k, k ≤ n ∧ x = nI k := by
  subst hy
  obtain ⟨j, h1, h2⟩ := nI_of (x := x) (Int32.not_lt.mpr h.1)
  exact ⟨j, (nI_leI h1 hn).mp (by rw [← h2]; exact h.2), h2⟩
def sp_lst (s : Nat) : Int32 := if s = 0 then 100 else if s = 1 then 10 else if s = 2 then 0 else if s = 3 then 0 else if s = 8 then 10 else if s = 9 then 0 else 1
def sp_mst (s : Nat) : Int32 := if s = 0 then 2000 else if s = 1 then 60 else if s = 2 then 40 else if s = 3 then 60 else if s = 4 then 30 else if s = 5 then 30 else if s = 6 then 60 else if s = 7 then 24 else 500
def sp_set (N : Nat → Int32) (s v : Int32) : sp_R := if (0 ≤ s ∧ s ≤ 9) ∧ sp_lst s.toNatClampNeg ≤ v ∧ v ≤ sp_mst s.toNatClampNeg then (N s.toNatClampNeg, some (sp_u N s.toNatClampNeg v)) else (-2, none)
def sp_fibre (N : Nat → Int32) (f st tw : Int32) : sp_R := if 0 ≤ f ∧ f ≤ 2 then (if (1 ≤ st ∧ st ≤ 200) ∧ 10 ≤ tw ∧ tw ≤ 60 then (100 * N (20 + 3 * f.toNatClampNeg) + N (20 + 3 * f.toNatClampNeg + 1), some (sp_u (sp_u N (20 + 3 * f.toNatClampNeg) st) (20 + 3 * f.toNatClampNeg + 1) tw)) else (-2, none)) else (-1, none)
def sp_spin (N : Nat → Int32) (f ft : Int32) : sp_R := if 0 ≤ f ∧ f ≤ 2 then (if 1 ≤ ft ∧ ft ≤ 3000000 then (if N (20 + 3 * f.toNatClampNeg + 2) + ft ≤ 9000000 then (N (20 + 3 * f.toNatClampNeg + 2) + ft, some (sp_u (sp_u N (20 + 3 * f.toNatClampNeg + 2) (N (20 + 3 * f.toNatClampNeg + 2) + ft)) (30 + 4 * f.toNatClampNeg) (N (30 + 4 * f.toNatClampNeg) + ft))) else (-5, none)) else (-2, none)) else (-1, none)
section MO
variable {w : rk_W} {l : Launch} {Sh : rk_Sh} {I : rk_Mm} {R : rk_Rm}
end MO

