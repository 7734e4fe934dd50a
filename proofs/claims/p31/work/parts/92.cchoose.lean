section DA
variable {w : rk_W} {l : Launch} {Sh : rk_Sh} {rg : Nat → Nat} {N : Nat → Int32} {T : Int}
theorem rk_p10 {s o : Nat} (h : s < 2 ^ o) (ho : o ≤ 10) : s < 1024 := Nat.lt_of_lt_of_le h (show 2 ^ o ≤ 2 ^ 10 from Nat.pow_le_pow_right (by decide) ho)
/-- the regions of the trial behind level L -/
def cl_tS (L : Nat) (z : Nat) : Prop := z = 84 ∨ ∃ i, L < i ∧ i < 11 ∧ z = 4 * (10 + i) + 2
theorem cl_tS.mo {L L' z : Nat} (h : cl_tS L' z) (hL : L ≤ L') : cl_tS L z := by
  rcases h with h | ⟨i, h1, h2, h3⟩
  · exact Or.inl h
  · exact Or.inr ⟨i, by omega, h2, h3⟩
end DA

