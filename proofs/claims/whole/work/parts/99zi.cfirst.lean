section EY
theorem vs_N0 : vs_ok 0 (md_N0 3) := by
  have hc : sp_c (md_N0 3) 12 = 0 := by decide +kernel
  refine ⟨⟨⟨0, by decide, by decide +kernel, fun p h => absurd h (Nat.not_lt_zero p), fun p h => absurd h (Nat.not_lt_zero p), by decide⟩, ⟨0, by decide, by decide +kernel, fun p h => absurd h (Nat.not_lt_zero p)⟩, ⟨0, by decide, by decide +kernel⟩, by decide +kernel, by decide +kernel⟩, fun f hf => ⟨0, by decide, ?_⟩, fun p hp => absurd hp (by rw [hc]; exact Nat.not_lt_zero p)⟩
  rcases (by omega : f = 0 ∨ f = 1 ∨ f = 2) with rfl | rfl | rfl <;> decide +kernel
end EY

