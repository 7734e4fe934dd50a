section EY
theorem vs_N0 : vs_ok 0 (md_N0 3) := by
  have hc : sp_c (md_N0 3) 12 = 0 := by decide +kernel
  refine ⟨⟨⟨0, by decide, by decide +kernel, fun p h => absurd h (Nat.not_lt_zero p), fun p h => absurd h (Nat.not_lt_zero p), by decide⟩, ⟨0, by decide, by decide +kernel, fun p h => absurd h (Nat.not_lt_zero p)⟩, ⟨0, by decide, by decide +kernel⟩, by decide +kernel, by decide +kernel⟩, fun f hf => ⟨0, by decide, ?_⟩, fun p hp => absurd hp (by rw [hc]; exact Nat.not_lt_zero p)⟩
  rcases (by omega : f = 0 ∨ f = 1 ∨ f = 2) with rfl | rfl | rfl <;> decide +kernel
theorem cl_y_first {w : rk_W} {rg : Nat → Nat} {u : rk_S} {y t : Nat} (hw : cl_W w) (h0 : cn_y0 w u y) (hI : ∀ j, u.2.1 10 y j = 0) (hs : cl_ys rg u.2.2 y t) : cl_y rg u.2.1 u.2.2 y t (md_N0 3) := by
  obtain ⟨a1, a2, a3, a4, a5, a6⟩ := h0
  have hc : sp_c (md_N0 3) 12 = 0 := by decide +kernel
  have hc3 : sp_c (md_N0 3) 13 = 0 := by decide +kernel
  have n10 : ∀ j, j < 10 → (if j = 0 then (1000 : Int32) else if j = 1 then 30 else if j = 2 then 12 else if j = 3 then 15 else if j = 4 then 6 else if j = 5 then 5 else if j = 6 then 10 else if j = 7 then 12 else if j = 8 then 100 else 50) = md_N0 3 j := by decide +kernel
  have n18 : ∀ j, j < 3 → (if j = 0 then (60 : Int32) else if j = 1 then 45 else 30) = md_N0 3 (20 + 3 * j) := by decide +kernel
  have n19 : ∀ j, j < 3 → (if j = 0 then (32 : Int32) else if j = 1 then 28 else 24) = md_N0 3 (20 + 3 * j + 1) := by decide +kernel
  have n22 : ∀ f, f < 3 → (∀ k, k < 6 → k ≠ 2 → (if k = 0 then md_N0 3 (30 + 4 * f) else if k = 1 then md_N0 3 (20 + 3 * f + 2) else md_N0 3 (30 + 4 * f + (k - 2))) = 0) := by decide +kernel
  refine ⟨hs, ⟨fun j hj => ?_, fun f hf => ?_, fun f hf => ?_⟩, ⟨hs.2.2.1, ⟨a4.trans (by decide +kernel), fun i hi => absurd hi (by rw [hc]; exact Nat.not_lt_zero i)⟩, fun f hf k hk => ?_⟩, ⟨a6.trans (by decide +kernel), fun i hi => absurd hi (by rw [hc3]; exact Nat.not_lt_zero i), fun i hi => absurd hi (by rw [hc3]; exact Nat.not_lt_zero i)⟩, ?_⟩
  · rw [a1 j hj, hw.1.2 j hj]; exact n10 j hj
  · rw [a2 f hf, hw.2.2.2.1.2 f hf]; exact n18 f hf
  · rw [a3 f hf, hw.2.2.2.2.2 f hf]; exact n19 f hf
  · rw [a5 f hf k]
    unfold sp_acc
    by_cases e2 : k = 2
    · subst e2
      rw [if_neg (by decide), if_neg (by decide), if_pos rfl, hc]
      rfl
    · have g := n22 f hf k hk e2
      by_cases e0 : k = 0
      · rw [if_pos e0] at g ⊢; exact g.symm
      · by_cases e1 : k = 1
        · rw [if_neg e0, if_pos e1] at g ⊢; exact g.symm
        · rw [if_neg e0, if_neg e1] at g
          rw [if_neg e0, if_neg e1, if_neg e2]; exact g.symm
  · unfold cl_yf
    rw [hI, hI, hI, hI, hI]
    exact ⟨by decide +kernel, by decide +kernel, by decide +kernel, by decide +kernel, by decide +kernel, 0, by decide, by decide +kernel⟩
end EY

