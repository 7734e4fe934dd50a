section CA
/-! the accounts of a row that changes -/
theorem sp_acc_u {M : Nat → Int32} {f j g k : Nat} {v : Int32} (hf : f < 3) (hg : g < 3) (hj : j < 4) (hk : k < 6) : sp_acc (sp_u M (30 + 4 * f + j) v) g k = if g = f ∧ k = (if j = 0 then 0 else j + 2) then v else sp_acc M g k := by
  have e12 : sp_c (sp_u M (30 + 4 * f + j) v) 12 = sp_c M 12 := by unfold sp_c; rw [sp_un (by omega)]
  have e3 : ∀ c, c ≤ 24 → sp_yp (sp_u M (30 + 4 * f + j) v) g c = sp_yp M g c := fun c hc => sp_yp_c (fun i hi => ⟨sp_un (by omega), sp_un (by omega)⟩)
  have e4 : sp_yp (sp_u M (30 + 4 * f + j) v) g = sp_yp M g := by
    funext c
    exact sp_yp_c (fun i hi => ⟨sp_un (by omega), sp_un (by omega)⟩)
  simp only [sp_acc]
  rw [e12, e4, sp_un (show 20 + 3 * g + 2 ≠ 30 + 4 * f + j by omega)]
  by_cases h0 : k = 0
  · subst h0
    simp only [if_true]
    by_cases hj0 : j = 0
    · subst hj0
      by_cases hgf : g = f
      · subst hgf; simp [sp_u]
      · rw [sp_un (by omega)]; simp [hgf]
    · rw [sp_un (by omega), if_neg (by simp [hj0])]
  · rw [if_neg h0, if_neg h0]
    by_cases h1 : k = 1
    · subst h1
      rw [if_pos rfl, if_pos rfl, if_neg (by split <;> omega)]
    · rw [if_neg h1, if_neg h1]
      by_cases h2 : k = 2
      · subst h2
        rw [if_pos rfl, if_pos rfl, if_neg (by split <;> omega)]
      · rw [if_neg h2, if_neg h2]
        by_cases hh : g = f ∧ k = if j = 0 then 0 else j + 2
        · rw [if_pos hh]
          obtain ⟨rfl, hh⟩ := hh
          split at hh
          · omega
          · subst hh; rw [show j + 2 - 2 = j by omega, sp_us]
        · rw [if_neg hh]
          refine sp_un (fun z => hh ⟨by omega, ?_⟩)
          have : g = f := by omega
          subst this
          rw [if_neg (by omega)]
          omega
theorem sp_yp_up {N M : Nat → Int32} {f g i c : Nat} {v : Int32} (hi : i < c) (hf : f < 3) (hg : g < 3) (h0 : N (50 + 7 * i + 0) = nI f) (h0' : M (50 + 7 * i + 0) = nI f) (hv : M (50 + 7 * i + 4) = N (50 + 7 * i + 4) + v) (e : ∀ p, p < c → p ≠ i → M (50 + 7 * p + 0) = N (50 + 7 * p + 0) ∧ M (50 + 7 * p + 4) = N (50 + 7 * p + 4)) : sp_yp M g c = if g = f then sp_yp N g c + v else sp_yp N g c := by
  by_cases hgf : g = f
  · subst hgf
    rw [if_pos rfl]
    exact sp_sI_up hi (fun p hp hpi => by rw [(e p hp hpi).1, (e p hp hpi).2]) (by rw [if_pos h0', if_pos h0]; exact hv)
  · have hne : ¬ nI f = nI g := fun z => hgf ((nI_eq (by omega) (by omega)).mp z).symm
    rw [if_neg hgf]
    refine sp_sI_c (fun p hp => ?_)
    by_cases hpi : p = i
    · subst hpi; rw [h0, h0', if_neg hne, if_neg hne]
    · rw [(e p hp hpi).1, (e p hp hpi).2]
theorem sp_acc_c1 {N : Nat → Int32} {f g i c k : Nat} {feet : Int32} (hc : N 12 = nI c) (hc2 : c ≤ 24) (hi : i < c) (hf : f < 3) (hg : g < 3) (hk : k < 6) (h0 : N (50 + 7 * i) = nI f) : sp_acc (sp_cut1 N i feet) g k = if g = f ∧ k = 2 then sp_acc N f 2 - sp_yin (N (50 + 7 * i + 4)) feet (N (50 + 7 * i + 3)) else sp_acc N g k := by
  have e12 : sp_c (sp_cut1 N i feet) 12 = c := by rw [sp_c, sp_cut1, sp_un (by omega), sp_un (by omega)]; exact sp_cN hc (by omega)
  have ec : sp_c N 12 = c := sp_cN hc (by omega)
  have e : ∀ j, j ≠ 50 + 7 * i + 3 → j ≠ 50 + 7 * i + 4 → sp_cut1 N i feet j = N j := fun j h1 h2 => by rw [sp_cut1, sp_un h2, sp_un h1]
  have hy := sp_yp_up (N := N) (M := sp_cut1 N i feet) (f := f) (g := g) (v := - sp_yin (N (50 + 7 * i + 4)) feet (N (50 + 7 * i + 3))) hi hf hg h0 (by rw [e _ (by omega) (by omega)]; exact h0) (by rw [sp_cut1, sp_us, Int32.sub_eq_add_neg]) (fun p hp hpi => ⟨e _ (by omega) (by omega), e _ (by omega) (by omega)⟩)
  simp only [sp_acc]
  rw [e12, ec, hy]
  by_cases h2 : k = 2
  · subst h2
    by_cases hgf : g = f
    · subst hgf
      simp [Int32.sub_eq_add_neg]
    · simp [hgf]
  · rw [if_neg h2, if_neg h2, e _ (by omega) (by omega), e _ (by omega) (by omega), e _ (by omega) (by omega), if_neg (show ¬ (g = f ∧ k = 2) from fun z => h2 z.2)]
theorem sp_acc_gone {M : Nat → Int32} {f g i c k : Nat} (hc : M 12 = nI c) (hc2 : c ≤ 24) (hi : i < c) (hf : f < 3) (hg : g < 3) (hk : k < 6) (h0 : M (50 + 7 * i) = nI f) : sp_acc (sp_gone M 12 50 i) g k = if g = f ∧ k = 2 then sp_acc M f 2 - M (50 + 7 * i + 4) else sp_acc M g k := by
  have e12 : sp_c (sp_gone M 12 50 i) 12 = c - 1 := sp_cN (sp_gone_n hc (by omega)) (by omega)
  have ec : sp_c M 12 = c := sp_cN hc (by omega)
  have e : ∀ j, j < 50 → j ≠ 12 → sp_gone M 12 50 i j = M j := fun j h1 h2 => sp_gone_x hc (by omega) h2 (Or.inl (by omega))
  have hy : sp_yp (sp_gone M 12 50 i) g (c - 1) = if g = f then sp_yp M g c - M (50 + 7 * i + 4) else sp_yp M g c := by
    obtain ⟨n, rfl⟩ : ∃ n, c = n + 1 := ⟨c - 1, by omega⟩
    have h1 := sp_sI_rm (g := fun p => @ite _ (M (50 + 7 * p + 0) = nI g) (Classical.propDecidable _) (M (50 + 7 * p + 4)) 0) hi
    have h2 : sp_yp (sp_gone M 12 50 i) g n = sp_sI (fun p => (fun p => @ite _ (M (50 + 7 * p + 0) = nI g) (Classical.propDecidable _) (M (50 + 7 * p + 4)) 0) (if p < i then p else p + 1)) n := sp_sI_c (fun p hp => by
      have q0 := sp_gone_p (p := i) (k := 0) hc (by omega) (show 12 < 50 by decide) (show p < n + 1 - 1 by omega) (by decide)
      have q4 := sp_gone_p (p := i) (k := 4) hc (by omega) (show 12 < 50 by decide) (show p < n + 1 - 1 by omega) (by decide)
      rw [q0, q4])
    rw [Nat.add_sub_cancel, h2]
    show _ = if g = f then sp_sI _ (n + 1) - _ else sp_sI _ (n + 1)
    rw [← h1]
    by_cases hgf : g = f
    · subst hgf
      rw [if_pos rfl]
      have h3 : (@ite Int32 (M (50 + 7 * i + 0) = nI g) (Classical.propDecidable _) (M (50 + 7 * i + 4)) 0) = M (50 + 7 * i + 4) := if_pos h0
      simp only [h3]
      grind
    · rw [if_neg hgf]
      have h3 : (@ite Int32 (M (50 + 7 * i + 0) = nI g) (Classical.propDecidable _) (M (50 + 7 * i + 4)) 0) = 0 := if_neg (fun z => hgf ((nI_eq (by omega) (by omega)).mp (h0.symm.trans z)).symm)
      simp only [h3]
      grind
  simp only [sp_acc]
  rw [e12, ec, hy]
  by_cases h2 : k = 2
  · subst h2
    by_cases hgf : g = f
    · subst hgf
      simp
    · simp [hgf]
  · rw [if_neg h2, if_neg h2, e _ (by omega) (by omega), e _ (by omega) (by omega), e _ (by omega) (by omega), if_neg (show ¬ (g = f ∧ k = 2) from fun z => h2 z.2)]
end CA

