/-! sums over pieces, what a cut leaves valid -/
def sp_sg (g : Nat → Int) : Nat → Int
  | 0 => 0
  | n + 1 => sp_sg g n + g n
theorem sp_sg_c {g h : Nat → Int} : ∀ {n : Nat}, (∀ i, i < n → g i = h i) → sp_sg g n = sp_sg h n
  | 0, _ => rfl
  | n + 1, e => by simp only [sp_sg]; rw [sp_sg_c (fun i hi => e i (by omega)), e n (by omega)]
theorem sp_sg_rm {g : Nat → Int} {p : Nat} : ∀ {n : Nat}, p < n + 1 → sp_sg (fun i => g (if i < p then i else i + 1)) n + g p = sp_sg g (n + 1)
  | 0, h => by
    obtain rfl : p = 0 := by omega
    simp [sp_sg]
  | n + 1, h => by
    by_cases hp : p = n + 1
    · subst hp
      rw [sp_sg_c (h := g) (fun i hi => by simp [hi])]
      rfl
    · have ih := sp_sg_rm (g := g) (p := p) (n := n) (by omega)
      simp only [sp_sg] at ih ⊢
      rw [if_neg (show ¬ n < p by omega)]
      omega
/-- the same over 32 bits -/
def sp_sI (g : Nat → Int32) : Nat → Int32
  | 0 => 0
  | n + 1 => sp_sI g n + g n
theorem sp_sI_c {g h : Nat → Int32} : ∀ {n : Nat}, (∀ i, i < n → g i = h i) → sp_sI g n = sp_sI h n
  | 0, _ => rfl
  | n + 1, e => by simp only [sp_sI]; rw [sp_sI_c (fun i hi => e i (by omega)), e n (by omega)]
theorem sp_sI_rm {g : Nat → Int32} {p : Nat} : ∀ {n : Nat}, p < n + 1 → sp_sI (fun i => g (if i < p then i else i + 1)) n + g p = sp_sI g (n + 1)
  | 0, h => by
    obtain rfl : p = 0 := by omega
    simp [sp_sI]
  | n + 1, h => by
    by_cases hp : p = n + 1
    · subst hp
      rw [sp_sI_c (h := g) (fun i hi => by simp [hi])]
      rfl
    · have ih := sp_sI_rm (g := g) (p := p) (n := n) (by omega)
      simp only [sp_sI] at ih ⊢
      rw [if_neg (show ¬ n < p by omega), ← ih]
      grind
theorem sp_sI_up {g h : Nat → Int32} {p : Nat} {v : Int32} : ∀ {n : Nat}, p < n → (∀ i, i < n → i ≠ p → h i = g i) → h p = g p + v → sp_sI h n = sp_sI g n + v
  | 0, hp, _, _ => by omega
  | n + 1, hp, e, ep => by
    simp only [sp_sI]
    by_cases hq : p = n
    · subst hq
      rw [ep, sp_sI_c (fun i hi => e i (by omega) (by omega))]
      grind
    · rw [sp_sI_up (n := n) (by omega) (fun i hi => e i (by omega)) ep, e n (by omega) (by omega)]
      grind
theorem sp_sg_up {g h : Nat → Int} {p : Nat} : ∀ {n : Nat}, p < n → (∀ i, i < n → i ≠ p → h i = g i) → sp_sg h n = sp_sg g n + h p - g p
  | 0, hp, _ => by omega
  | n + 1, hp, e => by
    simp only [sp_sg]
    by_cases hq : p = n
    · subst hq
      rw [sp_sg_c (fun i hi => e i (by omega) (by omega))]
      omega
    · rw [sp_sg_up (n := n) (by omega) (fun i hi => e i (by omega)), e n (by omega) (by omega)]
      omega
theorem sp_gone_x {N : Nat → Int32} {cnt base p c j : Nat} (hc : N cnt = nI c) (hc2 : c < 2 ^ 31) (h1 : j ≠ cnt) (h2 : j < base + 7 * p ∨ base + 7 * (c - 1) ≤ j) : sp_gone N cnt base p j = N j := by
  simp only [sp_gone, sp_cN hc hc2]
  rw [if_neg h1, if_neg (by omega)]
theorem sp_gone_n {N : Nat → Int32} {cnt base p c : Nat} (hc : N cnt = nI c) (h0 : 0 < c) : sp_gone N cnt base p cnt = nI (c - 1) := by
  simp only [sp_gone, if_true]
  rw [hc, rk_pred h0]
theorem sp_gone_p {N : Nat → Int32} {cnt base p c i k : Nat} (hc : N cnt = nI c) (hc2 : c < 2 ^ 31) (hb : cnt < base) (hi : i < c - 1) (hk : k < 7) : sp_gone N cnt base p (base + 7 * i + k) = N (base + 7 * (if i < p then i else i + 1) + k) := by
  simp only [sp_gone, sp_cN hc hc2]
  rw [if_neg (by omega)]
  by_cases h : i < p
  · rw [if_neg (by omega), if_pos h]
  · rw [if_pos (by omega), if_neg h, show base + 7 * i + k + 7 = base + 7 * (i + 1) + k by omega]
/-- the pieces of a row are well made: T bounds all splices and pieces together -/
def sp_pv (T : Int) (N : Nat → Int32) (c : Nat) : Prop := c ≤ 24 ∧ N 12 = nI c ∧ (∀ p, p < c → ∃ f, f < 3 ∧ N (50 + 7 * p + 0) = nI f) ∧ (∀ p, p < c → 0 < (N (50 + 7 * p + 3)).toInt ∧ 0 ≤ (N (50 + 7 * p + 6)).toInt ∧ (N (50 + 7 * p + 3)).toInt ≤ 2000 * ((N (50 + 7 * p + 6)).toInt + 1)) ∧ sp_sg (fun p => (N (50 + 7 * p + 6)).toInt + 1) c ≤ T
theorem sp_pv_gone {T : Int} {N M : Nat → Int32} {c p : Nat} (h : sp_pv T N c) (hp : p < c) (h12 : M 12 = nI c) (hM : ∀ i, i < c → i ≠ p → ∀ k, k < 7 → k ≠ 4 → M (50 + 7 * i + k) = N (50 + 7 * i + k)) : sp_pv T (sp_gone M 12 50 p) (c - 1) := by
  obtain ⟨h1, h2, h3, h4, h5⟩ := h
  have hlt : ∀ i, i < c - 1 → (if i < p then i else i + 1) < c ∧ (if i < p then i else i + 1) ≠ p := fun i hi => by split <;> omega
  have g : ∀ i, i < c - 1 → ∀ k, k < 7 → k ≠ 4 → sp_gone M 12 50 p (50 + 7 * i + k) = N (50 + 7 * (if i < p then i else i + 1) + k) := fun i hi k hk h4 => by
    rw [sp_gone_p h12 (by omega) (by decide) hi hk]
    exact hM _ (hlt i hi).1 (hlt i hi).2 k hk h4
  refine ⟨by omega, sp_gone_n h12 (by omega), fun i hi => ?_, fun i hi => ?_, ?_⟩
  · rw [g i hi 0 (by decide) (by decide)]; exact h3 _ (hlt i hi).1
  · rw [g i hi 3 (by decide) (by decide), g i hi 6 (by decide) (by decide)]; exact h4 _ (hlt i hi).1
  · rw [sp_sg_c (h := fun i => (fun q => (N (50 + 7 * q + 6)).toInt + 1) (if i < p then i else i + 1)) (fun i hi => by rw [g i hi 6 (by decide) (by decide)])]
    have e := sp_sg_rm (g := fun q => (N (50 + 7 * q + 6)).toInt + 1) (p := p) (n := c - 1) (by omega)
    rw [show c - 1 + 1 = c by omega] at e
    have := (h4 p hp).2.1
    dsimp only at e ⊢
    omega
theorem sp_pv_len {T : Int} {N : Nat → Int32} {c p : Nat} {v : Int32} (h : sp_pv T N c) (hp : p < c) (h0 : 0 < v.toInt) (hv : v.toInt ≤ (N (50 + 7 * p + 3)).toInt) {M : Nat → Int32} (h12 : M 12 = N 12) (hM : ∀ i, i < c → ∀ k, k < 7 → k ≠ 3 → k ≠ 4 → M (50 + 7 * i + k) = N (50 + 7 * i + k)) (hM3 : ∀ i, i < c → i ≠ p → M (50 + 7 * i + 3) = N (50 + 7 * i + 3)) (hv3 : M (50 + 7 * p + 3) = v) : sp_pv T M c := by
  obtain ⟨h1, h2, h3, h4, h5⟩ := h
  refine ⟨h1, by rw [h12, h2], fun i hi => ?_, fun i hi => ?_, ?_⟩
  · rw [hM i hi 0 (by decide) (by decide) (by decide)]; exact h3 i hi
  · rw [hM i hi 6 (by decide) (by decide) (by decide)]
    have := h4 i hi
    by_cases e : i = p
    · subst e; rw [hv3]; omega
    · rw [hM3 i hi e]; exact this
  · rw [sp_sg_c (fun i hi => by rw [hM i hi 6 (by decide) (by decide) (by decide)])]; exact h5
theorem sp_cut1_x {N : Nat → Int32} {p j : Nat} {feet : Int32} (h : j ≠ 50 + 7 * p + 3) (h2 : j ≠ 50 + 7 * p + 4) : sp_cut1 N p feet j = N j := by rw [sp_cut1, sp_un h2, sp_un h]
theorem sp_cut1_3 {N : Nat → Int32} {p : Nat} {feet : Int32} : sp_cut1 N p feet (50 + 7 * p + 3) = N (50 + 7 * p + 3) - feet := by rw [sp_cut1, sp_un (by omega), sp_us]
/-- what a cut doesn't touch -/
theorem sp_cut_x {N : Nat → Int32} {p c f j : Nat} {feet : Int32} (hc : N 12 = nI c) (hc2 : c ≤ 24) (hp : p < c) (hf : f < 3) (h0 : N (50 + 7 * p) = nI f) (h1 : j ≠ 12) (h2 : j ≠ 30 + 4 * f + 3) (h3 : j < 50 ∨ 218 ≤ j) : sp_cut N p feet j = N j := by
  have hsc : sp_c N (50 + 7 * p) = f := sp_cN h0 (by omega)
  have e1 : sp_cut1 N p feet 12 = nI c := by rw [sp_cut1_x (by omega) (by omega), hc]
  have e2 : sp_cut2 N p feet 12 = nI c := by rw [sp_cut2, sp_un (by omega), e1]
  unfold sp_cut
  split
  · rw [sp_gone_x e1 (by omega) h1 (by omega), sp_cut1_x (by omega) (by omega)]
  · split
    · rw [sp_gone_x e2 (by omega) h1 (by omega), sp_cut2, hsc, sp_un h2, sp_cut1_x (by omega) (by omega)]
    · rw [sp_cut1_x (by omega) (by omega)]
theorem rk_sub_t {x y : Int32} (h1 : 0 ≤ y.toInt) (h2 : y.toInt ≤ x.toInt) : (x - y).toInt = x.toInt - y.toInt := by
  have hx := Int32.toInt_lt x
  have hy := Int32.le_toInt y
  rw [Int32.toInt_sub]
  exact Int.bmod_eq_of_le_mul_two (by omega) (by omega)
theorem sp_pv_cut {T : Int} {N : Nat → Int32} {c p : Nat} {feet : Int32} (h : sp_pv T N c) (hp : p < c) (hf0 : 0 < feet.toInt) (hf : feet.toInt ≤ (N (50 + 7 * p + 3)).toInt) : ∃ c', c' ≤ c ∧ sp_pv T (sp_cut N p feet) c' := by
  obtain ⟨fi, hfi, h0⟩ := h.2.2.1 p hp
  have hsc : sp_c N (50 + 7 * p) = fi := sp_cN h0 (by omega)
  have hL := h.2.2.2.1 p hp
  have hs := rk_sub_t (by omega) hf
  -- a row with any length above 0 and at most the old one
  have key : ∀ (M : Nat → Int32), (∀ j, j ≠ 50 + 7 * p + 3 → j ≠ 50 + 7 * p + 4 → j ≠ 30 + 4 * fi + 3 → M j = N j) → 0 < (M (50 + 7 * p + 3)).toInt → (M (50 + 7 * p + 3)).toInt ≤ (N (50 + 7 * p + 3)).toInt → sp_pv T M c := by
    intro M hM h1 h2
    refine sp_pv_len h hp h1 h2 (hM 12 (by omega) (by omega) (by omega)) (fun i hi k hk k3 k4 => hM _ (by omega) (by omega) (by omega)) (fun i hi hne => hM _ (by omega) (by omega) (by omega)) rfl
  have e1 : sp_cut1 N p feet 12 = nI c := by rw [sp_cut1_x (by omega) (by omega), h.2.1]
  unfold sp_cut
  split
  · exact ⟨c - 1, by omega, sp_pv_gone h hp e1 (fun i hi hne k hk k4 => sp_cut1_x (by omega) (by omega))⟩
  · split
    · refine ⟨c - 1, by omega, sp_pv_gone h hp (by rw [sp_cut2, sp_un (by omega), e1]) (fun i hi hne k hk k4 => ?_)⟩
      rw [sp_cut2, sp_un (by omega), sp_cut1_x (by omega) (by omega)]
    · rename_i g1 g2
      refine ⟨c, Nat.le_refl _, key _ (fun j j1 j2 _ => sp_cut1_x j1 j2) ?_ ?_⟩
      · rw [sp_cut1_3, hs]
        have : (N (50 + 7 * p + 3) - feet).toInt ≠ 0 := fun z => g1 (Int32.toInt_inj.mp (by rw [z]; rfl))
        omega
      · rw [sp_cut1_3, hs]; omega

