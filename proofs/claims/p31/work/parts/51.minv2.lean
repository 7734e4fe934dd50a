section MJ
theorem rk_add_t {x y : Int32} (h1 : -2147483648 ≤ x.toInt + y.toInt) (h2 : x.toInt + y.toInt ≤ 2147483647) : (x + y).toInt = x.toInt + y.toInt := by
  rw [Int32.toInt_add]
  exact Int.bmod_eq_of_le_mul_two (by omega) (by omega)
theorem sp_sg_ge {g : Nat → Int} : ∀ {n : Nat}, (∀ i, i < n → 0 ≤ g i) → 0 ≤ sp_sg g n
  | 0, _ => Int.le_refl _
  | n + 1, h => by
    simp only [sp_sg]
    have := sp_sg_ge (g := g) (n := n) (fun i hi => h i (by omega))
    have := h n (by omega)
    omega
theorem sp_sg_one {g : Nat → Int} {p : Nat} : ∀ {n : Nat}, (∀ i, i < n → 0 ≤ g i) → p < n → g p ≤ sp_sg g n
  | 0, _, hp => by omega
  | n + 1, h, hp => by
    simp only [sp_sg]
    by_cases hq : p = n
    · subst hq
      have := sp_sg_ge (g := g) (n := p) (fun i hi => h i (by omega))
      omega
    · have := sp_sg_one (g := g) (p := p) (n := n) (fun i hi => h i (by omega)) (by omega)
      have := h n (by omega)
      omega
theorem sp_sg_two {g : Nat → Int} {a b n : Nat} (h : ∀ i, i < n → 0 ≤ g i) (ha : a < n) (hb : b < n) (hne : a ≠ b) : g a + g b ≤ sp_sg g n := by
  have e := sp_sg_rm (g := g) (p := b) (n := n - 1) (by omega)
  rw [show n - 1 + 1 = n by omega] at e
  have o := sp_sg_one (g := fun i => g (if i < b then i else i + 1)) (p := if a < b then a else a - 1) (n := n - 1) (fun i hi => h _ (by split <;> omega)) (by split <;> omega)
  have e2 : (if (if a < b then a else a - 1) < b then (if a < b then a else a - 1) else (if a < b then a else a - 1) + 1) = a := by
    by_cases hab : a < b
    · simp [hab]
    · rw [if_neg hab, if_neg (by omega)]; omega
  try dsimp only at o
  rw [e2] at o
  omega
theorem sp_pv_join {T : Int} {N : Nat → Int32} {c a b : Nat} (h : sp_pv T N c) (ha : a < c) (hb : b < c) (hne : a ≠ b) (hT : T ≤ 1000000) (h40 : 0 ≤ (N 4).toInt) (hla : N 4 < N (50 + 7 * a + 3)) (hlb : N 4 < N (50 + 7 * b + 3)) : sp_pv T (sp_gone (sp_joinN N a b) 12 50 b) (c - 1) := by
  obtain ⟨h1, h2, h3, h4, h5⟩ := h
  have hla2 := Int32.lt_iff_toInt_lt.mp hla
  have hlb2 := Int32.lt_iff_toInt_lt.mp hlb
  have La := h4 a ha
  have Lb := h4 b hb
  have h2s := sp_sg_two (g := fun p => (N (50 + 7 * p + 6)).toInt + 1) (n := c) (a := a) (b := b) (fun i hi => by have := (h4 i hi).2.1; omega) ha hb hne
  try dsimp only at h2s
  have hSb : (N (50 + 7 * b + 6) + 1).toInt = (N (50 + 7 * b + 6)).toInt + 1 := by
    have e1 : (1 : Int32).toInt = 1 := rfl
    rw [rk_add_t (by omega) (by omega), e1]
  have hS : (N (50 + 7 * a + 6) + (N (50 + 7 * b + 6) + 1)).toInt = (N (50 + 7 * a + 6)).toInt + (N (50 + 7 * b + 6)).toInt + 1 := by
    rw [rk_add_t (by omega) (by omega), hSb]; omega
  have hD : (N (50 + 7 * b + 3) - N 4).toInt = (N (50 + 7 * b + 3)).toInt - (N 4).toInt := rk_sub_t (by omega) (by omega)
  have hL : (N (50 + 7 * a + 3) + (N (50 + 7 * b + 3) - N 4)).toInt = (N (50 + 7 * a + 3)).toInt + ((N (50 + 7 * b + 3)).toInt - (N 4).toInt) := by
    rw [rk_add_t (by omega) (by omega), hD]
  have j12 : sp_joinN N a b 12 = nI c := by
    simp only [sp_joinN]
    rw [sp_un (by omega), sp_un (by omega), sp_un (by omega), sp_un (by omega), h2]
  have j0 : ∀ i, sp_joinN N a b (50 + 7 * i + 0) = N (50 + 7 * i + 0) := fun i => by
    simp only [sp_joinN]
    rw [sp_un (by omega), sp_un (by omega), sp_un (by omega), sp_un (by omega)]
  have jn : ∀ i k, i ≠ a → k < 7 → sp_joinN N a b (50 + 7 * i + k) = N (50 + 7 * i + k) := fun i k hi hk => by
    simp only [sp_joinN]
    rw [sp_un (by omega), sp_un (by omega), sp_un (by omega), sp_un (by omega)]
  have j3 : sp_joinN N a b (50 + 7 * a + 3) = N (50 + 7 * a + 3) + (N (50 + 7 * b + 3) - N 4) := by
    simp only [sp_joinN]
    rw [sp_un (by omega), sp_un (by omega), sp_un (by omega), sp_us]
  have j6 : sp_joinN N a b (50 + 7 * a + 6) = N (50 + 7 * a + 6) + (N (50 + 7 * b + 6) + 1) := by
    simp only [sp_joinN]
    rw [sp_us]
  have hlt : ∀ i, i < c - 1 → (if i < b then i else i + 1) < c ∧ (if i < b then i else i + 1) ≠ b := fun i hi => by split <;> omega
  have g : ∀ i, i < c - 1 → ∀ k, k < 7 → sp_gone (sp_joinN N a b) 12 50 b (50 + 7 * i + k) = sp_joinN N a b (50 + 7 * (if i < b then i else i + 1) + k) := fun i hi k hk => sp_gone_p j12 (by omega) (by decide) hi hk
  refine ⟨by omega, sp_gone_n j12 (by omega), fun i hi => ?_, fun i hi => ?_, ?_⟩
  · rw [g i hi 0 (by decide), j0]; exact h3 _ (hlt i hi).1
  · rw [g i hi 3 (by decide), g i hi 6 (by decide)]
    have hqc := (hlt i hi).1
    generalize (if i < b then i else i + 1) = q at hqc ⊢
    by_cases hq : q = a
    · subst hq
      rw [j3, j6, hL, hS]
      omega
    · rw [jn q 3 hq (by decide), jn q 6 hq (by decide)]
      exact h4 q hqc
  · rw [sp_sg_c (h := fun i => (fun q => (sp_joinN N a b (50 + 7 * q + 6)).toInt + 1) (if i < b then i else i + 1)) (fun i hi => by rw [g i hi 6 (by decide)])]
    have e := sp_sg_rm (g := fun q => (sp_joinN N a b (50 + 7 * q + 6)).toInt + 1) (p := b) (n := c - 1) (by omega)
    rw [show c - 1 + 1 = c by omega] at e
    have u := sp_sg_up (g := fun q => (N (50 + 7 * q + 6)).toInt + 1) (h := fun q => (sp_joinN N a b (50 + 7 * q + 6)).toInt + 1) (p := a) (n := c) ha (fun i hi hne => by rw [jn i 6 hne (by decide)])
    dsimp only at e u ⊢
    rw [j6, hS] at u
    rw [jn b 6 (Ne.symm hne) (by decide)] at e
    omega
theorem sp_iv_join {T : Int} {N M : Nat → Int32} {x y r : Int32} (hT : T ≤ 1000000) (h : sp_iv T N) (e : sp_join N x y = (r, some M)) : sp_iv T M := by
  unfold sp_join at e
  split at e
  · next hx =>
    split at e
    · next hl =>
      obtain ⟨⟨c, hp⟩, hb, hd, hr⟩ := h
      have hc24 := hp.1
      obtain ⟨a, ha, rfl⟩ := sp_is_n hp.2.1 (by omega) hx.1
      obtain ⟨b, hbc, rfl⟩ := sp_is_n hp.2.1 (by omega) hx.2.1
      have hne : a ≠ b := fun z => hx.2.2 (by rw [z])
      rw [nI_clamp (by omega), nI_clamp (by omega)] at e hl
      have h4 : 0 ≤ (N 4).toInt := by
        have := Int32.le_iff_toInt_le.mp (hr.1 4 (by decide)).1
        have e1 : (sp_lst 4).toInt = 1 := rfl
        omega
      have key : ∀ a b : Nat, a < c → b < c → a ≠ b → N 4 < N (50 + 7 * a + 3) → N 4 < N (50 + 7 * b + 3) → sp_iv T (sp_gone (sp_joinN N a b) 12 50 b) := fun a b ha hbc hne hla hlb => by
        have hx : ∀ j, j ≠ 12 → j < 50 ∨ 218 ≤ j → sp_gone (sp_joinN N a b) 12 50 b j = N j := fun j j1 j2 => by
          rw [sp_gone_x (c := c) (by simp only [sp_joinN]; rw [sp_un (by omega), sp_un (by omega), sp_un (by omega), sp_un (by omega)]; exact hp.2.1) (by omega) j1 (by omega)]
          simp only [sp_joinN]
          rw [sp_un (by omega), sp_un (by omega), sp_un (by omega), sp_un (by omega)]
        exact ⟨⟨c - 1, sp_pv_join hp ha hbc hne hT h4 hla hlb⟩, sp_bo_fr hb (fun j hj => hx j (by omega) (by omega)), sp_dy_fr hd (hx 10 (by omega) (by omega)), sp_rl_fr hr (fun j hj => hx j (by omega) (by omega))⟩
      split at e
      · injection e with e1 e2
        injection e2 with e2
        subst e2
        exact key a b ha hbc hne hl.2.1 hl.2.2
      · injection e with e1 e2
        injection e2 with e2
        subst e2
        exact key b a hbc ha (Ne.symm hne) hl.2.2 hl.2.1
    · cases e
  · cases e
theorem sp_iv_lay {T : Int} {N M : Nat → Int32} {f s y ft r : Int32} (h : sp_iv T N) (e : sp_lay N f s y ft = (r, some M)) : sp_iv (T + 1) M := by
  unfold sp_lay at e
  split at e
  · next hf =>
    split at e
    · next hm =>
      split at e
      · cases e
      · next hfull =>
        split at e
        · obtain ⟨⟨c, hp⟩, hb, hd, hr⟩ := h
          obtain ⟨k, hk, rfl⟩ := rk_in_n (n := 2) rfl (by decide) hf
          have hc24 : c < 24 := by
            have := hp.1
            have : c ≠ 24 := fun z => hfull (by rw [hp.2.1, z]; rfl)
            omega
          rw [nI_clamp (by omega), sp_cN hp.2.1 (by omega)] at e
          injection e with e1 e2
          injection e2 with e2
          subst e2
          obtain ⟨g1, g2, g3, g4, g5⟩ := hp
          have hx : ∀ j, j ≠ 20 + 3 * k + 2 → j ≠ 11 → j ≠ 12 → (j < 50 + 7 * c ∨ 50 + 7 * c + 7 ≤ j) → sp_layN N k c s y ft j = N j := fun j j1 j2 j3 j4 => by
            simp only [sp_layN]
            rw [sp_un (by omega), sp_un (by omega), sp_un (by omega), sp_un (by omega), sp_un (by omega), sp_un (by omega), sp_un (by omega), sp_un (by omega), sp_un (by omega), sp_un (by omega)]
          have n12 : sp_layN N k c s y ft 12 = nI (c + 1) := by
            simp only [sp_layN]
            rw [sp_us, g2, nI_1]
          have n0 : sp_layN N k c s y ft (50 + 7 * c + 0) = nI k := by
            simp only [sp_layN, Nat.add_zero]
            rw [sp_un (by omega), sp_un (by omega), sp_un (by omega), sp_un (by omega), sp_un (by omega), sp_un (by omega), sp_un (by omega), sp_us]
          have n3 : sp_layN N k c s y ft (50 + 7 * c + 3) = ft := by
            simp only [sp_layN]
            rw [sp_un (by omega), sp_un (by omega), sp_un (by omega), sp_un (by omega), sp_us]
          have n6 : sp_layN N k c s y ft (50 + 7 * c + 6) = 0 := by
            simp only [sp_layN]
            rw [sp_un (by omega), sp_us]
          have l1 := Int32.le_iff_toInt_le.mp hm.2.1
          have l2 := Int32.le_iff_toInt_le.mp hm.2.2
          have c1 : (1 : Int32).toInt = 1 := rfl
          have c2 : (2000 : Int32).toInt = 2000 := rfl
          have c0 : (0 : Int32).toInt = 0 := rfl
          refine ⟨⟨c + 1, by omega, n12, fun i hi => ?_, fun i hi => ?_, ?_⟩, sp_bo_fr hb (fun j hj => hx j (by omega) (by omega) (by omega) (by omega)), sp_dy_fr hd (hx 10 (by omega) (by omega) (by omega) (by omega)), sp_rl_fr hr (fun j hj => hx j (by omega) (by omega) (by omega) (by omega))⟩
          · by_cases hi2 : i = c
            · subst hi2; exact ⟨k, by omega, n0⟩
            · rw [hx _ (by omega) (by omega) (by omega) (by omega)]; exact g3 i (by omega)
          · by_cases hi2 : i = c
            · subst hi2; rw [n3, n6]; omega
            · rw [hx _ (by omega) (by omega) (by omega) (by omega), hx _ (by omega) (by omega) (by omega) (by omega)]; exact g4 i (by omega)
          · simp only [sp_sg]
            rw [n6, c0, sp_sg_c (h := fun p => (N (50 + 7 * p + 6)).toInt + 1) (fun i hi => by rw [hx _ (by omega) (by omega) (by omega) (by omega)])]
            omega
        · cases e
    · cases e
  · cases e
theorem sp_iv_order {T : Int} {N M : Nat → Int32} {f st ft mn tr pr r : Int32} (h : sp_iv T N) (e : sp_order N f st ft mn tr pr = (r, some M)) : sp_iv T M := by
  unfold sp_order at e
  split at e
  · next hf =>
    split at e
    · next hm =>
      split at e
      · cases e
      · next hfull =>
        obtain ⟨⟨c, hp⟩, ⟨oc, hoc, h13, hb⟩, ⟨t, ht, ht2⟩, hr⟩ := h
        obtain ⟨k, hk, rfl⟩ := rk_in_n (n := 2) rfl (by decide) hf
        obtain ⟨m, hm2, rfl⟩ := rk_in_n (x := mn) (n := 20) rfl (by decide) ⟨Int32.le_trans (by decide) hm.2.2.1.1, hm.2.2.1.2⟩
        obtain ⟨q, hq, rfl⟩ := rk_in_n (x := tr) (n := 201) rfl (by decide) hm.2.2.2.1
        have hm1 : 1 ≤ m := (nI_leI (a := 1) (by decide) (by omega)).mp hm.2.2.1.1
        have hc16 : oc < 16 := by
          have : oc ≠ 16 := fun z => hfull (by rw [h13, z]; rfl)
          omega
        rw [nI_clamp (by omega), sp_cN h13 (by omega)] at e
        injection e with e1 e2
        injection e2 with e2
        subst e2
        have hx : ∀ j, j ≠ 13 → (j < 220 + 7 * oc ∨ 220 + 7 * oc + 7 ≤ j) → sp_orderN N k oc st ft (nI m) (nI q) pr j = N j := fun j j1 j2 => by
          simp only [sp_orderN]
          rw [sp_un (by omega), sp_un (by omega), sp_un (by omega), sp_un (by omega), sp_un (by omega), sp_un (by omega), sp_un (by omega), sp_un (by omega)]
        have n13 : sp_orderN N k oc st ft (nI m) (nI q) pr 13 = nI (oc + 1) := by
          simp only [sp_orderN]
          rw [sp_us, h13, nI_1]
        have n0 : sp_orderN N k oc st ft (nI m) (nI q) pr (220 + 7 * oc + 0) = nI k := by
          simp only [sp_orderN, Nat.add_zero]
          rw [sp_un (by omega), sp_un (by omega), sp_un (by omega), sp_un (by omega), sp_un (by omega), sp_un (by omega), sp_un (by omega), sp_us]
        have n2 : sp_orderN N k oc st ft (nI m) (nI q) pr (220 + 7 * oc + 2) = ft := by
          simp only [sp_orderN]
          rw [sp_un (by omega), sp_un (by omega), sp_un (by omega), sp_un (by omega), sp_un (by omega), sp_us]
        have n3 : sp_orderN N k oc st ft (nI m) (nI q) pr (220 + 7 * oc + 3) = nI m := by
          simp only [sp_orderN]
          rw [sp_un (by omega), sp_un (by omega), sp_un (by omega), sp_un (by omega), sp_us]
        have n5 : sp_orderN N k oc st ft (nI m) (nI q) pr (220 + 7 * oc + 5) = nI (t + q / 2) := by
          simp only [sp_orderN]
          rw [sp_un (by omega), sp_un (by omega), sp_us, ht2, show (2 : Int32) = nI 2 from rfl, pk_div (by omega) (by decide) (by decide), nI_add]
        have l1 := Int32.le_iff_toInt_le.mp hm.2.1.1
        have c1 : (1 : Int32).toInt = 1 := rfl
        refine ⟨⟨c, sp_pv_fr hp (fun j hj => hx j (by omega) (by omega))⟩, ⟨oc + 1, by omega, n13, fun i hi => ?_⟩, ⟨t, ht, by rw [hx 10 (by omega) (by omega)]; exact ht2⟩, sp_rl_fr hr (fun j hj => hx j (by omega) (by omega))⟩
        by_cases hi2 : i = oc
        · subst hi2
          exact ⟨⟨⟨k, by omega, n0⟩, by rw [n2]; omega⟩, ⟨m, hm1, hm2, n3⟩, t + q / 2, by omega, n5⟩
        · obtain ⟨⟨⟨g, hg, hg0⟩, hl⟩, ⟨n, hn1, hn2, hn3⟩, du, hd, hd2⟩ := hb i (by omega)
          exact ⟨⟨⟨g, hg, by rw [hx _ (by omega) (by omega)]; exact hg0⟩, by rw [hx _ (by omega) (by omega)]; exact hl⟩, ⟨n, hn1, hn2, by rw [hx _ (by omega) (by omega)]; exact hn3⟩, du, hd, by rw [hx _ (by omega) (by omega)]; exact hd2⟩
    · cases e
  · cases e
end MJ

