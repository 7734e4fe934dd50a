section PL
variable {N M : Nat → Int32} {T U : Int}
theorem bp_char (N : Nat → Int32) (P : Nat → Nat → Int32) (O : Nat → Int32) : ∀ n : Nat, n ≤ 24 → (sp_bp N P O n = -6 ∧ ∀ i, i < n → ¬ sp_su N (P i) O) ∨ ∃ q, q < n ∧ sp_bp N P O n = nI q ∧ sp_su N (P q) O ∧ ∀ i, i < n → sp_su N (P i) O → P q 3 ≤ P i 3 ∧ (P i 3 ≤ P q 3 → q ≤ i)
  | 0, _ => Or.inl ⟨rfl, fun i h => absurd h (Nat.not_lt_zero i)⟩
  | n + 1, hn => by
    rcases bp_char N P O n (by omega) with ⟨h1, h2⟩ | ⟨q, h1, h2, h3, h4⟩
    · by_cases hs : sp_su N (P n) O
      · refine Or.inr ⟨n, by omega, sp_bp1 ⟨hs, Or.inl (by rw [h1]; decide)⟩, hs, fun i hi hsi => ?_⟩
        by_cases hin : i = n
        · subst hin; exact ⟨Int32.le_refl _, fun _ => Nat.le_refl _⟩
        · exact absurd hsi (h2 i (by omega))
      · refine Or.inl ⟨(sp_bp0 (fun z => hs z.1)).trans h1, fun i hi => ?_⟩
        by_cases hin : i = n
        · subst hin; exact hs
        · exact h2 i (by omega)
    · have hc : (sp_bp N P O n).toNatClampNeg = q := by rw [h2]; exact nI_clamp (by omega)
      have hneg : ¬ sp_bp N P O n < 0 := by rw [h2]; exact nI_pos (by omega)
      by_cases hb : sp_su N (P n) O ∧ P n 3 < P q 3
      · refine Or.inr ⟨n, by omega, sp_bp1 ⟨hb.1, Or.inr (by rw [hc]; exact hb.2)⟩, hb.1, fun i hi hsi => ?_⟩
        by_cases hin : i = n
        · subst hin; exact ⟨Int32.le_refl _, fun _ => Nat.le_refl _⟩
        · have g := h4 i (by omega) hsi
          have hlt := Int32.lt_of_lt_of_le hb.2 g.1
          exact ⟨Int32.le_of_lt hlt, fun z => absurd z (Int32.not_le.mpr hlt)⟩
      · refine Or.inr ⟨q, by omega, (sp_bp0 (fun z => ?_)).trans h2, h3, fun i hi hsi => ?_⟩
        · rcases z.2 with z2 | z2
          · exact hneg z2
          · rw [hc] at z2; exact hb ⟨z.1, z2⟩
        · by_cases hin : i = n
          · subst hin
            exact ⟨Int32.not_lt.mp (fun z => hb ⟨hsi, z⟩), fun _ => by omega⟩
          · exact h4 i (by omega) hsi
/-- what the law's search has found from m on -/
def sr (L B : Nat → Int32) (F : Int32) (m c : Nat) (v : Int32) : Prop := (v = -1 ∧ ∀ q, m ≤ q → q < c → ¬ (B q = 1 ∧ F ≤ L q)) ∨ ∃ q0, m ≤ q0 ∧ q0 < c ∧ v = nI q0 ∧ (B q0 = 1 ∧ F ≤ L q0) ∧ ∀ q, m ≤ q → q < c → (B q = 1 ∧ F ≤ L q) → L q0 ≤ L q ∧ (L q ≤ L q0 → q0 ≤ q)
theorem sr_keep {L B : Nat → Int32} {F v : Int32} {m c : Nat} (h : sr L B F (m + 1) c v) (hn : ¬ (B m = 1 ∧ F ≤ L m) ∨ ∃ q0, v = nI q0 ∧ q0 < 2 ^ 31 ∧ L q0 < L m) (hc : c < 2 ^ 31) : sr L B F m c v := by
  rcases h with ⟨h1, h2⟩ | ⟨q0, h1, h2, h3, h4, h5⟩
  · refine Or.inl ⟨h1, fun q hq hqc => ?_⟩
    by_cases hqm : q = m
    · subst hqm
      rcases hn with hn | ⟨q1, e1, e2, -⟩
      · exact hn
      · rw [h1] at e1
        have := nI_pos (n := q1) e2
        rw [← e1] at this
        exact absurd (by decide) this
    · exact h2 q (by omega) hqc
  · refine Or.inr ⟨q0, by omega, h2, h3, h4, fun q hq hqc hok => ?_⟩
    by_cases hqm : q = m
    · subst hqm
      rcases hn with hn | ⟨q1, e1, e2, e3⟩
      · exact absurd hok hn
      · have : q1 = q0 := (nI_eq e2 (by omega)).mp (e1.symm.trans h3)
        subst this
        exact ⟨Int32.le_of_lt e3, fun z => absurd z (Int32.not_le.mpr e3)⟩
    · exact h5 q (by omega) hqc hok
theorem sr_take {L B : Nat → Int32} {F v : Int32} {m c : Nat} (h : sr L B F (m + 1) c v) (hm : m < c) (hok : B m = 1 ∧ F ≤ L m) (hn : v = -1 ∨ ∃ q0, v = nI q0 ∧ q0 < 2 ^ 31 ∧ L m ≤ L q0) (hc : c < 2 ^ 31) : sr L B F m c (nI m) := by
  refine Or.inr ⟨m, Nat.le_refl _, hm, rfl, hok, fun q hq hqc hq2 => ?_⟩
  by_cases hqm : q = m
  · subst hqm; exact ⟨Int32.le_refl _, fun _ => Nat.le_refl _⟩
  · rcases h with ⟨h1, h2⟩ | ⟨q0, h1, h2, h3, h4, h5⟩
    · exact absurd hq2 (h2 q (by omega) hqc)
    · have g := h5 q (by omega) hqc hq2
      rcases hn with hn | ⟨q1, e1, e2, e3⟩
      · rw [h3] at hn
        have := nI_pos (n := q0) (by omega)
        rw [hn] at this
        exact absurd (by decide) this
      · have : q1 = q0 := (nI_eq e2 (by omega)).mp (e1.symm.trans h3)
        subst this
        exact ⟨Int32.le_trans e3 g.1, fun _ => by omega⟩
/-- the law's rows and the row of the stock, behind r ropes -/
def fR (N : Nat → Int32) (T U : Int) (o c W f r g : Nat) (M : Nat → Int32) (e : Nat → Nat) (m : Nat) (L B : Nat → Int32) : Prop :=
  m + g = c ∧ r ≤ W ∧ sp_pv T M m ∧ si U M ∧ sp_cf o W N = ((sp_cf o (W - r) M).1, (sp_cf o (W - r) M).2 + r) ∧
  (∀ j, (j < 12 ∨ j = 13 ∨ (16 ≤ j ∧ j < 30) ∨ (220 ≤ j ∧ j ≠ 220 + 7 * o + 3)) → M j = N j) ∧
  M (220 + 7 * o + 3) = nI (W - r) ∧ M 14 = N 14 + nI r ∧ M 15 = N 15 + N (220 + 7 * o + 6) * nI r ∧ (N (30 + 4 * f + 1)).toInt ≤ (M (30 + 4 * f + 1)).toInt ∧
  (∀ i, i < m → e i < c) ∧ (∀ i j, i < j → j < m → e i < e j) ∧
  (∀ i, i < m → M (50 + 7 * i + 3) = L (e i) ∧ L (e i) ≤ N (50 + 7 * (e i) + 3) ∧ B (e i) = sp_b (sp_su N (sp_P N (e i)) (sp_O N o)) ∧ ∀ j, j < 7 → j ≠ 3 → j ≠ 4 → M (50 + 7 * i + j) = N (50 + 7 * (e i) + j)) ∧
  (∀ p, p < c → (∃ i, i < m ∧ e i = p) ∨ (L p = 0 ∧ B p = 0))
theorem sb_1 {p : Prop} : sp_b p = 1 ↔ p := ⟨fun h => by have e := sp_b1i (p := p); rw [← e]; exact h.symm, fun h => (sp_b1 h).symm⟩
theorem st_c {P Q : Nat → Int32} {f : Nat} (hf : f < 3) (h0 : Q 0 = nI f) (e : ∀ j, j < 7 → j ≠ 3 → j ≠ 4 → P j = Q j) (e3 : M 3 = N 3) (ef : M (20 + 3 * f) = N (20 + 3 * f)) : sp_st M P = sp_st N Q := by
  have k0 : (P 0).toNatClampNeg = f := by rw [e 0 (by decide) (by decide) (by decide), h0]; exact nI_clamp (by omega)
  have k1 : (Q 0).toNatClampNeg = f := by rw [h0]; exact nI_clamp (by omega)
  unfold sp_st
  rw [k0, k1, e3, ef, e 1 (by decide) (by decide) (by decide), e 2 (by decide) (by decide) (by decide), e 5 (by decide) (by decide) (by decide), e 6 (by decide) (by decide) (by decide)]
theorem fR.su {o c W f r g m : Nat} {e : Nat → Nat} {L B : Nat → Int32} (h : fR N T U o c W f r g M e m L B) (hN : sp_pv T N c) {i : Nat} (hi : i < m) : sp_su M (sp_P M i) (sp_O M o) ↔ (B (e i) = 1 ∧ N (220 + 7 * o + 2) ≤ L (e i)) := by
  obtain ⟨h1, h2, h3, h4, h5, h6, h7, h8, h9, h10, h11, h12, h13, h14⟩ := h
  obtain ⟨a1, a2, a3, a4⟩ := h13 i hi
  obtain ⟨f1, hf1, ef1⟩ := hN.2.2.1 (e i) (h11 i hi)
  have est : sp_st M (sp_P M i) = sp_st N (sp_P N (e i)) := st_c hf1 ef1 (fun j x1 x2 x3 => a4 j x1 x2 x3) (h6 3 (by omega)) (h6 _ (by omega))
  have o0 : M (220 + 7 * o + 0) = N (220 + 7 * o + 0) := h6 _ (by omega)
  have o1 : M (220 + 7 * o + 1) = N (220 + 7 * o + 1) := h6 _ (by omega)
  have o2 : M (220 + 7 * o + 2) = N (220 + 7 * o + 2) := h6 _ (by omega)
  have o4 : M (220 + 7 * o + 4) = N (220 + 7 * o + 4) := h6 _ (by omega)
  have q0 := a4 0 (by decide) (by decide) (by decide)
  have q6 := a4 6 (by decide) (by decide) (by decide)
  rw [a3, sb_1]
  unfold sp_su
  rw [est]
  simp only [sp_P, sp_O]
  rw [q0, q6, o0, o1, o2, o4, a1]
  constructor
  · rintro ⟨z1, z2, z3, z4⟩
    exact ⟨⟨z1, Int32.le_trans z2 a2, z3, z4⟩, z2⟩
  · rintro ⟨⟨z1, _, z3, z4⟩, z2⟩
    exact ⟨z1, z2, z3, z4⟩
/-- both find the same piece -/
theorem fR.find {o c W f r g m : Nat} {e : Nat → Nat} {L B : Nat → Int32} {v : Int32} (h : fR N T U o c W f r g M e m L B) (hN : sp_pv T N c) (hs : sr L B (N (220 + 7 * o + 2)) 0 c v) : (v = -1 ∧ sp_bq M o < 0) ∨ ∃ i, i < m ∧ v = nI (e i) ∧ sp_bq M o = nI i ∧ sp_su M (sp_P M i) (sp_O M o) := by
  have hsu := fun i hi => h.su hN (i := i) hi
  obtain ⟨h1, h2, h3, h4, h5, h6, h7, h8, h9, h10, h11, h12, h13, h14⟩ := h
  have hm24 : m ≤ 24 := h3.1
  have ebq : sp_bq M o = sp_bp M (sp_P M) (sp_O M o) m := by unfold sp_bq; rw [sp_cN h3.2.1 (by omega)]
  rw [ebq]
  have alive : ∀ q, q < c → B q = 1 → ∃ i, i < m ∧ e i = q := fun q hq hb => by
    rcases h14 q hq with z | ⟨_, z⟩
    · exact z
    · rw [z] at hb; exact absurd hb (by decide)
  rcases bp_char M (sp_P M) (sp_O M o) m hm24 with ⟨b1, b2⟩ | ⟨i0, b1, b2, b3, b4⟩
  · refine Or.inl ⟨?_, by rw [b1]; decide⟩
    rcases hs with ⟨s1, -⟩ | ⟨q0, s1, s2, s3, s4, s5⟩
    · exact s1
    · obtain ⟨i, hi, rfl⟩ := alive q0 s2 s4.1
      exact absurd ((hsu i hi).mpr s4) (b2 i hi)
  · refine Or.inr ⟨i0, b1, ?_, b2, b3⟩
    have hok := (hsu i0 b1).mp b3
    rcases hs with ⟨s1, s2⟩ | ⟨q0, s1, s2, s3, s4, s5⟩
    · exact absurd hok (s2 (e i0) (Nat.zero_le _) (h11 i0 b1))
    · obtain ⟨i1, hi1, rfl⟩ := alive q0 s2 s4.1
      have g1 := b4 i1 hi1 ((hsu i1 hi1).mpr s4)
      have g2 := s5 (e i0) (Nat.zero_le _) (h11 i0 b1) hok
      have l0 : M (50 + 7 * i0 + 3) = L (e i0) := (h13 i0 b1).1
      have l1 : M (50 + 7 * i1 + 3) = L (e i1) := (h13 i1 hi1).1
      have le1 : L (e i0) ≤ L (e i1) := by rw [← l0, ← l1]; exact g1.1
      have i01 : i0 ≤ i1 := g1.2 (by show M (50 + 7 * i1 + 3) ≤ M (50 + 7 * i0 + 3); rw [l0, l1]; exact g2.1)
      have e10 : e i1 ≤ e i0 := g2.2 le1
      have : i0 = i1 := by
        refine Classical.byContradiction (fun z => ?_)
        have := h12 i0 i1 (by omega) hi1
        omega
      rw [s3, this]
theorem sold_up {c p f : Nat} {feet : Int32} (h : si U N) (hU : U ≤ 2000000000) (hc : N 12 = nI c) (hc2 : c ≤ 24) (hp : p < c) (hf : f < 3) (h0 : N (50 + 7 * p + 0) = nI f) (hL : 0 < (N (50 + 7 * p + 3)).toInt) (hf0 : 0 ≤ feet.toInt) (hfl : feet.toInt ≤ (N (50 + 7 * p + 3)).toInt) : (N (30 + 4 * f + 1)).toInt ≤ (N (30 + 4 * f + 1) + sp_yin (N (50 + 7 * p + 4)) feet (N (50 + 7 * p + 3))).toInt := by
  have ec : sp_c N 12 = c := sp_cN hc (by omega)
  obtain ⟨h1, h2⟩ := h
  rw [ec] at h1 h2
  have hyp := rk_yin_t (h1 p hp) hf0 hL hfl
  have hone := sy_one (f := f) h1 hp
  rw [sy_t1 h0] at hone
  obtain ⟨s1, s2, s3, s4, s5, s6⟩ := h2 f hf
  rw [rk_add_t (by omega) (by omega)]
  omega
/-- one rope more -/
theorem fR.step {o c W f r g m i : Nat} {e : Nat → Nat} {L B L' B' : Nat → Int32} (h : fR N T U o c W f r g M e m L B) (hU : U ≤ 2000000000) (ho : o < 16) (hf : f < 3) (hof : N (220 + 7 * o + 0) = nI f) (hF : 0 < (N (220 + 7 * o + 2)).toInt) (hr : r < W) (hi : i < m) (hb : sp_bq M o = nI i) (hsu : sp_su M (sp_P M i) (sp_O M o)) (hcs : (¬ (L (e i) - N (220 + 7 * o + 2) = 0 ∨ L (e i) - N (220 + 7 * o + 2) < N 6) ∧ L' = sp_u L (e i) (L (e i) - N (220 + 7 * o + 2)) ∧ B' = B) ∨ ((L (e i) - N (220 + 7 * o + 2) = 0 ∨ L (e i) - N (220 + 7 * o + 2) < N 6) ∧ L' = sp_u L (e i) 0 ∧ B' = sp_u B (e i) 0)) : ∃ g' e' m', (L' = sp_u L (e i) 0 → B' = sp_u B (e i) 0 → (L (e i) - N (220 + 7 * o + 2) = 0 ∨ L (e i) - N (220 + 7 * o + 2) < N 6) → g' = g + 1) ∧ (¬ (L (e i) - N (220 + 7 * o + 2) = 0 ∨ L (e i) - N (220 + 7 * o + 2) < N 6) → g' = g) ∧ fR N T U o c W f (r + 1) g' (sp_step M o i) e' m' L' B' := by
  obtain ⟨h1, h2, h3, h4, h5, h6, h7, h8, h9, h10, h11, h12, h13, h14⟩ := h
  have hm24 : m ≤ 24 := h3.1
  obtain ⟨a1, a2, a3, a4⟩ := h13 i hi
  have o0 : M (220 + 7 * o) = nI f := (h6 _ (by omega)).trans hof
  have o2 : M (220 + 7 * o + 2) = N (220 + 7 * o + 2) := h6 _ (by omega)
  have o6 : M (220 + 7 * o + 6) = N (220 + 7 * o + 6) := h6 _ (by omega)
  have ef : M (50 + 7 * i + 0) = nI f := by
    have z : M (50 + 7 * i + 0) = M (220 + 7 * o + 0) := hsu.1
    exact z.trans o0
  have eso : sp_c M (220 + 7 * o) = f := sp_cN o0 (by omega)
  have hL := (h3.2.2.2.1 i hi).1
  have hfl : (M (220 + 7 * o + 2)).toInt ≤ (M (50 + 7 * i + 3)).toInt := Int32.le_iff_toInt_le.mp hsu.2.1
  have hF2 : 0 < (M (220 + 7 * o + 2)).toInt := by rw [o2]; exact hF
  have hs2 := si_step h4 hU h3.2.1 hm24 hi ho hf ef o0 hL (by omega) hfl
  obtain ⟨n, hn⟩ : ∃ n, W - r = n + 1 := ⟨W - r - 1, by omega⟩
  have hn2 : W - (r + 1) = n := by omega
  have k5 : sp_cf o W N = ((sp_cf o (W - (r + 1)) (sp_step M o i)).1, (sp_cf o (W - (r + 1)) (sp_step M o i)).2 + (r + 1)) := by
    rw [h5, hn, sp_cf1 hb (by omega), hn2]
    simp only [Prod.mk.injEq, true_and]
    omega
  have sx : ∀ j, j ≠ 12 → j ≠ 30 + 4 * f + 3 → (j < 50 ∨ 218 ≤ j) → j ≠ 30 + 4 * f + 1 → j ≠ 220 + 7 * o + 3 → j ≠ 14 → j ≠ 15 → sp_step M o i j = M j := fun j j1 j2 j3 j4 j5 j6 j7 => sp_step_x h3.2.1 hm24 hi hf ef hf o0 rfl j1 j2 j3 j4 j5 j6 j7
  have k6 : ∀ j, (j < 12 ∨ j = 13 ∨ (16 ≤ j ∧ j < 30) ∨ (220 ≤ j ∧ j ≠ 220 + 7 * o + 3)) → sp_step M o i j = N j := fun j hj => (sx j (by omega) (by omega) (by omega) (by omega) (by omega) (by omega) (by omega)).trans (h6 j hj)
  have k7 : sp_step M o i (220 + 7 * o + 3) = nI (W - (r + 1)) := by
    simp only [sp_step, eso]
    rw [sp_un (by omega), sp_un (by omega), sp_us, h7, hn, hn2, nI_pred]
  have k8 : sp_step M o i 14 = N 14 + nI (r + 1) := by
    simp only [sp_step, eso]
    rw [sp_un (by omega), sp_us, h8, nI_succ, Int32.add_assoc]
  have k9 : sp_step M o i 15 = N 15 + N (220 + 7 * o + 6) * nI (r + 1) := by
    simp only [sp_step, eso]
    rw [sp_us, h9, o6, nI_succ]
    grind
  have k10 : (N (30 + 4 * f + 1)).toInt ≤ (sp_step M o i (30 + 4 * f + 1)).toInt := by
    have e1 : sp_step M o i (30 + 4 * f + 1) = M (30 + 4 * f + 1) + sp_yin (M (50 + 7 * i + 4)) (M (220 + 7 * o + 2)) (M (50 + 7 * i + 3)) := by
      simp only [sp_step, eso]
      rw [sp_un (by omega), sp_un (by omega), sp_un (by omega), sp_us]
    rw [e1]
    exact Int.le_trans h10 (sold_up h4 hU h3.2.1 hm24 hi hf ef hL (by omega) hfl)
  have spc : ∀ j, j = 12 ∨ (50 ≤ j ∧ j < 218) → sp_step M o i j = sp_cut M i (M (220 + 7 * o + 2)) j := fun j hj => by
    simp only [sp_step, eso]
    rw [sp_un (by omega), sp_un (by omega), sp_un (by omega), sp_un (by omega)]
  obtain ⟨m1, hm1, hv1⟩ := sp_pv_step h3 ho hi hF2 hfl (by rw [eso]; exact hf)
  have m6 : M 6 = N 6 := h6 6 (by omega)
  have einj : ∀ a b, a < m → b < m → e a = e b → a = b := fun a b ha hb he => by
    refine Classical.byContradiction (fun z => ?_)
    rcases Nat.lt_or_gt_of_ne z with q | q
    · have := h12 a b q hb; omega
    · have := h12 b a q ha; omega
  rcases hcs with ⟨hst, rfl, rfl⟩ | ⟨hgo, rfl, rfl⟩
  · -- the piece stays
    have hst1 : ¬ M (50 + 7 * i + 3) - M (220 + 7 * o + 2) = 0 := by rw [a1, o2]; exact fun z => hst (Or.inl z)
    have hst2 : ¬ M (50 + 7 * i + 3) - M (220 + 7 * o + 2) < M 6 := by rw [a1, o2, m6]; exact fun z => hst (Or.inr z)
    have ec := cut_r (N := M) hst1 hst2
    have e12 : sp_step M o i 12 = nI m := by rw [spc 12 (Or.inl rfl), ec]; exact (sp_cut1_x (by omega) (by omega)).trans h3.2.1
    have hmm : m1 = m := (nI_eq (by omega) (by omega)).mp (hv1.2.1.symm.trans e12)
    subst hmm
    refine ⟨g, e, m1, fun _ _ z => absurd z hst, fun _ => rfl, h1, by omega, hv1, hs2, k5, k6, k7, k8, k9, k10, h11, h12, fun i2 hi2 => ?_, fun p hp => ?_⟩
    · obtain ⟨b1, b2, b3, b4⟩ := h13 i2 hi2
      have hcell : ∀ j, j < 7 → j ≠ 3 → j ≠ 4 → sp_step M o i (50 + 7 * i2 + j) = N (50 + 7 * (e i2) + j) := fun j j1 j2 j3 => by
        rw [spc _ (by omega), ec, sp_cut1_x (by omega) (by omega)]; exact b4 j j1 j2 j3
      by_cases hii : i2 = i
      · subst hii
        refine ⟨?_, ?_, b3, hcell⟩
        · rw [spc _ (by omega), ec, sp_cut1_3, sp_us, a1, o2]
        · rw [sp_us]
          refine Int32.le_trans ?_ a2
          refine Int32.le_iff_toInt_le.mpr ?_
          have hh : (N (220 + 7 * o + 2)).toInt ≤ (L (e i2)).toInt := by rw [← a1, ← o2]; exact hfl
          rw [rk_sub_t (by omega) hh]
          omega
      · have hne : e i2 ≠ e i := fun z => hii (einj _ _ hi2 hi z)
        refine ⟨?_, ?_, b3, hcell⟩
        · rw [spc _ (by omega), ec, sp_cut1_x (by omega) (by omega), sp_un hne]; exact b1
        · rw [sp_un hne]; exact b2
    · rcases h14 p hp with z | ⟨z1, z2⟩
      · exact Or.inl z
      · by_cases hpe : p = e i
        · exact Or.inl ⟨i, hi, hpe.symm⟩
        · exact Or.inr ⟨by rw [sp_un hpe]; exact z1, z2⟩
  · -- the piece is gone
    have hgo2 : M (50 + 7 * i + 3) - M (220 + 7 * o + 2) = 0 ∨ M (50 + 7 * i + 3) - M (220 + 7 * o + 2) < M 6 := by rw [a1, o2, m6]; exact hgo
    obtain ⟨g1, g2, g3, g4⟩ := cut_g hgo2 h3.2.1 hm24 hi hf ef
    have e12 : sp_step M o i 12 = nI (m - 1) := by rw [spc 12 (Or.inl rfl)]; exact g1
    have hmm : m1 = m - 1 := (nI_eq (by omega) (by omega)).mp (hv1.2.1.symm.trans e12)
    subst hmm
    have hsk : ∀ i2, i2 < m - 1 → (if i2 < i then i2 else i2 + 1) < m ∧ (if i2 < i then i2 else i2 + 1) ≠ i := fun i2 h => by split <;> omega
    refine ⟨g + 1, fun i2 => e (if i2 < i then i2 else i2 + 1), m - 1, fun _ _ _ => rfl, fun z => absurd hgo z, by omega, by omega, hv1, hs2, k5, k6, k7, k8, k9, k10, fun i2 hi2 => h11 _ (hsk i2 hi2).1, fun a b hab hb => h12 _ _ ?_ (hsk b hb).1, fun i2 hi2 => ?_, fun p hp => ?_⟩
    · split <;> split <;> omega
    · obtain ⟨s1, s2⟩ := hsk i2 hi2
      obtain ⟨b1, b2, b3, b4⟩ := h13 _ s1
      have hne : e (if i2 < i then i2 else i2 + 1) ≠ e i := fun z => s2 (einj _ _ s1 hi z)
      refine ⟨?_, ?_, ?_, fun j j1 j2 j3 => ?_⟩
      · rw [spc _ (by omega), g2 i2 hi2 3 (by decide), sp_un hne]; exact b1
      · rw [sp_un hne]; exact b2
      · rw [sp_un hne]; exact b3
      · rw [spc _ (by omega), g2 i2 hi2 j j1]; exact b4 j j1 j2 j3
    · by_cases hpe : p = e i
      · exact Or.inr ⟨by rw [hpe, sp_us], by rw [hpe, sp_us]⟩
      · rcases h14 p hp with ⟨i2, hi2, z⟩ | ⟨z1, z2⟩
        · have hii : i2 ≠ i := fun q => hpe (by rw [← z, q])
          refine Or.inl ⟨if i2 < i then i2 else i2 - 1, ?_, ?_⟩
          · split <;> omega
          · show e (if (if i2 < i then i2 else i2 - 1) < i then (if i2 < i then i2 else i2 - 1) else (if i2 < i then i2 else i2 - 1) + 1) = p
            rw [← z]
            congr 1
            by_cases hlt : i2 < i
            · rw [if_pos hlt, if_pos hlt]
            · rw [if_neg hlt, if_neg (by omega)]; omega
        · exact Or.inr ⟨by rw [sp_un hpe]; exact z1, by rw [sp_un hpe]; exact z2⟩
end PL
