section PI
variable {w : rk_W} {l : Launch} {Sh : rk_Sh} {rg : Nat → Nat} {I I1 : rk_Mm} {R R1 : rk_Rm} {N M : Nat → Int32} {T T' U : Int} {x k : Nat}
/-! what a rope takes, in whole numbers -/
def sA (la ft : Nat) : Nat := (ft * (100 + la) + 100 - 1) / 100
def yA (la tw ft : Nat) : Nat := (sA la ft * (100 + tw) + 100 - 1) / 100
def hA (la v s ft : Nat) : Nat := (s * sA la ft + v - 1) / v
theorem sA_b {la ft : Nat} (hl : la ≤ 40) (hf : ft ≤ 2000) (h1 : 1 ≤ ft) : 1 ≤ sA la ft ∧ sA la ft ≤ 2800 := by
  have hm : ft * (100 + la) ≤ 2000 * 140 := Nat.mul_le_mul hf (by omega)
  have hm1 : 1 * 100 ≤ ft * (100 + la) := Nat.mul_le_mul h1 (by omega)
  unfold sA
  omega
theorem yA_b {la tw ft : Nat} (hl : la ≤ 40) (htw : tw ≤ 60) (hf : ft ≤ 2000) (h1 : 1 ≤ ft) : yA la tw ft ≤ 4481 := by
  have hs := (sA_b hl hf h1).2
  have hm : sA la ft * (100 + tw) ≤ 2800 * 160 := Nat.mul_le_mul hs (by omega)
  unfold yA
  omega
theorem hA_1 {la v s ft : Nat} (hl : la ≤ 40) (hf : ft ≤ 2000) (h1 : 1 ≤ ft) (hs : 1 ≤ s) (hv : 0 < v) : 1 ≤ hA la v s ft := by
  have hs1 := (sA_b hl hf h1).1
  have hm : 1 * 1 ≤ s * sA la ft := Nat.mul_le_mul hs hs1
  unfold hA
  exact (Nat.le_div_iff_mul_le hv).mpr (by omega)
theorem sA_m {la a b : Nat} (h : a ≤ b) : sA la a ≤ sA la b := by
  unfold sA
  have hm : a * (100 + la) ≤ b * (100 + la) := Nat.mul_le_mul_right _ h
  exact Nat.div_le_div_right (by omega)
theorem yA_m {la tw a b : Nat} (h : a ≤ b) : yA la tw a ≤ yA la tw b := by
  unfold yA
  have hm : sA la a * (100 + tw) ≤ sA la b * (100 + tw) := Nat.mul_le_mul_right _ (sA_m h)
  exact Nat.div_le_div_right (by omega)
theorem hA_m {la v s a b : Nat} (h : a ≤ b) : hA la v s a ≤ hA la v s b := by
  unfold hA
  have hm : s * sA la a ≤ s * sA la b := Nat.mul_le_mul_left _ (sA_m h)
  exact Nat.div_le_div_right (by omega)
theorem strand_e {la ft : Nat} (e2 : N 2 = nI la) (hl : la ≤ 40) (hf : ft ≤ 2000) : nI ft * (100 + N 2) = nI (ft * (100 + la)) ∧ sp_strand N (nI ft) = nI (sA la ft) := by
  have hm : ft * (100 + la) ≤ 2000 * 140 := Nat.mul_le_mul hf (by omega)
  have e : nI ft * (100 + N 2) = nI (ft * (100 + la)) := by rw [e2, rk_lit 100, nI_add, pk_mul]
  refine ⟨e, ?_⟩
  unfold sp_strand
  rw [e]
  exact sp_up_n (b := 100) (by decide) (by omega)
theorem yarn_e {la tw ft : Nat} (e2 : N 2 = nI la) (hl : la ≤ 40) (e1 : N 1 = nI tw) (ht : tw ≤ 60) (hf : ft ≤ 2000) (h1 : 1 ≤ ft) : sp_strand N (nI ft) * (100 + N 1) = nI (sA la ft * (100 + tw)) ∧ sp_yarn N (nI ft) = nI (yA la tw ft) := by
  have hs := (sA_b hl hf h1).2
  have hm : sA la ft * (100 + tw) ≤ 2800 * 160 := Nat.mul_le_mul hs (by omega)
  have e : sp_strand N (nI ft) * (100 + N 1) = nI (sA la ft * (100 + tw)) := by rw [(strand_e e2 hl hf).2, e1, rk_lit 100, nI_add, pk_mul]
  refine ⟨e, ?_⟩
  unfold sp_yarn
  rw [e]
  exact sp_up_n (b := 100) (by decide) (by omega)
theorem hours_e {la v s ft : Nat} (e2 : N 2 = nI la) (hl : la ≤ 40) (e8 : N 8 = nI v) (hv : 0 < v) (hv2 : v ≤ 500) (hs : s ≤ 4) (hf : ft ≤ 2000) (h1 : 1 ≤ ft) : nI s * sp_strand N (nI ft) = nI (s * sA la ft) ∧ sp_hours N (nI s) (nI ft) = nI (hA la v s ft) ∧ hA la v s ft ≤ 12000 := by
  have h2 := (sA_b hl hf h1).2
  have hm : s * sA la ft ≤ 4 * 2800 := Nat.mul_le_mul hs h2
  have e : nI s * sp_strand N (nI ft) = nI (s * sA la ft) := by rw [(strand_e e2 hl hf).2, pk_mul]
  refine ⟨e, ?_, ?_⟩
  · unfold sp_hours
    rw [e, e8]
    exact sp_up_n hv (by omega)
  · have : (s * sA la ft + v - 1) / v ≤ s * sA la ft + v - 1 := Nat.div_le_self _ _
    unfold hA
    omega
/-- a shorter rope can be laid too -/
theorem can_mono {la tw v j a b ft ft' : Nat} (e2 : N 2 = nI la) (hl : la ≤ 40) (e1 : N 1 = nI tw) (ht : tw ≤ 60) (e8 : N 8 = nI v) (hv : 0 < v) (hv2 : v ≤ 500) (ha : a ≤ 4) (hb : b ≤ 4) (hf : ft ≤ 2000) (h1 : 1 ≤ ft') (hle : ft' ≤ ft) (h : sp_can N j (nI a) (nI b) (nI ft)) : sp_can N j (nI a) (nI b) (nI ft') := by
  have hab : a * b ≤ 4 * 4 := Nat.mul_le_mul ha hb
  have s1 := (strand_e (ft := ft) e2 hl hf).2
  have s2 := (strand_e (ft := ft') e2 hl (by omega)).2
  have b1 := sA_b (ft := ft) hl hf (by omega)
  have y1 := (yarn_e (ft := ft) e2 hl e1 ht hf (by omega)).2
  have y2 := (yarn_e (ft := ft') e2 hl e1 ht (by omega) h1).2
  have c1 := yA_b (ft := ft) hl ht hf (by omega)
  have h1' := hours_e (s := a) (ft := ft) e2 hl e8 hv hv2 ha hf (by omega)
  have h2' := hours_e (s := a) (ft := ft') e2 hl e8 hv hv2 ha (by omega) h1
  have m1 := sA_m (la := la) hle
  have m2 := yA_m (la := la) (tw := tw) hle
  have m3 := hA_m (la := la) (v := v) (s := a) hle
  have m4 : a * b * yA la tw ft' ≤ a * b * yA la tw ft := Nat.mul_le_mul_left _ m2
  have m5 : a * b * yA la tw ft ≤ 4 * 4 * 4481 := Nat.mul_le_mul hab c1
  obtain ⟨k1, k2, k3⟩ := h
  refine ⟨Int32.le_trans ?_ k1, Int32.le_trans ?_ k2, Int32.le_trans ?_ k3⟩
  · rw [s1, s2]; exact nI_le m1 (by omega)
  · rw [y1, y2, pk_mul, pk_mul, pk_mul]; exact nI_le m4 (by omega)
  · rw [h1'.2.1, h2'.2.1]; exact nI_le m3 (by omega)
theorem last_ge {P : Nat → Prop} {m : Nat} : ∀ n, m ≤ n → 1 ≤ m → n < 2 ^ 20 → P m → nI m ≤ sp_last P n
  | 0, h, h1, _, _ => by omega
  | n + 1, h, h1, h2, hP => by
    by_cases hn : P (n + 1)
    · rw [← sp_last1 hn]; exact nI_le h (by omega)
    · rw [sp_last0 hn]
      have : m ≠ n + 1 := fun z => hn (z ▸ hP)
      exact last_ge n (by omega) h1 (by omega) hP
theorem last_lt {P : Nat → Prop} {m : Nat} (h1 : 1 ≤ m) (hm : m < 2 ^ 20) : ∀ n, (∀ j, m ≤ j → j ≤ n → ¬ P j) → n < 2 ^ 20 → sp_last P n < nI m
  | 0, _, _ => Int32.lt_of_lt_of_le (show (-6 : Int32) < 0 by decide) (nI_pos' (by omega))
  | n + 1, h, h2 => by
    by_cases hn : P (n + 1)
    · rw [← sp_last1 hn]
      refine nI_lt ?_ (by omega)
      refine Nat.lt_of_not_le (fun z => h (n + 1) z (Nat.le_refl _) hn)
    · rw [sp_last0 hn]
      exact last_lt h1 hm n (fun j a b => h j a (by omega)) (by omega)
theorem first_le {P : Nat → Prop} {m : Nat} (hm : m < 2 ^ 20) (hP : P m) : ∀ n i, i ≤ m → m < i + n → sp_first P n i ≤ nI m
  | 0, i, h1, h2 => by omega
  | n + 1, i, h1, h2 => by
    by_cases hi : P i
    · rw [← sp_first1 hi]; exact nI_le h1 (by omega)
    · rw [sp_first0 hi]
      have : m ≠ i := fun z => hi (z ▸ hP)
      exact first_le hm hP n (i + 1) (by omega) (by omega)
theorem spq_b : ∀ a, a < 61 → ∀ b, b < 61 → 0 ≤ spq (nI a) (nI b) ∧ spq (nI a) (nI b) ≤ 100 := by decide +kernel
theorem qual_n {f : Nat} (hr : sp_rl N) (hf : f < 3) : ∃ q, q ≤ 100 ∧ sp_qual N f = nI q := by
  have h1 := hr.1 1 (by decide)
  have h2 := (hr.2 f hf).2
  obtain ⟨a, ha, ea⟩ := rk_nat (m := 60) (by decide) (Int32.le_trans (show (0 : Int32) ≤ sp_lst 1 by decide) h1.1) (show N 1 ≤ nI 60 from h1.2)
  obtain ⟨b, hb, eb⟩ := rk_nat (m := 60) (by decide) (Int32.le_trans (show (0 : Int32) ≤ 10 by decide) h2.1) (show N (20 + 3 * f + 1) ≤ nI 60 from h2.2)
  have h := spq_b a (by omega) b (by omega)
  rw [← ea, ← eb] at h
  exact rk_nat (m := 100) (by decide) h.1 h.2
theorem news_b {f a b : Nat} (hr : sp_rl N) (hf : f < 3) (ha : a ≤ 4) (hb : b ≤ 4) : sp_news N f (nI a) (nI b) ≤ 50000 := by
  obtain ⟨q, hq, eq⟩ := qual_n hr hf
  have h2 := (hr.2 f hf).1
  obtain ⟨s, hs, es⟩ := rk_nat (m := 200) (by decide) (Int32.le_trans (show (0 : Int32) ≤ 1 by decide) h2.1) (show N (20 + 3 * f) ≤ nI 200 from h2.2)
  have m1 : a * b ≤ 4 * 4 := Nat.mul_le_mul ha hb
  have m2 : a * b * s ≤ 4 * 4 * 200 := Nat.mul_le_mul m1 hs
  have m3 : a * b * s * q ≤ 4 * 4 * 200 * 100 := Nat.mul_le_mul m2 hq
  unfold sp_news
  rw [eq, es, pk_mul, pk_mul, pk_mul, show (100 : Int32) = nI 100 from rfl, pk_div (by omega) (by decide) (by decide)]
  exact nI_le (b := 50000) (by omega) (by decide)
theorem cL_up_v {v b r : Int32} {a c : Nat} (ev : v = nI a) (eb : b = nI c) (hb : 0 < c) (hv : a + c < 2 ^ 31) (e : sp_up v b = r) : rk_P w l rk_mL_up 1 [rk_i v, rk_i b] Sh I R r := by
  subst e ev eb
  exact cL_up_s hb hv
theorem rk_mk {s y : Nat} (hs : 3 ≤ s ∧ s ≤ 4) (hy : 1 ≤ y ∧ y ≤ 4) : ((3 : Int32) ≤ nI s ∧ nI s ≤ 4) ∧ ((1 : Int32) ≤ nI y ∧ nI y ≤ 40) := ⟨⟨nI_le (a := 3) hs.1 (by omega), nI_le (b := 4) hs.2 (by decide)⟩, nI_le (a := 1) hy.1 (by omega), nI_le (b := 40) (by omega) (by decide)⟩
theorem rk_mft {ft : Nat} (h : 1 ≤ ft ∧ ft ≤ 2000) : (1 : Int32) ≤ nI ft ∧ nI ft ≤ 2000 := ⟨nI_le (a := 1) h.1 (by omega), nI_le (b := 2000) h.2 (by decide)⟩
theorem lq_takes {f s y ft : Nat} {kk r : Int32} (h : lY rg I R x T N) (hf : f < 3) (hs : 3 ≤ s ∧ s ≤ 4) (hy : 1 ≤ y ∧ y ≤ 4) (hft : 1 ≤ ft ∧ ft ≤ 2000) (e : sp_take N f (nI s) (nI y) (nI ft) kk = r) : rk_P w l rk_mX10_takes 7 [rk_a 11 x, rk_i (nI f), rk_i (nI s), rk_i (nI y), rk_i (nI ft), rk_i kk] Sh I R r := by
  obtain ⟨n, Hs, F, Sv, V, X⟩ := h
  refine rk_P.eq (cX10_takes_s V X (nI f) (nI s) (nI y) (nI ft) kk) ?_
  unfold sp_takes
  rw [if_pos (rk_fibre hf), if_pos ⟨rk_mk hs hy, rk_mft hft⟩, nI_clamp (by omega), e]
theorem lq_longest {f s y : Nat} (h : lY rg I R x T N) (hf : f < 3) (hs : 3 ≤ s ∧ s ≤ 4) (hy : 1 ≤ y ∧ y ≤ 4) : rk_P w l rk_mX10_longest 7 [rk_a 11 x, rk_i (nI f), rk_i (nI s), rk_i (nI y)] Sh I R (sp_last (fun ft => sp_can N f (nI s) (nI y) (nI ft)) 2000) := by
  obtain ⟨n, Hs, F, Sv, V, X⟩ := h
  refine rk_P.eq (cX10_longest_s V X (nI f) (nI s) (nI y)) ?_
  unfold sp_longest
  rw [if_pos (rk_fibre hf), if_pos (rk_mk hs hy), nI_clamp (by omega)]
theorem lq_least {f s : Nat} {st : Int32} (h : lY rg I R x T N) (hf : f < 3) (hs : 3 ≤ s ∧ s ≤ 4) (h1 : 0 < st) (h2 : st ≤ 50000) : rk_P w l rk_mX10_leastYarns 7 [rk_a 11 x, rk_i (nI f), rk_i (nI s), rk_i st] Sh I R (sp_first (fun y => st ≤ sp_news N f (nI s) (nI y)) 40 1) := by
  obtain ⟨n, Hs, F, Sv, V, X⟩ := h
  refine rk_P.eq (cX10_leastYarns_s V X (nI f) (nI s) st) ?_
  have h3 : (1 : Int32) ≤ st := by
    refine Int32.le_iff_toInt_le.mpr ?_
    have g := Int32.lt_iff_toInt_lt.mp h1
    have g1 : (1 : Int32).toInt = 1 := rfl
    have g0 : (0 : Int32).toInt = 0 := rfl
    omega
  unfold sp_least
  rw [if_pos (rk_fibre hf), if_pos ⟨⟨nI_le (a := 3) hs.1 (by omega), nI_le (b := 4) hs.2 (by decide)⟩, h3, h2⟩, nI_clamp (by omega)]
theorem lY.u11 (h : lY rg I R x T N) : ∃ u, u ≤ 24 ∧ N 11 = nI u := by
  obtain ⟨n, Hs, F, Sv, V, X⟩ := h
  exact X.2.1.2.2.2.2.2.2.2.2.2
theorem left_lay {f c s y ft u hh hn : Nat} (h7 : N 7 = nI hh) (hh2 : hh ≤ 24) (h11 : N 11 = nI u) (hu : u ≤ 24) (hhn : sp_hours N (nI s) (nI ft) = nI hn) (h1 : 1 ≤ hn) (hn2 : hn ≤ 12000) (hle : sp_hours N (nI s) (nI ft) ≤ sp_left N) (hf : f < 3) : sp_left (sp_layN N f c (nI s) (nI y) (nI ft)) = sp_left N - sp_hours N (nI s) (nI ft) := by
  obtain ⟨-, g1, g2⟩ := rk_left hh2 hu h7 h11
  have hlt : u < hh := by
    refine Classical.byContradiction (fun z => ?_)
    rw [g2 z, hhn] at hle
    exact absurd hle (nI_nle (by omega) (by omega))
  have gl := g1 hlt
  rw [gl, hhn] at hle
  have hn3 : hn ≤ hh - u := (nI_leI (by omega) (by omega)).mp hle
  have m7 : sp_layN N f c (nI s) (nI y) (nI ft) 7 = nI hh := (sp_lay_x (by omega) (by omega) (by omega) (by omega)).trans h7
  have m11 : sp_layN N f c (nI s) (nI y) (nI ft) 11 = nI (u + hn) := by
    rw [sp_layN, sp_un (by omega), sp_un (by omega), sp_un (by omega), sp_un (by omega), sp_un (by omega), sp_un (by omega), sp_un (by omega), sp_un (by omega), sp_us, h11, hhn, nI_add]
  obtain ⟨-, k1, k2⟩ := rk_left (N := sp_layN N f c (nI s) (nI y) (nI ft)) hh2 (u := u + hn) (by omega) m7 m11
  rw [gl, hhn, pk_sub (by omega)]
  by_cases hz : u + hn < hh
  · rw [k1 hz]; congr 1; omega
  · rw [k2 hz, show hh - u - hn = 0 by omega]; rfl
theorem cL_isLaid_s {f s y ft : Nat} (h : lX rg I R x k N) (hk : k ≤ 200) (hf : f < 3) (hs : 3 ≤ s ∧ s ≤ 4) (hy : 1 ≤ y ∧ y ≤ 4) (hft : 1 ≤ ft ∧ ft ≤ 2000) : rk_J w l rk_mL_isLaid 8 [rk_a 11 x, rk_i (nI f), rk_i (nI s), rk_i (nI y), rk_i (nI ft)] Sh I R (lQ rg x k) := by
  obtain ⟨hY, hsi, hd⟩ := h
  obtain ⟨c, hc2, hc⟩ := hY.c12
  have hr := hY.vs.1.2.2.2
  obtain ⟨la, hla, e2⟩ := rk_nat (m := 40) (by decide) (hr.1 2 (by decide)).1 (hr.1 2 (by decide)).2
  obtain ⟨tw, htw, e1⟩ := rk_nat (m := 60) (by decide) (Int32.le_trans (show (0 : Int32) ≤ 10 by decide) (hr.1 1 (by decide)).1) (hr.1 1 (by decide)).2
  obtain ⟨v, hv2, e8⟩ := rk_nat (m := 500) (by decide) (Int32.le_trans (show (0 : Int32) ≤ 10 by decide) (hr.1 8 (by decide)).1) (hr.1 8 (by decide)).2
  obtain ⟨hh, hh2, e7⟩ := rk_nat (m := 24) (by decide) (Int32.le_trans (show (0 : Int32) ≤ 1 by decide) (hr.1 7 (by decide)).1) (hr.1 7 (by decide)).2
  obtain ⟨u, hu, e11⟩ := hY.u11
  have hv : 0 < v := by
    rcases Nat.eq_zero_or_pos v with z | z
    · subst z
      have := (hr.1 8 (by decide)).1
      rw [e8] at this
      exact absurd this (by decide)
    · exact z
  have st := strand_e (ft := ft) e2 hla hft.2
  have yr := yarn_e (ft := ft) e2 hla e1 htw hft.2 hft.1
  have ho := hours_e (s := s) (ft := ft) e2 hla e8 hv hv2 hs.2 hft.2 hft.1
  have sb := sA_b (ft := ft) hla hft.2 hft.1
  have hh1 := hA_1 (s := s) (ft := ft) hla hft.2 hft.1 (by omega) hv
  have m14 : ft * (100 + la) ≤ 2000 * 140 := Nat.mul_le_mul hft.2 (by omega)
  have m33 : sA la ft * (100 + tw) ≤ 2800 * 160 := Nat.mul_le_mul sb.2 (by omega)
  have m56 : s * sA la ft ≤ 4 * 2800 := Nat.mul_le_mul hs.2 sb.2
  have hnb := news_b (a := s) (b := y) hr hf hs.2 hy.2
  have hmono : ∀ ft', 1 ≤ ft' → ft' ≤ ft → sp_can N f (nI s) (nI y) (nI ft) → sp_can N f (nI s) (nI y) (nI ft') := fun ft' a b z => can_mono e2 hla e1 htw e8 hv hv2 hs.2 hy.2 hft.2 a b z
  have hmono2 : ¬ sp_can N f (nI s) (nI y) (nI ft) → ∀ j, ft ≤ j → j ≤ 2000 → ¬ sp_can N f (nI s) (nI y) (nI j) := fun z j a b g => z (can_mono e2 hla e1 htw e8 hv hv2 hs.2 hy.2 b hft.1 a g)
  have hge : sp_can N f (nI s) (nI y) (nI ft) → nI ft ≤ sp_last (fun ft => sp_can N f (nI s) (nI y) (nI ft)) 2000 := fun z => last_ge (P := fun ft => sp_can N f (nI s) (nI y) (nI ft)) 2000 hft.2 hft.1 (by decide) z
  have hlt : ¬ sp_can N f (nI s) (nI y) (nI ft) → sp_last (fun ft => sp_can N f (nI s) (nI y) (nI ft)) 2000 < nI ft := fun z => last_lt (P := fun ft => sp_can N f (nI s) (nI y) (nI ft)) hft.1 (by omega) 2000 (hmono2 z) (by decide)
  have hfl : sp_first (fun z => sp_news N f (nI s) (nI y) ≤ sp_news N f (nI s) (nI z)) 40 1 ≤ nI y := first_le (P := fun z => sp_news N f (nI s) (nI y) ≤ sp_news N f (nI s) (nI z)) (by omega) (Int32.le_refl _) 40 1 hy.1 (by omega)
  have ef : (nI f).toNatClampNeg = f := nI_clamp (by omega)
  have ec : sp_c N 12 = c := sp_cN hc (by omega)
  have hful : c = 24 → sp_lay N (nI f) (nI s) (nI y) (nI ft) = (-4, none) := fun z => by
    unfold sp_lay
    rw [if_pos (rk_fibre hf), if_pos ⟨rk_mk hs hy, rk_mft hft⟩, if_pos (show N 12 = 24 by rw [hc, z]; rfl)]
  have hno : c ≠ 24 → ¬ sp_can N f (nI s) (nI y) (nI ft) → sp_lay N (nI f) (nI s) (nI y) (nI ft) = (-5, none) := fun z g => by
    unfold sp_lay
    rw [if_pos (rk_fibre hf), if_pos ⟨rk_mk hs hy, rk_mft hft⟩, if_neg (fun q : N 12 = 24 => z ((nI_eq (by omega) (by decide)).mp (hc.symm.trans q))), ef, if_neg g]
  have hyes : c ≠ 24 → sp_can N f (nI s) (nI y) (nI ft) → sp_lay N (nI f) (nI s) (nI y) (nI ft) = (N 12 + 1 - 1, some (sp_layN N f c (nI s) (nI y) (nI ft))) := fun z g => by
    unfold sp_lay
    rw [if_pos (rk_fibre hf), if_pos ⟨rk_mk hs hy, rk_mft hft⟩, if_neg (fun q : N 12 = 24 => z ((nI_eq (by omega) (by decide)).mp (hc.symm.trans q))), ef, if_pos g, ec]
  have k252 : ∀ b : Int32, ((b = 1 ∧ sp_can N f (nI s) (nI y) (nI ft)) ∨ (b = 0 ∧ ¬ sp_can N f (nI s) (nI y) (nI ft))) → ∀ z12 : Int32, rk_Wp w l rk_mL_isLaid 8 0 0 (rk_GJ w Sh (lQ rg x k)) 252 [(0, rk_a 11 x), (1, rk_i (nI f)), (2, rk_i (nI s)), (3, rk_i (nI y)), (4, rk_i (nI ft)), (5, rk_i (sp_strand N (nI ft))), (6, rk_i (sp_yarn N (nI ft))), (7, rk_i (nI s * nI y * sp_yarn N (nI ft))), (8, rk_i (sp_hours N (nI s) (nI ft))), (9, rk_i (sp_left N)), (10, rk_i (N 12)), (11, rk_i (sp_acc N f 1)), (12, rk_i z12), (13, rk_i b)] [] (Sh, 0, 0) I R := by
    intro b hb z12
    by_cases h24 : c = 24
    · have hsp := hful h24
      have e24 : N 12 = 24 := by rw [hc, h24]; rfl
      rcases hb with ⟨rfl, hcan⟩ | ⟨rfl, hcan⟩
      · have g := hge hcan
        refine rk_aload_n 0 dL_isLaid_252 rfl rfl ?_
        refine rk_iload_n 1 dL_isLaid_253 rfl rfl ?_
        refine rk_iload_n 2 dL_isLaid_254 rfl rfl ?_
        refine rk_iload_n 3 dL_isLaid_255 rfl rfl ?_
        refine rk_cVp (lq_longest hY hf hs hy) rk_eX10_longest rfl ⟨rfl, rfl⟩ rk_kL_41 dL_isLaid_256 rfl (by decide) (Nat.le_of_ble_eq_true rfl) ⟨Nat.le_refl _, Nat.le_refl _⟩ ?_
        refine rk_istore (ls' := [(14, _), (0, _), (1, _), (2, _), (3, _), (4, _), (5, _), (6, _), (7, _), (8, _), (9, _), (10, _), (11, _), (12, _), (13, _)]) dL_isLaid_259 (by decide) rfl ?_
        refine rk_pc (pc' := 261) rfl ?_
        refine rk_iload dL_isLaid_261 rfl ?_
        refine rk_if_eq 276 dL_isLaid_263 (by decide) (fun qz263 => ?_) (fun qz263 => ?_)
        · skip
          exact absurd qz263 (by decide)
        · skip
          refine rk_iload dL_isLaid_266 rfl ?_
          refine rk_iload dL_isLaid_268 rfl ?_
          refine rk_icmp_ge 285 dL_isLaid_270 (by decide) (fun qz270 => ?_) (fun qz270 => ?_)
          · skip
            refine rk_aload_n 0 dL_isLaid_285 rfl rfl ?_
            refine rk_iload_n 1 dL_isLaid_286 rfl rfl ?_
            refine rk_iload_n 2 dL_isLaid_287 rfl rfl ?_
            refine rk_pc (pc' := 288) rfl ?_
            refine rk_iload_n 3 dL_isLaid_288 rfl rfl ?_
            refine rk_iload dL_isLaid_289 rfl ?_
            refine rk_cVi (lq_lay hY _ _ _ _) rk_eX10_lay rfl ⟨rfl, rfl⟩ rk_kL_44 dL_isLaid_291 rfl (by decide) (Nat.le_of_ble_eq_true rfl) ⟨Nat.le_refl _, Nat.le_refl _⟩ (fun xz1 Iz1 Rz1 hz1 => ?_)
            rw [hsp] at hz1
            obtain ⟨ex, hY2, -⟩ := hz1
            have hY3 : lY rg Iz1 Rz1 x ((k : Int) + 1) N := hY2
            obtain rfl := ex
            refine rk_istore (ls' := [(15, _), (14, _), (0, _), (1, _), (2, _), (3, _), (4, _), (5, _), (6, _), (7, _), (8, _), (9, _), (10, _), (11, _), (12, _), (13, _)]) dL_isLaid_294 (by decide) rfl ?_
            refine rk_iload dL_isLaid_296 rfl ?_
            refine rk_iload dL_isLaid_298 rfl ?_
            refine rk_pc (pc' := 300) rfl ?_
            refine rk_bipush 24 dL_isLaid_300 (by decide) ?_
            refine rk_icmp_ne 310 dL_isLaid_302 (by decide) (fun qz302 => ?_) (fun qz302 => ?_)
            · skip
              exact absurd e24 qz302
            · skip
              refine rk_bipush (-4) dL_isLaid_305 (by decide) ?_
              refine rk_goto 322 dL_isLaid_307 (by decide) ?_
              refine rk_icmp_ne 330 dL_isLaid_322 (by decide) (fun qz322 => ?_) (fun qz322 => ?_)
              · skip
                exact absurd rfl qz322
              · skip
                refine rk_iload dL_isLaid_325 rfl ?_
                refine rk_if_ge 401 dL_isLaid_327 (by decide) (fun qz327 => ?_) (fun qz327 => ?_)
                · skip
                  exact absurd qz327 (by decide)
                · skip
                  refine rk_iload dL_isLaid_330 rfl ?_
                  refine rk_if_ge 399 dL_isLaid_332 (by decide) (fun qz332 => ?_) (fun qz332 => ?_)
                  · skip
                    exact absurd qz332 (by decide)
                  · skip
                    refine rk_aload_n 0 dL_isLaid_335 rfl rfl ?_
                    refine rk_pc (pc' := 336) rfl ?_
                    refine rk_iconst 1 dL_isLaid_336 (by decide) ?_
                    refine rk_cVp (qc1 hY3) rk_eX10_count rfl ⟨rfl, rfl⟩ rk_kL_8 dL_isLaid_337 rfl (by decide) (Nat.le_of_ble_eq_true rfl) ⟨Nat.le_refl _, Nat.le_refl _⟩ ?_
                    refine rk_iload dL_isLaid_340 rfl ?_
                    refine rk_icmp_ne 399 dL_isLaid_342 (by decide) (fun qz342 => ?_) (fun qz342 => ?_)
                    · skip
                      exact absurd rfl qz342
                    · skip
                      refine rk_aload_n 0 dL_isLaid_345 rfl rfl ?_
                      refine rk_iload_n 1 dL_isLaid_346 rfl rfl ?_
                      refine rk_iconst 1 dL_isLaid_347 (by decide) ?_
                      refine rk_pc (pc' := 348) rfl ?_
                      refine rk_cVp (qa (k := 1) hY3 hf (by decide) rfl rfl) rk_eX10_account rfl ⟨rfl, rfl⟩ rk_kL_18 dL_isLaid_348 rfl (by decide) (Nat.le_of_ble_eq_true rfl) ⟨Nat.le_refl _, Nat.le_refl _⟩ ?_
                      refine rk_iload dL_isLaid_351 rfl ?_
                      refine rk_icmp_ne 399 dL_isLaid_353 (by decide) (fun qz353 => ?_) (fun qz353 => ?_)
                      · skip
                        exact absurd rfl qz353
                      · skip
                        refine rk_aload_n 0 dL_isLaid_356 rfl rfl ?_
                        refine rk_iconst 3 dL_isLaid_357 (by decide) ?_
                        refine rk_cVp (qc3 hY3) rk_eX10_count rfl ⟨rfl, rfl⟩ rk_kL_8 dL_isLaid_358 rfl (by decide) (Nat.le_of_ble_eq_true rfl) ⟨Nat.le_refl _, Nat.le_refl _⟩ ?_
                        refine rk_iload dL_isLaid_361 rfl ?_
                        refine rk_pc (pc' := 363) rfl ?_
                        refine rk_icmp_ne 399 dL_isLaid_363 (by decide) (fun qz363 => ?_) (fun qz363 => ?_)
                        · skip
                          exact absurd rfl qz363
                        · skip
                          refine rk_iload dL_isLaid_366 rfl ?_
                          refine rk_iload dL_isLaid_368 rfl ?_
                          refine rk_bipush 24 dL_isLaid_370 (by decide) ?_
                          refine rk_icmp_ne 380 dL_isLaid_372 (by decide) (fun qz372 => ?_) (fun qz372 => ?_)
                          · skip
                            exact absurd e24 qz372
                          · skip
                            refine rk_bipush (-4) dL_isLaid_375 (by decide) ?_
                            refine rk_goto 392 dL_isLaid_377 (by decide) ?_
                            refine rk_icmp_ne 399 dL_isLaid_392 (by decide) (fun qz392 => ?_) (fun qz392 => ?_)
                            · skip
                              exact absurd rfl qz392
                            · skip
                              refine rk_iconst 1 dL_isLaid_395 (by decide) ?_
                              refine rk_pc (pc' := 396) rfl ?_
                              refine rk_goto 400 dL_isLaid_396 (by decide) ?_
                              refine rk_iretJ dL_isLaid_400 rfl (by decide) ?_
                              exact ⟨rfl, N, lX.of hY3 hsi hd⟩
          · skip
            exact absurd g qz270
      · have g := hlt hcan
        refine rk_aload_n 0 dL_isLaid_252 rfl rfl ?_
        refine rk_iload_n 1 dL_isLaid_253 rfl rfl ?_
        refine rk_iload_n 2 dL_isLaid_254 rfl rfl ?_
        refine rk_iload_n 3 dL_isLaid_255 rfl rfl ?_
        refine rk_cVp (lq_longest hY hf hs hy) rk_eX10_longest rfl ⟨rfl, rfl⟩ rk_kL_41 dL_isLaid_256 rfl (by decide) (Nat.le_of_ble_eq_true rfl) ⟨Nat.le_refl _, Nat.le_refl _⟩ ?_
        refine rk_istore (ls' := [(14, _), (0, _), (1, _), (2, _), (3, _), (4, _), (5, _), (6, _), (7, _), (8, _), (9, _), (10, _), (11, _), (12, _), (13, _)]) dL_isLaid_259 (by decide) rfl ?_
        refine rk_pc (pc' := 261) rfl ?_
        refine rk_iload dL_isLaid_261 rfl ?_
        refine rk_if_eq 276 dL_isLaid_263 (by decide) (fun qz263 => ?_) (fun qz263 => ?_)
        · skip
          refine rk_iload dL_isLaid_276 rfl ?_
          refine rk_iload dL_isLaid_278 rfl ?_
          refine rk_icmp_lt 285 dL_isLaid_280 (by decide) (fun qz280 => ?_) (fun qz280 => ?_)
          · skip
            refine rk_aload_n 0 dL_isLaid_285 rfl rfl ?_
            refine rk_iload_n 1 dL_isLaid_286 rfl rfl ?_
            refine rk_iload_n 2 dL_isLaid_287 rfl rfl ?_
            refine rk_pc (pc' := 288) rfl ?_
            refine rk_iload_n 3 dL_isLaid_288 rfl rfl ?_
            refine rk_iload dL_isLaid_289 rfl ?_
            refine rk_cVi (lq_lay hY _ _ _ _) rk_eX10_lay rfl ⟨rfl, rfl⟩ rk_kL_44 dL_isLaid_291 rfl (by decide) (Nat.le_of_ble_eq_true rfl) ⟨Nat.le_refl _, Nat.le_refl _⟩ (fun xz1 Iz1 Rz1 hz1 => ?_)
            rw [hsp] at hz1
            obtain ⟨ex, hY2, -⟩ := hz1
            have hY3 : lY rg Iz1 Rz1 x ((k : Int) + 1) N := hY2
            obtain rfl := ex
            refine rk_istore (ls' := [(15, _), (14, _), (0, _), (1, _), (2, _), (3, _), (4, _), (5, _), (6, _), (7, _), (8, _), (9, _), (10, _), (11, _), (12, _), (13, _)]) dL_isLaid_294 (by decide) rfl ?_
            refine rk_iload dL_isLaid_296 rfl ?_
            refine rk_iload dL_isLaid_298 rfl ?_
            refine rk_pc (pc' := 300) rfl ?_
            refine rk_bipush 24 dL_isLaid_300 (by decide) ?_
            refine rk_icmp_ne 310 dL_isLaid_302 (by decide) (fun qz302 => ?_) (fun qz302 => ?_)
            · skip
              exact absurd e24 qz302
            · skip
              refine rk_bipush (-4) dL_isLaid_305 (by decide) ?_
              refine rk_goto 322 dL_isLaid_307 (by decide) ?_
              refine rk_icmp_ne 330 dL_isLaid_322 (by decide) (fun qz322 => ?_) (fun qz322 => ?_)
              · skip
                exact absurd rfl qz322
              · skip
                refine rk_iload dL_isLaid_325 rfl ?_
                refine rk_if_ge 401 dL_isLaid_327 (by decide) (fun qz327 => ?_) (fun qz327 => ?_)
                · skip
                  exact absurd qz327 (by decide)
                · skip
                  refine rk_iload dL_isLaid_330 rfl ?_
                  refine rk_if_ge 399 dL_isLaid_332 (by decide) (fun qz332 => ?_) (fun qz332 => ?_)
                  · skip
                    exact absurd qz332 (by decide)
                  · skip
                    refine rk_aload_n 0 dL_isLaid_335 rfl rfl ?_
                    refine rk_pc (pc' := 336) rfl ?_
                    refine rk_iconst 1 dL_isLaid_336 (by decide) ?_
                    refine rk_cVp (qc1 hY3) rk_eX10_count rfl ⟨rfl, rfl⟩ rk_kL_8 dL_isLaid_337 rfl (by decide) (Nat.le_of_ble_eq_true rfl) ⟨Nat.le_refl _, Nat.le_refl _⟩ ?_
                    refine rk_iload dL_isLaid_340 rfl ?_
                    refine rk_icmp_ne 399 dL_isLaid_342 (by decide) (fun qz342 => ?_) (fun qz342 => ?_)
                    · skip
                      exact absurd rfl qz342
                    · skip
                      refine rk_aload_n 0 dL_isLaid_345 rfl rfl ?_
                      refine rk_iload_n 1 dL_isLaid_346 rfl rfl ?_
                      refine rk_iconst 1 dL_isLaid_347 (by decide) ?_
                      refine rk_pc (pc' := 348) rfl ?_
                      refine rk_cVp (qa (k := 1) hY3 hf (by decide) rfl rfl) rk_eX10_account rfl ⟨rfl, rfl⟩ rk_kL_18 dL_isLaid_348 rfl (by decide) (Nat.le_of_ble_eq_true rfl) ⟨Nat.le_refl _, Nat.le_refl _⟩ ?_
                      refine rk_iload dL_isLaid_351 rfl ?_
                      refine rk_icmp_ne 399 dL_isLaid_353 (by decide) (fun qz353 => ?_) (fun qz353 => ?_)
                      · skip
                        exact absurd rfl qz353
                      · skip
                        refine rk_aload_n 0 dL_isLaid_356 rfl rfl ?_
                        refine rk_iconst 3 dL_isLaid_357 (by decide) ?_
                        refine rk_cVp (qc3 hY3) rk_eX10_count rfl ⟨rfl, rfl⟩ rk_kL_8 dL_isLaid_358 rfl (by decide) (Nat.le_of_ble_eq_true rfl) ⟨Nat.le_refl _, Nat.le_refl _⟩ ?_
                        refine rk_iload dL_isLaid_361 rfl ?_
                        refine rk_pc (pc' := 363) rfl ?_
                        refine rk_icmp_ne 399 dL_isLaid_363 (by decide) (fun qz363 => ?_) (fun qz363 => ?_)
                        · skip
                          exact absurd rfl qz363
                        · skip
                          refine rk_iload dL_isLaid_366 rfl ?_
                          refine rk_iload dL_isLaid_368 rfl ?_
                          refine rk_bipush 24 dL_isLaid_370 (by decide) ?_
                          refine rk_icmp_ne 380 dL_isLaid_372 (by decide) (fun qz372 => ?_) (fun qz372 => ?_)
                          · skip
                            exact absurd e24 qz372
                          · skip
                            refine rk_bipush (-4) dL_isLaid_375 (by decide) ?_
                            refine rk_goto 392 dL_isLaid_377 (by decide) ?_
                            refine rk_icmp_ne 399 dL_isLaid_392 (by decide) (fun qz392 => ?_) (fun qz392 => ?_)
                            · skip
                              exact absurd rfl qz392
                            · skip
                              refine rk_iconst 1 dL_isLaid_395 (by decide) ?_
                              refine rk_pc (pc' := 396) rfl ?_
                              refine rk_goto 400 dL_isLaid_396 (by decide) ?_
                              refine rk_iretJ dL_isLaid_400 rfl (by decide) ?_
                              exact ⟨rfl, N, lX.of hY3 hsi hd⟩
          · skip
            exact absurd g qz280
        · skip
          exact absurd qz263 (by decide)
    · have n24 : ¬ N 12 = 24 := fun q => h24 ((nI_eq (by omega) (by decide)).mp (hc.symm.trans q))
      rcases hb with ⟨rfl, hcan⟩ | ⟨rfl, hcan⟩
      · have g := hge hcan
        have hsp := hyes h24 hcan
        have hc24 : c < 24 := by omega
        have m12 : sp_layN N f c (nI s) (nI y) (nI ft) 12 = nI (c + 1) := by rw [sp_lay_12, hc, nI_1]
        have p0 : sp_layN N f c (nI s) (nI y) (nI ft) (50 + 7 * c + 0) = nI f := sp_lay_p (k := 0) (by decide)
        have p1 : sp_layN N f c (nI s) (nI y) (nI ft) (50 + 7 * c + 1) = nI s := sp_lay_p (k := 1) (by decide)
        have p2 : sp_layN N f c (nI s) (nI y) (nI ft) (50 + 7 * c + 2) = nI y := sp_lay_p (k := 2) (by decide)
        have p3 : sp_layN N f c (nI s) (nI y) (nI ft) (50 + 7 * c + 3) = nI ft := sp_lay_p (k := 3) (by decide)
        have p4 : sp_layN N f c (nI s) (nI y) (nI ft) (50 + 7 * c + 4) = nI s * nI y * sp_yarn N (nI ft) := sp_lay_p (k := 4) (by decide)
        have p5 : sp_layN N f c (nI s) (nI y) (nI ft) (50 + 7 * c + 5) = sp_qual N f := sp_lay_p (k := 5) (by decide)
        have p6 : sp_layN N f c (nI s) (nI y) (nI ft) (50 + 7 * c + 6) = 0 := sp_lay_p (k := 6) (by decide)
        have mq : sp_qual (sp_layN N f c (nI s) (nI y) (nI ft)) f = sp_qual N f := by
          show spq (sp_layN N f c (nI s) (nI y) (nI ft) 1) (sp_layN N f c (nI s) (nI y) (nI ft) (20 + 3 * f + 1)) = spq (N 1) (N (20 + 3 * f + 1))
          rw [sp_lay_x (by omega) (by omega) (by omega) (by omega), sp_lay_x (by omega) (by omega) (by omega) (by omega)]
        have ma : sp_acc (sp_layN N f c (nI s) (nI y) (nI ft)) f 1 = sp_acc N f 1 - nI s * nI y * sp_yarn N (nI ft) := by
          show sp_layN N f c (nI s) (nI y) (nI ft) (20 + 3 * f + 2) = N (20 + 3 * f + 2) - _
          rw [sp_layN, sp_un (by omega), sp_un (by omega), sp_un (by omega), sp_un (by omega), sp_un (by omega), sp_un (by omega), sp_un (by omega), sp_un (by omega), sp_un (by omega), sp_us]
        have ml := left_lay (c := c) (y := y) e7 hh2 e11 hu ho.2.1 hh1 ho.2.2 hcan.2.2 hf
        have m10 : sp_layN N f c (nI s) (nI y) (nI ft) 10 = N 10 := sp_lay_x (by omega) (by omega) (by omega) (by omega)
        have hs2 := si_lay hsi (by omega) hr hc hc24 hf hs.2 (show y ≤ 40 by omega) hft.2 hcan.2.1
        have hpos : (0 : Int32) ≤ nI c := nI_pos' (by omega)
        refine rk_aload_n 0 dL_isLaid_252 rfl rfl ?_
        refine rk_iload_n 1 dL_isLaid_253 rfl rfl ?_
        refine rk_iload_n 2 dL_isLaid_254 rfl rfl ?_
        refine rk_iload_n 3 dL_isLaid_255 rfl rfl ?_
        refine rk_cVp (lq_longest hY hf hs hy) rk_eX10_longest rfl ⟨rfl, rfl⟩ rk_kL_41 dL_isLaid_256 rfl (by decide) (Nat.le_of_ble_eq_true rfl) ⟨Nat.le_refl _, Nat.le_refl _⟩ ?_
        refine rk_istore (ls' := [(14, _), (0, _), (1, _), (2, _), (3, _), (4, _), (5, _), (6, _), (7, _), (8, _), (9, _), (10, _), (11, _), (12, _), (13, _)]) dL_isLaid_259 (by decide) rfl ?_
        refine rk_pc (pc' := 261) rfl ?_
        refine rk_iload dL_isLaid_261 rfl ?_
        refine rk_if_eq 276 dL_isLaid_263 (by decide) (fun qz263 => ?_) (fun qz263 => ?_)
        · skip
          exact absurd qz263 (by decide)
        · skip
          refine rk_iload dL_isLaid_266 rfl ?_
          refine rk_iload dL_isLaid_268 rfl ?_
          refine rk_icmp_ge 285 dL_isLaid_270 (by decide) (fun qz270 => ?_) (fun qz270 => ?_)
          · skip
            refine rk_aload_n 0 dL_isLaid_285 rfl rfl ?_
            refine rk_iload_n 1 dL_isLaid_286 rfl rfl ?_
            refine rk_iload_n 2 dL_isLaid_287 rfl rfl ?_
            refine rk_pc (pc' := 288) rfl ?_
            refine rk_iload_n 3 dL_isLaid_288 rfl rfl ?_
            refine rk_iload dL_isLaid_289 rfl ?_
            refine rk_cVi (lq_lay hY _ _ _ _) rk_eX10_lay rfl ⟨rfl, rfl⟩ rk_kL_44 dL_isLaid_291 rfl (by decide) (Nat.le_of_ble_eq_true rfl) ⟨Nat.le_refl _, Nat.le_refl _⟩ (fun xz1 Iz1 Rz1 hz1 => ?_)
            rw [hsp] at hz1
            obtain ⟨ex, hY2, -⟩ := hz1
            have hY3 : lY rg Iz1 Rz1 x ((k : Int) + 1) (sp_layN N f c (nI s) (nI y) (nI ft)) := hY2
            have ex2 : xz1 = N 12 := ex.trans (by show N 12 + 1 - 1 = N 12; rw [hc, nI_1, nI_pred])
            refine rk_istore (ls' := [(15, _), (14, _), (0, _), (1, _), (2, _), (3, _), (4, _), (5, _), (6, _), (7, _), (8, _), (9, _), (10, _), (11, _), (12, _), (13, _)]) dL_isLaid_294 (by decide) rfl ?_
            refine rk_iload dL_isLaid_296 rfl ?_
            refine rk_iload dL_isLaid_298 rfl ?_
            refine rk_pc (pc' := 300) rfl ?_
            refine rk_bipush 24 dL_isLaid_300 (by decide) ?_
            refine rk_icmp_ne 310 dL_isLaid_302 (by decide) (fun qz302 => ?_) (fun qz302 => ?_)
            · skip
              refine rk_iload dL_isLaid_310 rfl ?_
              refine rk_if_eq 320 dL_isLaid_312 (by decide) (fun qz312 => ?_) (fun qz312 => ?_)
              · skip
                exact absurd qz312 (by decide)
              · skip
                refine rk_iload dL_isLaid_315 rfl ?_
                refine rk_goto 322 dL_isLaid_317 (by decide) ?_
                refine rk_icmp_ne 330 dL_isLaid_322 (by decide) (fun qz322 => ?_) (fun qz322 => ?_)
                · skip
                  exact absurd ex2 qz322
                · skip
                  refine rk_iload dL_isLaid_325 rfl ?_
                  refine rk_if_ge 401 dL_isLaid_327 (by decide) (fun qz327 => ?_) (fun qz327 => ?_)
                  · skip
                    refine rk_aload_n 0 dL_isLaid_401 rfl rfl ?_
                    refine rk_pc (pc' := 402) rfl ?_
                    refine rk_iload dL_isLaid_402 rfl ?_
                    refine rk_iconst 0 dL_isLaid_404 (by decide) ?_
                    refine rk_cVp (qp (k := 0) hY3 m12 (by omega) (Nat.lt_succ_self c) (by decide) hc rfl) rk_eX10_piece rfl ⟨rfl, rfl⟩ rk_kL_14 dL_isLaid_405 rfl (by decide) (Nat.le_of_ble_eq_true rfl) ⟨Nat.le_refl _, Nat.le_refl _⟩ ?_
                    refine rk_iload_n 1 dL_isLaid_408 rfl rfl ?_
                    refine rk_icmp_ne 515 dL_isLaid_409 (by decide) (fun qz409 => ?_) (fun qz409 => ?_)
                    · skip
                      exact absurd p0 qz409
                    · skip
                      refine rk_aload_n 0 dL_isLaid_412 rfl rfl ?_
                      refine rk_iload dL_isLaid_413 rfl ?_
                      refine rk_pc (pc' := 415) rfl ?_
                      refine rk_iconst 1 dL_isLaid_415 (by decide) ?_
                      refine rk_cVp (qp (k := 1) hY3 m12 (by omega) (Nat.lt_succ_self c) (by decide) hc rfl) rk_eX10_piece rfl ⟨rfl, rfl⟩ rk_kL_14 dL_isLaid_416 rfl (by decide) (Nat.le_of_ble_eq_true rfl) ⟨Nat.le_refl _, Nat.le_refl _⟩ ?_
                      refine rk_iload_n 2 dL_isLaid_419 rfl rfl ?_
                      refine rk_icmp_ne 515 dL_isLaid_420 (by decide) (fun qz420 => ?_) (fun qz420 => ?_)
                      · skip
                        exact absurd p1 qz420
                      · skip
                        refine rk_aload_n 0 dL_isLaid_423 rfl rfl ?_
                        refine rk_iload dL_isLaid_424 rfl ?_
                        refine rk_iconst 2 dL_isLaid_426 (by decide) ?_
                        refine rk_pc (pc' := 427) rfl ?_
                        refine rk_cVp (qp (k := 2) hY3 m12 (by omega) (Nat.lt_succ_self c) (by decide) hc rfl) rk_eX10_piece rfl ⟨rfl, rfl⟩ rk_kL_14 dL_isLaid_427 rfl (by decide) (Nat.le_of_ble_eq_true rfl) ⟨Nat.le_refl _, Nat.le_refl _⟩ ?_
                        refine rk_iload_n 3 dL_isLaid_430 rfl rfl ?_
                        refine rk_icmp_ne 515 dL_isLaid_431 (by decide) (fun qz431 => ?_) (fun qz431 => ?_)
                        · skip
                          exact absurd p2 qz431
                        · skip
                          refine rk_aload_n 0 dL_isLaid_434 rfl rfl ?_
                          refine rk_iload dL_isLaid_435 rfl ?_
                          refine rk_iconst 3 dL_isLaid_437 (by decide) ?_
                          refine rk_cVp (qp (k := 3) hY3 m12 (by omega) (Nat.lt_succ_self c) (by decide) hc rfl) rk_eX10_piece rfl ⟨rfl, rfl⟩ rk_kL_14 dL_isLaid_438 rfl (by decide) (Nat.le_of_ble_eq_true rfl) ⟨Nat.le_refl _, Nat.le_refl _⟩ ?_
                          refine rk_pc (pc' := 441) rfl ?_
                          refine rk_iload dL_isLaid_441 rfl ?_
                          refine rk_icmp_ne 515 dL_isLaid_443 (by decide) (fun qz443 => ?_) (fun qz443 => ?_)
                          · skip
                            exact absurd p3 qz443
                          · skip
                            refine rk_aload_n 0 dL_isLaid_446 rfl rfl ?_
                            refine rk_iload dL_isLaid_447 rfl ?_
                            refine rk_iconst 4 dL_isLaid_449 (by decide) ?_
                            refine rk_cVp (qp (k := 4) hY3 m12 (by omega) (Nat.lt_succ_self c) (by decide) hc rfl) rk_eX10_piece rfl ⟨rfl, rfl⟩ rk_kL_14 dL_isLaid_450 rfl (by decide) (Nat.le_of_ble_eq_true rfl) ⟨Nat.le_refl _, Nat.le_refl _⟩ ?_
                            refine rk_iload dL_isLaid_453 rfl ?_
                            refine rk_pc (pc' := 455) rfl ?_
                            refine rk_icmp_ne 515 dL_isLaid_455 (by decide) (fun qz455 => ?_) (fun qz455 => ?_)
                            · skip
                              exact absurd p4 qz455
                            · skip
                              refine rk_aload_n 0 dL_isLaid_458 rfl rfl ?_
                              refine rk_iload dL_isLaid_459 rfl ?_
                              refine rk_iconst 5 dL_isLaid_461 (by decide) ?_
                              refine rk_cVp (qp (k := 5) hY3 m12 (by omega) (Nat.lt_succ_self c) (by decide) hc rfl) rk_eX10_piece rfl ⟨rfl, rfl⟩ rk_kL_14 dL_isLaid_462 rfl (by decide) (Nat.le_of_ble_eq_true rfl) ⟨Nat.le_refl _, Nat.le_refl _⟩ ?_
                              refine rk_aload_n 0 dL_isLaid_465 rfl rfl ?_
                              refine rk_iload_n 1 dL_isLaid_466 rfl rfl ?_
                              refine rk_pc (pc' := 467) rfl ?_
                              refine rk_cSp (cL_quality_s hY3 hf) rk_eL_quality rfl rk_kL_34 dL_isLaid_467 rfl (by decide) (Nat.le_of_ble_eq_true rfl) ⟨Nat.le_refl _, Nat.le_refl _⟩ ?_
                              refine rk_icmp_ne 515 dL_isLaid_470 (by decide) (fun qz470 => ?_) (fun qz470 => ?_)
                              · skip
                                exact absurd (p5.trans mq.symm) qz470
                              · skip
                                refine rk_aload_n 0 dL_isLaid_473 rfl rfl ?_
                                refine rk_iload dL_isLaid_474 rfl ?_
                                refine rk_bipush 6 dL_isLaid_476 (by decide) ?_
                                refine rk_cVp (qp (k := 6) hY3 m12 (by omega) (Nat.lt_succ_self c) (by decide) hc rfl) rk_eX10_piece rfl ⟨rfl, rfl⟩ rk_kL_14 dL_isLaid_478 rfl (by decide) (Nat.le_of_ble_eq_true rfl) ⟨Nat.le_refl _, Nat.le_refl _⟩ ?_
                                refine rk_if_ne 515 dL_isLaid_481 (by decide) (fun qz481 => ?_) (fun qz481 => ?_)
                                · skip
                                  exact absurd p6 qz481
                                · skip
                                  refine rk_aload_n 0 dL_isLaid_484 rfl rfl ?_
                                  refine rk_pc (pc' := 485) rfl ?_
                                  refine rk_iload_n 1 dL_isLaid_485 rfl rfl ?_
                                  refine rk_iconst 1 dL_isLaid_486 (by decide) ?_
                                  refine rk_cVp (qa (k := 1) hY3 hf (by decide) rfl rfl) rk_eX10_account rfl ⟨rfl, rfl⟩ rk_kL_18 dL_isLaid_487 rfl (by decide) (Nat.le_of_ble_eq_true rfl) ⟨Nat.le_refl _, Nat.le_refl _⟩ ?_
                                  refine rk_iload dL_isLaid_490 rfl ?_
                                  refine rk_iload dL_isLaid_492 rfl ?_
                                  refine rk_isub dL_isLaid_494 ?_
                                  refine rk_pc (pc' := 495) rfl ?_
                                  refine rk_icmp_ne 515 dL_isLaid_495 (by decide) (fun qz495 => ?_) (fun qz495 => ?_)
                                  · skip
                                    exact absurd ma qz495
                                  · skip
                                    refine rk_aload_n 0 dL_isLaid_498 rfl rfl ?_
                                    refine rk_iconst 3 dL_isLaid_499 (by decide) ?_
                                    refine rk_cVp (qc3 hY3) rk_eX10_count rfl ⟨rfl, rfl⟩ rk_kL_8 dL_isLaid_500 rfl (by decide) (Nat.le_of_ble_eq_true rfl) ⟨Nat.le_refl _, Nat.le_refl _⟩ ?_
                                    refine rk_iload dL_isLaid_503 rfl ?_
                                    refine rk_iload dL_isLaid_505 rfl ?_
                                    refine rk_isub dL_isLaid_507 ?_
                                    refine rk_pc (pc' := 508) rfl ?_
                                    refine rk_icmp_ne 515 dL_isLaid_508 (by decide) (fun qz508 => ?_) (fun qz508 => ?_)
                                    · skip
                                      exact absurd ml qz508
                                    · skip
                                      refine rk_iconst 1 dL_isLaid_511 (by decide) ?_
                                      refine rk_goto 516 dL_isLaid_512 (by decide) ?_
                                      refine rk_iretJ dL_isLaid_516 rfl (by decide) ?_
                                      exact ⟨rfl, _, lX.of hY3 hs2 (by rw [m10]; exact hd)⟩
                  · skip
                    exact absurd (show (0 : Int32) ≤ _ from (by rw [ex2, hc]; exact hpos)) qz327
            · skip
              exact absurd qz302 n24
          · skip
            exact absurd g qz270
      · have g := hlt hcan
        have hsp := hno h24 hcan
        refine rk_aload_n 0 dL_isLaid_252 rfl rfl ?_
        refine rk_iload_n 1 dL_isLaid_253 rfl rfl ?_
        refine rk_iload_n 2 dL_isLaid_254 rfl rfl ?_
        refine rk_iload_n 3 dL_isLaid_255 rfl rfl ?_
        refine rk_cVp (lq_longest hY hf hs hy) rk_eX10_longest rfl ⟨rfl, rfl⟩ rk_kL_41 dL_isLaid_256 rfl (by decide) (Nat.le_of_ble_eq_true rfl) ⟨Nat.le_refl _, Nat.le_refl _⟩ ?_
        refine rk_istore (ls' := [(14, _), (0, _), (1, _), (2, _), (3, _), (4, _), (5, _), (6, _), (7, _), (8, _), (9, _), (10, _), (11, _), (12, _), (13, _)]) dL_isLaid_259 (by decide) rfl ?_
        refine rk_pc (pc' := 261) rfl ?_
        refine rk_iload dL_isLaid_261 rfl ?_
        refine rk_if_eq 276 dL_isLaid_263 (by decide) (fun qz263 => ?_) (fun qz263 => ?_)
        · skip
          refine rk_iload dL_isLaid_276 rfl ?_
          refine rk_iload dL_isLaid_278 rfl ?_
          refine rk_icmp_lt 285 dL_isLaid_280 (by decide) (fun qz280 => ?_) (fun qz280 => ?_)
          · skip
            refine rk_aload_n 0 dL_isLaid_285 rfl rfl ?_
            refine rk_iload_n 1 dL_isLaid_286 rfl rfl ?_
            refine rk_iload_n 2 dL_isLaid_287 rfl rfl ?_
            refine rk_pc (pc' := 288) rfl ?_
            refine rk_iload_n 3 dL_isLaid_288 rfl rfl ?_
            refine rk_iload dL_isLaid_289 rfl ?_
            refine rk_cVi (lq_lay hY _ _ _ _) rk_eX10_lay rfl ⟨rfl, rfl⟩ rk_kL_44 dL_isLaid_291 rfl (by decide) (Nat.le_of_ble_eq_true rfl) ⟨Nat.le_refl _, Nat.le_refl _⟩ (fun xz1 Iz1 Rz1 hz1 => ?_)
            rw [hsp] at hz1
            obtain ⟨ex, hY2, -⟩ := hz1
            have hY3 : lY rg Iz1 Rz1 x ((k : Int) + 1) N := hY2
            obtain rfl := ex
            refine rk_istore (ls' := [(15, _), (14, _), (0, _), (1, _), (2, _), (3, _), (4, _), (5, _), (6, _), (7, _), (8, _), (9, _), (10, _), (11, _), (12, _), (13, _)]) dL_isLaid_294 (by decide) rfl ?_
            refine rk_iload dL_isLaid_296 rfl ?_
            refine rk_iload dL_isLaid_298 rfl ?_
            refine rk_pc (pc' := 300) rfl ?_
            refine rk_bipush 24 dL_isLaid_300 (by decide) ?_
            refine rk_icmp_ne 310 dL_isLaid_302 (by decide) (fun qz302 => ?_) (fun qz302 => ?_)
            · skip
              refine rk_iload dL_isLaid_310 rfl ?_
              refine rk_if_eq 320 dL_isLaid_312 (by decide) (fun qz312 => ?_) (fun qz312 => ?_)
              · skip
                refine rk_bipush (-5) dL_isLaid_320 (by decide) ?_
                refine rk_icmp_ne 330 dL_isLaid_322 (by decide) (fun qz322 => ?_) (fun qz322 => ?_)
                · skip
                  exact absurd rfl qz322
                · skip
                  refine rk_iload dL_isLaid_325 rfl ?_
                  refine rk_if_ge 401 dL_isLaid_327 (by decide) (fun qz327 => ?_) (fun qz327 => ?_)
                  · skip
                    exact absurd qz327 (by decide)
                  · skip
                    refine rk_iload dL_isLaid_330 rfl ?_
                    refine rk_if_ge 399 dL_isLaid_332 (by decide) (fun qz332 => ?_) (fun qz332 => ?_)
                    · skip
                      exact absurd qz332 (by decide)
                    · skip
                      refine rk_aload_n 0 dL_isLaid_335 rfl rfl ?_
                      refine rk_pc (pc' := 336) rfl ?_
                      refine rk_iconst 1 dL_isLaid_336 (by decide) ?_
                      refine rk_cVp (qc1 hY3) rk_eX10_count rfl ⟨rfl, rfl⟩ rk_kL_8 dL_isLaid_337 rfl (by decide) (Nat.le_of_ble_eq_true rfl) ⟨Nat.le_refl _, Nat.le_refl _⟩ ?_
                      refine rk_iload dL_isLaid_340 rfl ?_
                      refine rk_icmp_ne 399 dL_isLaid_342 (by decide) (fun qz342 => ?_) (fun qz342 => ?_)
                      · skip
                        exact absurd rfl qz342
                      · skip
                        refine rk_aload_n 0 dL_isLaid_345 rfl rfl ?_
                        refine rk_iload_n 1 dL_isLaid_346 rfl rfl ?_
                        refine rk_iconst 1 dL_isLaid_347 (by decide) ?_
                        refine rk_pc (pc' := 348) rfl ?_
                        refine rk_cVp (qa (k := 1) hY3 hf (by decide) rfl rfl) rk_eX10_account rfl ⟨rfl, rfl⟩ rk_kL_18 dL_isLaid_348 rfl (by decide) (Nat.le_of_ble_eq_true rfl) ⟨Nat.le_refl _, Nat.le_refl _⟩ ?_
                        refine rk_iload dL_isLaid_351 rfl ?_
                        refine rk_icmp_ne 399 dL_isLaid_353 (by decide) (fun qz353 => ?_) (fun qz353 => ?_)
                        · skip
                          exact absurd rfl qz353
                        · skip
                          refine rk_aload_n 0 dL_isLaid_356 rfl rfl ?_
                          refine rk_iconst 3 dL_isLaid_357 (by decide) ?_
                          refine rk_cVp (qc3 hY3) rk_eX10_count rfl ⟨rfl, rfl⟩ rk_kL_8 dL_isLaid_358 rfl (by decide) (Nat.le_of_ble_eq_true rfl) ⟨Nat.le_refl _, Nat.le_refl _⟩ ?_
                          refine rk_iload dL_isLaid_361 rfl ?_
                          refine rk_pc (pc' := 363) rfl ?_
                          refine rk_icmp_ne 399 dL_isLaid_363 (by decide) (fun qz363 => ?_) (fun qz363 => ?_)
                          · skip
                            exact absurd rfl qz363
                          · skip
                            refine rk_iload dL_isLaid_366 rfl ?_
                            refine rk_iload dL_isLaid_368 rfl ?_
                            refine rk_bipush 24 dL_isLaid_370 (by decide) ?_
                            refine rk_icmp_ne 380 dL_isLaid_372 (by decide) (fun qz372 => ?_) (fun qz372 => ?_)
                            · skip
                              refine rk_iload dL_isLaid_380 rfl ?_
                              refine rk_if_eq 390 dL_isLaid_382 (by decide) (fun qz382 => ?_) (fun qz382 => ?_)
                              · skip
                                refine rk_bipush (-5) dL_isLaid_390 (by decide) ?_
                                refine rk_icmp_ne 399 dL_isLaid_392 (by decide) (fun qz392 => ?_) (fun qz392 => ?_)
                                · skip
                                  exact absurd rfl qz392
                                · skip
                                  refine rk_iconst 1 dL_isLaid_395 (by decide) ?_
                                  refine rk_pc (pc' := 396) rfl ?_
                                  refine rk_goto 400 dL_isLaid_396 (by decide) ?_
                                  refine rk_iretJ dL_isLaid_400 rfl (by decide) ?_
                                  exact ⟨rfl, N, lX.of hY3 hsi hd⟩
                              · skip
                                exact absurd qz382 (by decide)
                            · skip
                              exact absurd qz372 n24
              · skip
                exact absurd qz312 (by decide)
            · skip
              exact absurd qz302 n24
          · skip
            exact absurd g qz280
        · skip
          exact absurd qz263 (by decide)
  have k220 : ∀ z12 : Int32, rk_Wp w l rk_mL_isLaid 8 0 0 (rk_GJ w Sh (lQ rg x k)) 220 [(0, rk_a 11 x), (1, rk_i (nI f)), (2, rk_i (nI s)), (3, rk_i (nI y)), (4, rk_i (nI ft)), (5, rk_i (sp_strand N (nI ft))), (6, rk_i (sp_yarn N (nI ft))), (7, rk_i (nI s * nI y * sp_yarn N (nI ft))), (8, rk_i (sp_hours N (nI s) (nI ft))), (9, rk_i (sp_left N)), (10, rk_i (N 12)), (11, rk_i (sp_acc N f 1)), (12, rk_i z12)] [] (Sh, 0, 0) I R := by
    intro z12
    have cn1 : ¬ N 0 < sp_strand N (nI ft) → ¬ sp_acc N f 1 < nI s * nI y * sp_yarn N (nI ft) → ¬ sp_left N < sp_hours N (nI s) (nI ft) → sp_can N f (nI s) (nI y) (nI ft) := fun a b c => ⟨Int32.not_lt.mp a, Int32.not_lt.mp b, Int32.not_lt.mp c⟩
    refine rk_iload dL_isLaid_220 rfl ?_
    refine rk_aload_n 0 dL_isLaid_222 rfl rfl ?_
    refine rk_bipush 9 dL_isLaid_223 (by decide) ?_
    refine rk_cVp (qc9 hY) rk_eX10_count rfl ⟨rfl, rfl⟩ rk_kL_8 dL_isLaid_225 rfl (by decide) (Nat.le_of_ble_eq_true rfl) ⟨Nat.le_refl _, Nat.le_refl _⟩ ?_
    refine rk_icmp_gt 249 dL_isLaid_228 (by decide) (fun qz228 => ?_) (fun qz228 => ?_)
    · skip
      refine rk_iconst 0 dL_isLaid_249 (by decide) ?_
      refine rk_istore (ls' := [(13, _), (0, _), (1, _), (2, _), (3, _), (4, _), (5, _), (6, _), (7, _), (8, _), (9, _), (10, _), (11, _), (12, _)]) dL_isLaid_250 (by decide) rfl ?_
      refine rk_pc (pc' := 252) rfl ?_
      refine rk_ord [0, 1, 2, 3, 4, 5, 6, 7, 8, 9, 10, 11, 12, 13] (ls' := [(0, _), (1, _), (2, _), (3, _), (4, _), (5, _), (6, _), (7, _), (8, _), (9, _), (10, _), (11, _), (12, _), (13, _)]) rfl ?_
      first | exact k252 1 (Or.inl ⟨rfl, cn1 qz228 qz235 qz242⟩) z12 | exact k252 0 (Or.inr ⟨rfl, fun z => Int32.not_le.mpr qz242 z.2.2⟩) z12 | exact k252 0 (Or.inr ⟨rfl, fun z => Int32.not_le.mpr qz235 z.2.1⟩) z12 | exact k252 0 (Or.inr ⟨rfl, fun z => Int32.not_le.mpr qz228 z.1⟩) z12
    · skip
      refine rk_iload dL_isLaid_231 rfl ?_
      refine rk_iload dL_isLaid_233 rfl ?_
      refine rk_icmp_gt 249 dL_isLaid_235 (by decide) (fun qz235 => ?_) (fun qz235 => ?_)
      · skip
        refine rk_iconst 0 dL_isLaid_249 (by decide) ?_
        refine rk_istore (ls' := [(13, _), (0, _), (1, _), (2, _), (3, _), (4, _), (5, _), (6, _), (7, _), (8, _), (9, _), (10, _), (11, _), (12, _)]) dL_isLaid_250 (by decide) rfl ?_
        refine rk_ord [0, 1, 2, 3, 4, 5, 6, 7, 8, 9, 10, 11, 12, 13] (ls' := [(0, _), (1, _), (2, _), (3, _), (4, _), (5, _), (6, _), (7, _), (8, _), (9, _), (10, _), (11, _), (12, _), (13, _)]) rfl ?_
        first | exact k252 1 (Or.inl ⟨rfl, cn1 qz228 qz235 qz242⟩) z12 | exact k252 0 (Or.inr ⟨rfl, fun z => Int32.not_le.mpr qz242 z.2.2⟩) z12 | exact k252 0 (Or.inr ⟨rfl, fun z => Int32.not_le.mpr qz235 z.2.1⟩) z12 | exact k252 0 (Or.inr ⟨rfl, fun z => Int32.not_le.mpr qz228 z.1⟩) z12
      · skip
        refine rk_iload dL_isLaid_238 rfl ?_
        refine rk_iload dL_isLaid_240 rfl ?_
        refine rk_pc (pc' := 242) rfl ?_
        refine rk_icmp_gt 249 dL_isLaid_242 (by decide) (fun qz242 => ?_) (fun qz242 => ?_)
        · skip
          refine rk_iconst 0 dL_isLaid_249 (by decide) ?_
          refine rk_istore (ls' := [(13, _), (0, _), (1, _), (2, _), (3, _), (4, _), (5, _), (6, _), (7, _), (8, _), (9, _), (10, _), (11, _), (12, _)]) dL_isLaid_250 (by decide) rfl ?_
          refine rk_ord [0, 1, 2, 3, 4, 5, 6, 7, 8, 9, 10, 11, 12, 13] (ls' := [(0, _), (1, _), (2, _), (3, _), (4, _), (5, _), (6, _), (7, _), (8, _), (9, _), (10, _), (11, _), (12, _), (13, _)]) rfl ?_
          first | exact k252 1 (Or.inl ⟨rfl, cn1 qz228 qz235 qz242⟩) z12 | exact k252 0 (Or.inr ⟨rfl, fun z => Int32.not_le.mpr qz242 z.2.2⟩) z12 | exact k252 0 (Or.inr ⟨rfl, fun z => Int32.not_le.mpr qz235 z.2.1⟩) z12 | exact k252 0 (Or.inr ⟨rfl, fun z => Int32.not_le.mpr qz228 z.1⟩) z12
        · skip
          refine rk_iconst 1 dL_isLaid_245 (by decide) ?_
          refine rk_goto 250 dL_isLaid_246 (by decide) ?_
          refine rk_istore (ls' := [(13, _), (0, _), (1, _), (2, _), (3, _), (4, _), (5, _), (6, _), (7, _), (8, _), (9, _), (10, _), (11, _), (12, _)]) dL_isLaid_250 (by decide) rfl ?_
          refine rk_ord [0, 1, 2, 3, 4, 5, 6, 7, 8, 9, 10, 11, 12, 13] (ls' := [(0, _), (1, _), (2, _), (3, _), (4, _), (5, _), (6, _), (7, _), (8, _), (9, _), (10, _), (11, _), (12, _), (13, _)]) rfl ?_
          first | exact k252 1 (Or.inl ⟨rfl, cn1 qz228 qz235 qz242⟩) z12 | exact k252 0 (Or.inr ⟨rfl, fun z => Int32.not_le.mpr qz242 z.2.2⟩) z12 | exact k252 0 (Or.inr ⟨rfl, fun z => Int32.not_le.mpr qz235 z.2.1⟩) z12 | exact k252 0 (Or.inr ⟨rfl, fun z => Int32.not_le.mpr qz228 z.1⟩) z12
  refine rk_bJ (ls := [(0, _), (1, _), (2, _), (3, _), (4, _)]) (by decide) rfl (Nat.le_of_ble_eq_true rfl) ?_
  refine rk_iload dL_isLaid_0 rfl ?_
  refine rk_bipush 100 dL_isLaid_2 (by decide) ?_
  refine rk_aload_n 0 dL_isLaid_4 rfl rfl ?_
  refine rk_bipush 11 dL_isLaid_5 (by decide) ?_
  refine rk_cVp (qc11 hY) rk_eX10_count rfl ⟨rfl, rfl⟩ rk_kL_8 dL_isLaid_7 rfl (by decide) (Nat.le_of_ble_eq_true rfl) ⟨Nat.le_refl _, Nat.le_refl _⟩ ?_
  refine rk_iadd dL_isLaid_10 ?_
  refine rk_pc (pc' := 11) rfl ?_
  refine rk_imul dL_isLaid_11 ?_
  refine rk_bipush 100 dL_isLaid_12 (by decide) ?_
  refine rk_cSp (cL_up_v (r := sp_strand N (nI ft)) st.1 (c := 100) rfl (by decide) (by omega) rfl) rk_eL_up rfl rk_kL_27 dL_isLaid_14 rfl (by decide) (Nat.le_of_ble_eq_true rfl) ⟨Nat.le_refl _, Nat.le_refl _⟩ ?_
  refine rk_istore (ls' := [(5, _), (0, _), (1, _), (2, _), (3, _), (4, _)]) dL_isLaid_17 (by decide) rfl ?_
  refine rk_iload dL_isLaid_19 rfl ?_
  refine rk_bipush 100 dL_isLaid_21 (by decide) ?_
  refine rk_pc (pc' := 23) rfl ?_
  refine rk_aload_n 0 dL_isLaid_23 rfl rfl ?_
  refine rk_bipush 10 dL_isLaid_24 (by decide) ?_
  refine rk_cVp (qc10 hY) rk_eX10_count rfl ⟨rfl, rfl⟩ rk_kL_8 dL_isLaid_26 rfl (by decide) (Nat.le_of_ble_eq_true rfl) ⟨Nat.le_refl _, Nat.le_refl _⟩ ?_
  refine rk_iadd dL_isLaid_29 ?_
  refine rk_imul dL_isLaid_30 ?_
  refine rk_bipush 100 dL_isLaid_31 (by decide) ?_
  refine rk_pc (pc' := 33) rfl ?_
  refine rk_cSp (cL_up_v (r := sp_yarn N (nI ft)) yr.1 (c := 100) rfl (by decide) (by omega) rfl) rk_eL_up rfl rk_kL_27 dL_isLaid_33 rfl (by decide) (Nat.le_of_ble_eq_true rfl) ⟨Nat.le_refl _, Nat.le_refl _⟩ ?_
  refine rk_istore (ls' := [(6, _), (5, _), (0, _), (1, _), (2, _), (3, _), (4, _)]) dL_isLaid_36 (by decide) rfl ?_
  refine rk_iload_n 2 dL_isLaid_38 rfl rfl ?_
  refine rk_iload_n 3 dL_isLaid_39 rfl rfl ?_
  refine rk_imul dL_isLaid_40 ?_
  refine rk_iload dL_isLaid_41 rfl ?_
  refine rk_pc (pc' := 43) rfl ?_
  refine rk_imul dL_isLaid_43 ?_
  refine rk_istore (ls' := [(7, _), (6, _), (5, _), (0, _), (1, _), (2, _), (3, _), (4, _)]) dL_isLaid_44 (by decide) rfl ?_
  refine rk_iload_n 2 dL_isLaid_46 rfl rfl ?_
  refine rk_iload dL_isLaid_47 rfl ?_
  refine rk_imul dL_isLaid_49 ?_
  refine rk_aload_n 0 dL_isLaid_50 rfl rfl ?_
  refine rk_pc (pc' := 51) rfl ?_
  refine rk_bipush 17 dL_isLaid_51 (by decide) ?_
  refine rk_cVp (qc17 hY) rk_eX10_count rfl ⟨rfl, rfl⟩ rk_kL_8 dL_isLaid_53 rfl (by decide) (Nat.le_of_ble_eq_true rfl) ⟨Nat.le_refl _, Nat.le_refl _⟩ ?_
  refine rk_cSp (cL_up_v (r := sp_hours N (nI s) (nI ft)) ho.1 e8 hv (by omega) rfl) rk_eL_up rfl rk_kL_27 dL_isLaid_56 rfl (by decide) (Nat.le_of_ble_eq_true rfl) ⟨Nat.le_refl _, Nat.le_refl _⟩ ?_
  refine rk_istore (ls' := [(8, _), (7, _), (6, _), (5, _), (0, _), (1, _), (2, _), (3, _), (4, _)]) dL_isLaid_59 (by decide) rfl ?_
  refine rk_aload_n 0 dL_isLaid_61 rfl rfl ?_
  refine rk_iconst 3 dL_isLaid_62 (by decide) ?_
  refine rk_pc (pc' := 63) rfl ?_
  refine rk_cVp (qc3 hY) rk_eX10_count rfl ⟨rfl, rfl⟩ rk_kL_8 dL_isLaid_63 rfl (by decide) (Nat.le_of_ble_eq_true rfl) ⟨Nat.le_refl _, Nat.le_refl _⟩ ?_
  refine rk_istore (ls' := [(9, _), (8, _), (7, _), (6, _), (5, _), (0, _), (1, _), (2, _), (3, _), (4, _)]) dL_isLaid_66 (by decide) rfl ?_
  refine rk_aload_n 0 dL_isLaid_68 rfl rfl ?_
  refine rk_iconst 1 dL_isLaid_69 (by decide) ?_
  refine rk_cVp (qc1 hY) rk_eX10_count rfl ⟨rfl, rfl⟩ rk_kL_8 dL_isLaid_70 rfl (by decide) (Nat.le_of_ble_eq_true rfl) ⟨Nat.le_refl _, Nat.le_refl _⟩ ?_
  refine rk_istore (ls' := [(10, _), (9, _), (8, _), (7, _), (6, _), (5, _), (0, _), (1, _), (2, _), (3, _), (4, _)]) dL_isLaid_73 (by decide) rfl ?_
  refine rk_pc (pc' := 75) rfl ?_
  refine rk_aload_n 0 dL_isLaid_75 rfl rfl ?_
  refine rk_iload_n 1 dL_isLaid_76 rfl rfl ?_
  refine rk_iconst 1 dL_isLaid_77 (by decide) ?_
  refine rk_cVp (qa (k := 1) hY hf (by decide) rfl rfl) rk_eX10_account rfl ⟨rfl, rfl⟩ rk_kL_18 dL_isLaid_78 rfl (by decide) (Nat.le_of_ble_eq_true rfl) ⟨Nat.le_refl _, Nat.le_refl _⟩ ?_
  refine rk_istore (ls' := [(11, _), (10, _), (9, _), (8, _), (7, _), (6, _), (5, _), (0, _), (1, _), (2, _), (3, _), (4, _)]) dL_isLaid_81 (by decide) rfl ?_
  refine rk_aload_n 0 dL_isLaid_83 rfl rfl ?_
  refine rk_pc (pc' := 84) rfl ?_
  refine rk_iload_n 1 dL_isLaid_84 rfl rfl ?_
  refine rk_iload_n 2 dL_isLaid_85 rfl rfl ?_
  refine rk_iload_n 3 dL_isLaid_86 rfl rfl ?_
  refine rk_iload dL_isLaid_87 rfl ?_
  refine rk_iconst 0 dL_isLaid_89 (by decide) ?_
  refine rk_cVp (lq_takes hY hf hs hy hft (sp_take0 rfl).symm) rk_eX10_takes rfl ⟨rfl, rfl⟩ rk_kL_30 dL_isLaid_90 rfl (by decide) (Nat.le_of_ble_eq_true rfl) ⟨Nat.le_refl _, Nat.le_refl _⟩ ?_
  refine rk_pc (pc' := 93) rfl ?_
  refine rk_iload dL_isLaid_93 rfl ?_
  refine rk_icmp_ne 161 dL_isLaid_95 (by decide) (fun qz95 => ?_) (fun qz95 => ?_)
  · skip
    exact absurd rfl qz95
  · skip
    refine rk_aload_n 0 dL_isLaid_98 rfl rfl ?_
    refine rk_iload_n 1 dL_isLaid_99 rfl rfl ?_
    refine rk_iload_n 2 dL_isLaid_100 rfl rfl ?_
    refine rk_iload_n 3 dL_isLaid_101 rfl rfl ?_
    refine rk_iload dL_isLaid_102 rfl ?_
    refine rk_pc (pc' := 104) rfl ?_
    refine rk_iconst 1 dL_isLaid_104 (by decide) ?_
    refine rk_cVp (lq_takes hY hf hs hy hft (sp_take1 rfl).symm) rk_eX10_takes rfl ⟨rfl, rfl⟩ rk_kL_30 dL_isLaid_105 rfl (by decide) (Nat.le_of_ble_eq_true rfl) ⟨Nat.le_refl _, Nat.le_refl _⟩ ?_
    refine rk_iload dL_isLaid_108 rfl ?_
    refine rk_icmp_ne 161 dL_isLaid_110 (by decide) (fun qz110 => ?_) (fun qz110 => ?_)
    · skip
      exact absurd rfl qz110
    · skip
      refine rk_aload_n 0 dL_isLaid_113 rfl rfl ?_
      refine rk_iload_n 1 dL_isLaid_114 rfl rfl ?_
      refine rk_iload_n 2 dL_isLaid_115 rfl rfl ?_
      refine rk_pc (pc' := 116) rfl ?_
      refine rk_iload_n 3 dL_isLaid_116 rfl rfl ?_
      refine rk_iload dL_isLaid_117 rfl ?_
      refine rk_iconst 2 dL_isLaid_119 (by decide) ?_
      refine rk_cVp (lq_takes hY hf hs hy hft (sp_take2 rfl).symm) rk_eX10_takes rfl ⟨rfl, rfl⟩ rk_kL_30 dL_isLaid_120 rfl (by decide) (Nat.le_of_ble_eq_true rfl) ⟨Nat.le_refl _, Nat.le_refl _⟩ ?_
      refine rk_iload dL_isLaid_123 rfl ?_
      refine rk_icmp_ne 161 dL_isLaid_125 (by decide) (fun qz125 => ?_) (fun qz125 => ?_)
      · skip
        exact absurd rfl qz125
      · skip
        refine rk_aload_n 0 dL_isLaid_128 rfl rfl ?_
        refine rk_pc (pc' := 129) rfl ?_
        refine rk_iload_n 1 dL_isLaid_129 rfl rfl ?_
        refine rk_iload_n 2 dL_isLaid_130 rfl rfl ?_
        refine rk_iload_n 3 dL_isLaid_131 rfl rfl ?_
        refine rk_iload dL_isLaid_132 rfl ?_
        refine rk_iconst 3 dL_isLaid_134 (by decide) ?_
        refine rk_cVp (lq_takes hY hf hs hy hft (sp_take3 rfl).symm) rk_eX10_takes rfl ⟨rfl, rfl⟩ rk_kL_30 dL_isLaid_135 rfl (by decide) (Nat.le_of_ble_eq_true rfl) ⟨Nat.le_refl _, Nat.le_refl _⟩ ?_
        refine rk_pc (pc' := 138) rfl ?_
        refine rk_iload dL_isLaid_138 rfl ?_
        refine rk_icmp_ne 161 dL_isLaid_140 (by decide) (fun qz140 => ?_) (fun qz140 => ?_)
        · skip
          exact absurd rfl qz140
        · skip
          refine rk_aload_n 0 dL_isLaid_143 rfl rfl ?_
          refine rk_iload_n 1 dL_isLaid_144 rfl rfl ?_
          refine rk_iload_n 2 dL_isLaid_145 rfl rfl ?_
          refine rk_iload_n 3 dL_isLaid_146 rfl rfl ?_
          refine rk_iload dL_isLaid_147 rfl ?_
          refine rk_pc (pc' := 149) rfl ?_
          refine rk_iconst 4 dL_isLaid_149 (by decide) ?_
          refine rk_cVp (lq_takes hY hf hs hy hft (sp_take4 rfl).symm) rk_eX10_takes rfl ⟨rfl, rfl⟩ rk_kL_30 dL_isLaid_150 rfl (by decide) (Nat.le_of_ble_eq_true rfl) ⟨Nat.le_refl _, Nat.le_refl _⟩ ?_
          refine rk_aload_n 0 dL_isLaid_153 rfl rfl ?_
          refine rk_iload_n 1 dL_isLaid_154 rfl rfl ?_
          refine rk_cSp (cL_quality_s hY hf) rk_eL_quality rfl rk_kL_34 dL_isLaid_155 rfl (by decide) (Nat.le_of_ble_eq_true rfl) ⟨Nat.le_refl _, Nat.le_refl _⟩ ?_
          refine rk_icmp_eq 163 dL_isLaid_158 (by decide) (fun qz158 => ?_) (fun qz158 => ?_)
          · skip
            refine rk_iload_n 2 dL_isLaid_163 rfl rfl ?_
            refine rk_pc (pc' := 164) rfl ?_
            refine rk_iload_n 3 dL_isLaid_164 rfl rfl ?_
            refine rk_imul dL_isLaid_165 ?_
            refine rk_aload_n 0 dL_isLaid_166 rfl rfl ?_
            refine rk_bipush 19 dL_isLaid_167 (by decide) ?_
            refine rk_iload_n 1 dL_isLaid_169 rfl rfl ?_
            refine rk_iadd dL_isLaid_170 ?_
            refine rk_pc (pc' := 171) rfl ?_
            refine rk_cVp (qcs hY hf) rk_eX10_count rfl ⟨rfl, rfl⟩ rk_kL_8 dL_isLaid_171 rfl (by decide) (Nat.le_of_ble_eq_true rfl) ⟨Nat.le_refl _, Nat.le_refl _⟩ ?_
            refine rk_imul dL_isLaid_174 ?_
            refine rk_aload_n 0 dL_isLaid_175 rfl rfl ?_
            refine rk_iload_n 1 dL_isLaid_176 rfl rfl ?_
            refine rk_cSp (cL_quality_s hY hf) rk_eL_quality rfl rk_kL_34 dL_isLaid_177 rfl (by decide) (Nat.le_of_ble_eq_true rfl) ⟨Nat.le_refl _, Nat.le_refl _⟩ ?_
            refine rk_imul dL_isLaid_180 ?_
            refine rk_pc (pc' := 181) rfl ?_
            refine rk_bipush 100 dL_isLaid_181 (by decide) ?_
            refine rk_idiv dL_isLaid_183 (by decide) ?_
            refine rk_istore (ls' := [(12, _), (11, _), (10, _), (9, _), (8, _), (7, _), (6, _), (5, _), (0, _), (1, _), (2, _), (3, _), (4, _)]) dL_isLaid_184 (by decide) rfl ?_
            refine rk_aload_n 0 dL_isLaid_186 rfl rfl ?_
            refine rk_iload_n 1 dL_isLaid_187 rfl rfl ?_
            refine rk_iload_n 2 dL_isLaid_188 rfl rfl ?_
            refine rk_pc (pc' := 189) rfl ?_
            refine rk_iload_n 3 dL_isLaid_189 rfl rfl ?_
            refine rk_iload dL_isLaid_190 rfl ?_
            refine rk_iconst 5 dL_isLaid_192 (by decide) ?_
            refine rk_cVp (lq_takes hY hf hs hy hft (sp_take5 rfl).symm) rk_eX10_takes rfl ⟨rfl, rfl⟩ rk_kL_30 dL_isLaid_193 rfl (by decide) (Nat.le_of_ble_eq_true rfl) ⟨Nat.le_refl _, Nat.le_refl _⟩ ?_
            refine rk_iload dL_isLaid_196 rfl ?_
            refine rk_icmp_ne 218 dL_isLaid_198 (by decide) (fun qz198 => ?_) (fun qz198 => ?_)
            · skip
              exact (qz198 rfl).elim
            · skip
              refine rk_iload dL_isLaid_201 rfl ?_
              refine rk_pc (pc' := 203) rfl ?_
              refine rk_if_le 220 dL_isLaid_203 (by decide) (fun qz203 => ?_) (fun qz203 => ?_)
              · skip
                refine rk_ord [0, 1, 2, 3, 4, 5, 6, 7, 8, 9, 10, 11, 12] (ls' := [(0, _), (1, _), (2, _), (3, _), (4, _), (5, _), (6, _), (7, _), (8, _), (9, _), (10, _), (11, _), (12, _)]) rfl ?_
                exact k220 _
              · skip
                refine rk_aload_n 0 dL_isLaid_206 rfl rfl ?_
                refine rk_iload_n 1 dL_isLaid_207 rfl rfl ?_
                refine rk_iload_n 2 dL_isLaid_208 rfl rfl ?_
                refine rk_iload dL_isLaid_209 rfl ?_
                refine rk_cVp (lq_least hY hf hs (st := sp_news N f (nI s) (nI y)) (Int32.not_le.mp qz203) hnb) rk_eX10_leastYarns rfl ⟨rfl, rfl⟩ rk_kL_37 dL_isLaid_211 rfl (by decide) (Nat.le_of_ble_eq_true rfl) ⟨Nat.le_refl _, Nat.le_refl _⟩ ?_
                refine rk_iload_n 3 dL_isLaid_214 rfl rfl ?_
                refine rk_pc (pc' := 215) rfl ?_
                refine rk_icmp_le 220 dL_isLaid_215 (by decide) (fun qz215 => ?_) (fun qz215 => ?_)
                · skip
                  refine rk_ord [0, 1, 2, 3, 4, 5, 6, 7, 8, 9, 10, 11, 12] (ls' := [(0, _), (1, _), (2, _), (3, _), (4, _), (5, _), (6, _), (7, _), (8, _), (9, _), (10, _), (11, _), (12, _)]) rfl ?_
                  exact k220 _
                · skip
                  exact absurd hfl qz215
          · skip
            exact absurd rfl qz158
end PI

