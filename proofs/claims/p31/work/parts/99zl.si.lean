section PA
variable {N M : Nat → Int32} {U T : Int}
/-! the accounts as whole numbers: of each fibre what was spun is all others together -/
noncomputable def sy_t (N : Nat → Int32) (f p : Nat) : Int := @ite _ (N (50 + 7 * p + 0) = nI f) (Classical.propDecidable _) (N (50 + 7 * p + 4)).toInt 0
noncomputable def sy (N : Nat → Int32) (f c : Nat) : Int := sp_sg (sy_t N f) c
def si (U : Int) (N : Nat → Int32) : Prop := (∀ p, p < sp_c N 12 → 0 ≤ (N (50 + 7 * p + 4)).toInt) ∧ ∀ f, f < 3 → 0 ≤ (N (20 + 3 * f + 2)).toInt ∧ 0 ≤ (N (30 + 4 * f + 1)).toInt ∧ 0 ≤ (N (30 + 4 * f + 2)).toInt ∧ 0 ≤ (N (30 + 4 * f + 3)).toInt ∧ (N (30 + 4 * f + 0)).toInt ≤ U ∧ (N (20 + 3 * f + 2)).toInt + sy N f (sp_c N 12) + (N (30 + 4 * f + 1)).toInt + (N (30 + 4 * f + 2)).toInt + (N (30 + 4 * f + 3)).toInt = (N (30 + 4 * f + 0)).toInt
theorem sy_t1 {f p : Nat} (h : N (50 + 7 * p + 0) = nI f) : sy_t N f p = (N (50 + 7 * p + 4)).toInt := if_pos h
theorem sy_t0 {f p : Nat} (h : ¬ N (50 + 7 * p + 0) = nI f) : sy_t N f p = 0 := if_neg h
theorem sy_tc {f p q : Nat} (h0 : M (50 + 7 * p + 0) = N (50 + 7 * q + 0)) (h4 : M (50 + 7 * p + 4) = N (50 + 7 * q + 4)) : sy_t M f p = sy_t N f q := by
  unfold sy_t; rw [h0, h4]
theorem sy_tge {f p : Nat} (h : 0 ≤ (N (50 + 7 * p + 4)).toInt) : 0 ≤ sy_t N f p := by
  unfold sy_t; split <;> omega
theorem sy_ge {f c : Nat} (h : ∀ p, p < c → 0 ≤ (N (50 + 7 * p + 4)).toInt) : 0 ≤ sy N f c := sp_sg_ge (fun i hi => sy_tge (h i hi))
theorem sy_one {f c p : Nat} (h : ∀ p, p < c → 0 ≤ (N (50 + 7 * p + 4)).toInt) (hp : p < c) : sy_t N f p ≤ sy N f c := sp_sg_one (fun i hi => sy_tge (h i hi)) hp
theorem si.cg {c : Nat} (h : si U N) (hc : N 12 = nI c) (hc2 : c ≤ 24) (h12 : M 12 = N 12) (e : ∀ j, (20 ≤ j ∧ j < 29 ∧ (j - 20) % 3 = 2) ∨ (30 ≤ j ∧ j < 42) → M j = N j) (ep : ∀ p, p < c → M (50 + 7 * p + 0) = N (50 + 7 * p + 0) ∧ M (50 + 7 * p + 4) = N (50 + 7 * p + 4)) : si U M := by
  have ec : sp_c N 12 = c := sp_cN hc (by omega)
  have em : sp_c M 12 = c := sp_cN (h12.trans hc) (by omega)
  have es : ∀ f, sy M f c = sy N f c := fun f => sp_sg_c (fun i hi => sy_tc (ep i hi).1 (ep i hi).2)
  obtain ⟨h1, h2⟩ := h
  rw [ec] at h1 h2
  unfold si
  rw [em]
  refine ⟨fun p hp => by rw [(ep p hp).2]; exact h1 p hp, fun f hf => ?_⟩
  rw [e _ (by omega), e _ (by omega), e _ (by omega), e _ (by omega), e _ (by omega), es]
  exact h2 f hf
theorem sy_gone {f c p : Nat} (hc : M 12 = nI c) (hc2 : c ≤ 24) (hp : p < c) : sy (sp_gone M 12 50 p) f (c - 1) + sy_t M f p = sy M f c := by
  have e := sp_sg_rm (g := sy_t M f) (p := p) (n := c - 1) (by omega)
  rw [show c - 1 + 1 = c by omega] at e
  unfold sy
  rw [← e]
  congr 1
  refine sp_sg_c (fun i hi => ?_)
  have g0 := sp_gone_p (N := M) (cnt := 12) (base := 50) (p := p) (k := 0) hc (by omega) (by decide) hi (by decide)
  have g4 := sp_gone_p (N := M) (cnt := 12) (base := 50) (p := p) (k := 4) hc (by omega) (by decide) hi (by decide)
  exact sy_tc g0 g4
theorem sy_cut1 {g c p f : Nat} {feet : Int32} (hp : p < c) (h0 : N (50 + 7 * p + 0) = nI f) (hf : f < 3) (hg : g < 3) (hy : (N (50 + 7 * p + 4) - sp_yin (N (50 + 7 * p + 4)) feet (N (50 + 7 * p + 3))).toInt = (N (50 + 7 * p + 4)).toInt - (sp_yin (N (50 + 7 * p + 4)) feet (N (50 + 7 * p + 3))).toInt) : sy (sp_cut1 N p feet) g c = sy N g c - (if g = f then (sp_yin (N (50 + 7 * p + 4)) feet (N (50 + 7 * p + 3))).toInt else 0) := by
  have e4 : sp_cut1 N p feet (50 + 7 * p + 4) = N (50 + 7 * p + 4) - sp_yin (N (50 + 7 * p + 4)) feet (N (50 + 7 * p + 3)) := by rw [sp_cut1, sp_us]
  have e0 : sp_cut1 N p feet (50 + 7 * p + 0) = N (50 + 7 * p + 0) := sp_cut1_x (by omega) (by omega)
  unfold sy
  rw [sp_sg_up (g := sy_t N g) (h := sy_t (sp_cut1 N p feet) g) hp (fun i hi hne => sy_tc (sp_cut1_x (by omega) (by omega)) (sp_cut1_x (by omega) (by omega)))]
  by_cases hgf : g = f
  · subst hgf
    rw [sy_t1 h0, sy_t1 (e0.trans h0), e4, hy, if_pos rfl]
    omega
  · have hn : ¬ N (50 + 7 * p + 0) = nI g := fun z => hgf ((nI_eq (by omega) (by omega)).mp (z.symm.trans h0))
    rw [sy_t0 hn, sy_t0 (fun z => hn (e0.symm.trans z)), if_neg hgf]
    omega
theorem rk_yin_t {Y feet L : Int32} (hY : 0 ≤ Y.toInt) (hf0 : 0 ≤ feet.toInt) (hL : 0 < L.toInt) (hfl : feet.toInt ≤ L.toInt) : 0 ≤ (sp_yin Y feet L).toInt ∧ (sp_yin Y feet L).toInt ≤ Y.toInt := by
  have y1 := Int32.toInt_lt Y
  have f1 := Int32.toInt_lt feet
  have hm0 : 0 ≤ Y.toInt * feet.toInt := Int.mul_nonneg hY hf0
  have hm1 : Y.toInt * feet.toInt ≤ Y.toInt * L.toInt := Int.mul_le_mul_of_nonneg_left hfl hY
  have hm2 : Y.toInt * feet.toInt ≤ 2147483647 * 2147483647 := Int.le_trans (Int.mul_le_mul_of_nonneg_left (by omega) hY) (Int.mul_le_mul_of_nonneg_right (by omega) (by decide))
  have hd0 : 0 ≤ Y.toInt * feet.toInt / L.toInt := Int.ediv_nonneg hm0 (by omega)
  have hd1 : Y.toInt * feet.toInt / L.toInt ≤ Y.toInt := by
    have h := Int.ediv_le_ediv hL hm1
    rwa [Int.mul_ediv_cancel _ (by omega)] at h
  have e : (sp_yin Y feet L).toInt = Y.toInt * feet.toInt / L.toInt := by
    rw [sp_yin, Int64.toInt_toInt32, Int64.toInt_div, Int64.toInt_mul, Int32.toInt_toInt64, Int32.toInt_toInt64, Int32.toInt_toInt64]
    rw [Int.bmod_eq_of_le_mul_two (x := Y.toInt * feet.toInt) (by omega) (by omega), Int.tdiv_eq_ediv_of_nonneg hm0]
    rw [Int.bmod_eq_of_le_mul_two (x := Y.toInt * feet.toInt / L.toInt) (y := 2 ^ 64) (by omega) (by omega), Int.bmod_eq_of_le_mul_two (by omega) (by omega)]
  rw [e]
  exact ⟨hd0, hd1⟩
/-- a cut of a part that counts as sold (1) or tested (2) -/
theorem si_cut {c p f k : Nat} {feet : Int32} (h : si U N) (hU : U ≤ 2000000000) (hc : N 12 = nI c) (hc2 : c ≤ 24) (hp : p < c) (hf : f < 3) (h0 : N (50 + 7 * p) = nI f) (hL : 0 < (N (50 + 7 * p + 3)).toInt) (hf0 : 0 ≤ feet.toInt) (hfl : feet.toInt ≤ (N (50 + 7 * p + 3)).toInt) (hk : k = 1 ∨ k = 2) : si U (sp_u (sp_cut N p feet) (30 + 4 * f + k) (N (30 + 4 * f + k) + sp_yin (N (50 + 7 * p + 4)) feet (N (50 + 7 * p + 3)))) := by
  have ec : sp_c N 12 = c := sp_cN hc (by omega)
  have ef : sp_c N (50 + 7 * p) = f := sp_cN h0 (by omega)
  obtain ⟨h1, h2⟩ := h
  rw [ec] at h1 h2
  have hyp := rk_yin_t (h1 p hp) hf0 hL hfl
  have hsub := rk_sub_t (x := N (50 + 7 * p + 4)) hyp.1 hyp.2
  have hlen := rk_sub_t (x := N (50 + 7 * p + 3)) hf0 hfl
  generalize hy : sp_yin (N (50 + 7 * p + 4)) feet (N (50 + 7 * p + 3)) = y at hyp hsub ⊢
  have hone := sy_one (f := f) h1 hp
  rw [sy_t1 h0] at hone
  obtain ⟨s1, s2, s3, s4, s5, s6⟩ := h2 f hf
  have hsyg : 0 ≤ sy N f c := sy_ge h1
  have hk0 : 0 ≤ (N (30 + 4 * f + k)).toInt := by rcases hk with rfl | rfl <;> assumption
  have hkU : (N (30 + 4 * f + k)).toInt + (N (50 + 7 * p + 4)).toInt ≤ U := by rcases hk with rfl | rfl <;> omega
  have hadd : (N (30 + 4 * f + k) + y).toInt = (N (30 + 4 * f + k)).toInt + y.toInt := rk_add_t (by omega) (by omega)
  have hsy : ∀ g, g < 3 → sy (sp_cut1 N p feet) g c = sy N g c - (if g = f then y.toInt else 0) := fun g hg => by
    have e := sy_cut1 (N := N) (feet := feet) (c := c) hp h0 hf hg (by rw [hy]; exact hsub)
    rw [hy] at e
    exact e
  have c1x : ∀ j, j < 50 → sp_cut1 N p feet j = N j := fun j hj => sp_cut1_x (by omega) (by omega)
  have c14 : sp_cut1 N p feet (50 + 7 * p + 4) = N (50 + 7 * p + 4) - y := by rw [sp_cut1, sp_us, hy]
  have c10 : sp_cut1 N p feet (50 + 7 * p + 0) = nI f := (sp_cut1_x (by omega) (by omega)).trans h0
  have c1n : ∀ i, i < c → 0 ≤ (sp_cut1 N p feet (50 + 7 * i + 4)).toInt := fun i hi => by
    by_cases hip : i = p
    · subst hip; rw [c14, hsub]; omega
    · rw [sp_cut1_x (by omega) (by omega)]; exact h1 i hi
  have other : ∀ (G : Nat → Int32) (c' : Nat), sp_c G 12 = c' → (∀ i, i < c' → 0 ≤ (G (50 + 7 * i + 4)).toInt) → (∀ g, g < 3 → g ≠ f → sy G g c' = sy N g c) → (∀ j, j ≠ 12 → j < 50 → (j < 30 + 4 * f ∨ 30 + 4 * f + 4 ≤ j) → G j = N j) → G (30 + 4 * f + 0) = N (30 + 4 * f + 0) → (0 ≤ (G (30 + 4 * f + 1)).toInt ∧ 0 ≤ (G (30 + 4 * f + 2)).toInt ∧ 0 ≤ (G (30 + 4 * f + 3)).toInt ∧ sy G f c' + (G (30 + 4 * f + 1)).toInt + (G (30 + 4 * f + 2)).toInt + (G (30 + 4 * f + 3)).toInt = sy N f c + (N (30 + 4 * f + 1)).toInt + (N (30 + 4 * f + 2)).toInt + (N (30 + 4 * f + 3)).toInt) → si U G := by
    intro G c' eG n1 n2 n3 n4 n5
    unfold si
    rw [eG]
    refine ⟨n1, fun g hg => ?_⟩
    by_cases hgf : g = f
    · subst hgf
      rw [n3 (20 + 3 * g + 2) (by omega) (by omega) (by omega), n4]
      exact ⟨s1, n5.1, n5.2.1, n5.2.2.1, s5, by omega⟩
    · rw [n2 g hg hgf, n3 (20 + 3 * g + 2) (by omega) (by omega) (by omega), n3 (30 + 4 * g + 0) (by omega) (by omega) (by omega), n3 (30 + 4 * g + 1) (by omega) (by omega) (by omega), n3 (30 + 4 * g + 2) (by omega) (by omega) (by omega), n3 (30 + 4 * g + 3) (by omega) (by omega) (by omega)]
      exact h2 g hg
  have c112 : sp_cut1 N p feet 12 = nI c := (c1x 12 (by decide)).trans hc
  have uy : ∀ (G : Nat → Int32) (v : Int32) (i : Nat), sp_u G (30 + 4 * f + k) v (50 + 7 * i + 4) = G (50 + 7 * i + 4) := fun G v i => sp_un (by omega)
  have us : ∀ (G : Nat → Int32) (v : Int32) (g c' : Nat), sy (sp_u G (30 + 4 * f + k) v) g c' = sy G g c' := fun G v g c' => sp_sg_c (fun i hi => sy_tc (sp_un (by omega)) (sp_un (by omega)))
  have gp : ∀ (G : Nat → Int32), G 12 = nI c → (∀ i, i < c → i ≠ p → 0 ≤ (G (50 + 7 * i + 4)).toInt) → ∀ i, i < c - 1 → 0 ≤ (sp_gone G 12 50 p (50 + 7 * i + 4)).toInt := fun G hG hG2 i hi => by
    rw [sp_gone_p (N := G) (cnt := 12) (base := 50) (p := p) (k := 4) hG (by omega) (by decide) hi (by decide)]
    refine hG2 _ ?_ ?_ <;> split <;> omega
  unfold sp_cut
  split
  · next hz =>
    have hLf : N (50 + 7 * p + 3) = feet := by
      have : (N (50 + 7 * p + 3) - feet).toInt = 0 := by rw [hz]; rfl
      exact Int32.toInt_inj.mp (by omega)
    have hyY : y = N (50 + 7 * p + 4) := by
      rw [← hy, ← hLf]
      exact sp_yin_all (Int32.lt_iff_toInt_lt.mpr hL)
    have hg := fun g => sy_gone (M := sp_cut1 N p feet) (f := g) (c := c) (p := p) c112 hc2 hp
    have g12 := sp_gone_n (N := sp_cut1 N p feet) (cnt := 12) (base := 50) (p := p) c112 (by omega)
    have gx : ∀ j, j ≠ 12 → j < 50 → sp_gone (sp_cut1 N p feet) 12 50 p j = N j := fun j j1 j2 => (sp_gone_x c112 (by omega) j1 (by omega)).trans (c1x j j2)
    have ty : ∀ g, g < 3 → sy_t (sp_cut1 N p feet) g p = 0 := fun g hg3 => by
      unfold sy_t
      split
      · rw [c14, hyY]; simp
      · rfl
    refine other _ (c - 1) (by rw [sp_c, sp_un (by omega), g12]; exact nI_clamp (by omega)) (fun i hi => ?_) (fun g hg3 hgf => ?_) (fun j j1 j2 j3 => ?_) ?_ ?_
    · rw [uy]; exact gp _ c112 (fun i hi _ => c1n i hi) i hi
    · have e1 := hg g; have e2 := hsy g hg3; rw [ty g hg3] at e1; rw [if_neg hgf] at e2; rw [us]; omega
    · rw [sp_un (by omega), gx j j1 j2]
    · rw [sp_un (by omega), gx _ (by omega) (by omega)]
    · have e1 := hg f; have e2 := hsy f hf; rw [ty f hf] at e1; rw [if_pos rfl] at e2
      rw [us]
      rcases hk with rfl | rfl
      · rw [sp_us, sp_un (by omega), sp_un (by omega), gx _ (by omega) (by omega), gx _ (by omega) (by omega), hadd]; omega
      · rw [sp_us, sp_un (by omega), sp_un (by omega), gx _ (by omega) (by omega), gx _ (by omega) (by omega), hadd]; omega
  · split
    · have c2x : ∀ j, j ≠ 30 + 4 * f + 3 → sp_cut2 N p feet j = sp_cut1 N p feet j := fun j hj => by rw [sp_cut2, ef, sp_un hj]
      have c23 : sp_cut2 N p feet (30 + 4 * f + 3) = N (30 + 4 * f + 3) + (N (50 + 7 * p + 4) - y) := by rw [sp_cut2, ef, sp_us, hy]
      have h3a : (N (30 + 4 * f + 3) + (N (50 + 7 * p + 4) - y)).toInt = (N (30 + 4 * f + 3)).toInt + ((N (50 + 7 * p + 4)).toInt - y.toInt) := by
        rw [rk_add_t (by omega) (by omega), hsub]
      have c212 : sp_cut2 N p feet 12 = nI c := (c2x 12 (by omega)).trans c112
      have hg := fun g => sy_gone (M := sp_cut2 N p feet) (f := g) (c := c) (p := p) c212 hc2 hp
      have g12 := sp_gone_n (N := sp_cut2 N p feet) (cnt := 12) (base := 50) (p := p) c212 (by omega)
      have gx : ∀ j, j ≠ 12 → j < 50 → sp_gone (sp_cut2 N p feet) 12 50 p j = sp_cut2 N p feet j := fun j j1 j2 => sp_gone_x c212 (by omega) j1 (by omega)
      have es : ∀ g, sy (sp_cut2 N p feet) g c = sy (sp_cut1 N p feet) g c := fun g => sp_sg_c (fun i hi => sy_tc (c2x _ (by omega)) (c2x _ (by omega)))
      have et : ∀ g, sy_t (sp_cut2 N p feet) g p = sy_t (sp_cut1 N p feet) g p := fun g => sy_tc (c2x _ (by omega)) (c2x _ (by omega))
      refine other _ (c - 1) (by rw [sp_c, sp_un (by omega), g12]; exact nI_clamp (by omega)) (fun i hi => ?_) (fun g hg3 hgf => ?_) (fun j j1 j2 j3 => ?_) ?_ ?_
      · rw [uy]; exact gp _ c212 (fun i hi _ => by rw [c2x _ (by omega)]; exact c1n i hi) i hi
      · have e1 := hg g; have e2 := hsy g hg3
        have hn : ¬ sp_cut1 N p feet (50 + 7 * p + 0) = nI g := fun z => hgf ((nI_eq (by omega) (by omega)).mp (z.symm.trans c10))
        rw [es, et, sy_t0 hn] at e1; rw [if_neg hgf] at e2; rw [us]; omega
      · rw [sp_un (by omega), gx j j1 j2, c2x j (by omega), c1x j j2]
      · rw [sp_un (by omega), gx _ (by omega) (by omega), c2x _ (by omega), c1x _ (by omega)]
      · have e1 := hg f; have e2 := hsy f hf
        rw [es, et, sy_t1 c10, c14, hsub] at e1; rw [if_pos rfl] at e2
        rw [us]
        rcases hk with rfl | rfl
        · rw [sp_us, sp_un (by omega), sp_un (by omega), gx _ (by omega) (by omega), gx _ (by omega) (by omega), c23, c2x _ (by omega), c1x _ (by omega), hadd, h3a]; omega
        · rw [sp_us, sp_un (by omega), sp_un (by omega), gx _ (by omega) (by omega), gx _ (by omega) (by omega), c23, c2x _ (by omega), c1x _ (by omega), hadd, h3a]; omega
    · refine other _ c (by rw [sp_c, sp_un (by omega), c112]; exact nI_clamp (by omega)) (fun i hi => ?_) (fun g hg3 hgf => ?_) (fun j j1 j2 j3 => ?_) ?_ ?_
      · rw [uy]; exact c1n i hi
      · have e2 := hsy g hg3; rw [if_neg hgf] at e2; rw [us]; omega
      · rw [sp_un (by omega), c1x j j2]
      · rw [sp_un (by omega), c1x _ (by omega)]
      · have e2 := hsy f hf; rw [if_pos rfl] at e2
        rw [us]
        rcases hk with rfl | rfl
        · rw [sp_us, sp_un (by omega), sp_un (by omega), c1x _ (by omega), c1x _ (by omega), hadd]; omega
        · rw [sp_us, sp_un (by omega), sp_un (by omega), c1x _ (by omega), c1x _ (by omega), hadd]; omega
end PA
