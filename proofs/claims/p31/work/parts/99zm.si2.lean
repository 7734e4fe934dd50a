section PB
variable {N M : Nat → Int32} {U T : Int}
theorem si.mo {U' : Int} (h : si U N) (e : U ≤ U') : si U' N := ⟨h.1, fun f hf => by
  obtain ⟨s1, s2, s3, s4, s5, s6⟩ := h.2 f hf
  exact ⟨s1, s2, s3, s4, Int.le_trans s5 e, s6⟩⟩
theorem si_lay {c f a b ft : Nat} (h : si U N) (hU : U ≤ 2000000000) (hv : sp_rl N) (hc : N 12 = nI c) (hc2 : c < 24) (hf : f < 3) (ha : a ≤ 4) (hb : b ≤ 40) (hft : ft ≤ 2000) (hle : nI a * nI b * sp_yarn N (nI ft) ≤ N (20 + 3 * f + 2)) : si U (sp_layN N f c (nI a) (nI b) (nI ft)) := by
  have ec : sp_c N 12 = c := sp_cN hc (by omega)
  obtain ⟨h1, h2⟩ := h
  rw [ec] at h1 h2
  obtain ⟨k, hk, ek⟩ := sp_yarn_n hv hft
  have hab : a * b ≤ 4 * 40 := Nat.mul_le_mul ha hb
  have hm : a * b * k ≤ 160 * 4480 := Nat.mul_le_mul hab hk
  have eA : nI a * nI b * sp_yarn N (nI ft) = nI (a * b * k) := by rw [ek, pk_mul, pk_mul]
  have tA : (nI a * nI b * sp_yarn N (nI ft)).toInt = ((a * b * k : Nat) : Int) := by rw [eA]; exact nI_toInt (by omega)
  have hle2 := Int32.le_iff_toInt_le.mp hle
  have e2 : sp_layN N f c (nI a) (nI b) (nI ft) (20 + 3 * f + 2) = N (20 + 3 * f + 2) - nI a * nI b * sp_yarn N (nI ft) := by
    rw [sp_layN, sp_un (by omega), sp_un (by omega), sp_un (by omega), sp_un (by omega), sp_un (by omega), sp_un (by omega), sp_un (by omega), sp_un (by omega), sp_un (by omega), sp_us]
  have hx : ∀ j, j ≠ 20 + 3 * f + 2 → j ≠ 11 → (j < 50 + 7 * c ∨ 50 + 7 * c + 7 ≤ j) → j ≠ 12 → sp_layN N f c (nI a) (nI b) (nI ft) j = N j := fun j j1 j2 j3 j4 => sp_lay_x j1 j2 j3 j4
  have p0 : sp_layN N f c (nI a) (nI b) (nI ft) (50 + 7 * c + 0) = nI f := sp_lay_p (k := 0) (by decide)
  have p4 : sp_layN N f c (nI a) (nI b) (nI ft) (50 + 7 * c + 4) = nI a * nI b * sp_yarn N (nI ft) := sp_lay_p (k := 4) (by decide)
  have e12 : sp_c (sp_layN N f c (nI a) (nI b) (nI ft)) 12 = c + 1 := sp_cN (by rw [sp_lay_12, hc, nI_1]) (by omega)
  have hs : ∀ g, sy (sp_layN N f c (nI a) (nI b) (nI ft)) g (c + 1) = sy N g c + sy_t (sp_layN N f c (nI a) (nI b) (nI ft)) g c := fun g => by
    show sy (sp_layN N f c (nI a) (nI b) (nI ft)) g c + sy_t (sp_layN N f c (nI a) (nI b) (nI ft)) g c = _
    rw [show sy (sp_layN N f c (nI a) (nI b) (nI ft)) g c = sy N g c from sp_sg_c (fun i hi => sy_tc (hx _ (by omega) (by omega) (by omega) (by omega)) (hx _ (by omega) (by omega) (by omega) (by omega)))]
  unfold si
  rw [e12]
  refine ⟨fun i hi => ?_, fun g hg => ?_⟩
  · by_cases hic : i = c
    · subst hic; rw [p4, tA]; omega
    · rw [hx _ (by omega) (by omega) (by omega) (by omega)]; exact h1 i (by omega)
  · obtain ⟨s1, s2, s3, s4, s5, s6⟩ := h2 g hg
    rw [hx (30 + 4 * g + 0) (by omega) (by omega) (by omega) (by omega), hx (30 + 4 * g + 1) (by omega) (by omega) (by omega) (by omega), hx (30 + 4 * g + 2) (by omega) (by omega) (by omega) (by omega), hx (30 + 4 * g + 3) (by omega) (by omega) (by omega) (by omega), hs]
    by_cases hgf : g = f
    · subst hgf
      have hsub := rk_sub_t (x := N (20 + 3 * g + 2)) (y := nI a * nI b * sp_yarn N (nI ft)) (by omega) hle2
      rw [e2, hsub, sy_t1 p0, p4]
      exact ⟨by omega, s2, s3, s4, s5, by omega⟩
    · have hn : ¬ sp_layN N f c (nI a) (nI b) (nI ft) (50 + 7 * c + 0) = nI g := fun z => hgf ((nI_eq (by omega) (by omega)).mp (z.symm.trans p0))
      rw [sy_t0 hn, hx (20 + 3 * g + 2) (by omega) (by omega) (by omega) (by omega)]
      exact ⟨s1, s2, s3, s4, s5, by omega⟩
theorem si_join {c f a b : Nat} (h : si U N) (hU : U ≤ 2000000000) (hc : N 12 = nI c) (hc2 : c ≤ 24) (hf : f < 3) (ha : a < c) (hb : b < c) (hne : a ≠ b) (ea : N (50 + 7 * a + 0) = nI f) (eb : N (50 + 7 * b + 0) = nI f) : si U (sp_gone (sp_joinN N a b) 12 50 b) := by
  have ec : sp_c N 12 = c := sp_cN hc (by omega)
  obtain ⟨h1, h2⟩ := h
  rw [ec] at h1 h2
  have hx : ∀ j, j ≠ 50 + 7 * a + 3 → j ≠ 50 + 7 * a + 4 → j ≠ 50 + 7 * a + 5 → j ≠ 50 + 7 * a + 6 → sp_joinN N a b j = N j := fun j j1 j2 j3 j4 => by rw [sp_joinN, sp_un j4, sp_un j3, sp_un j2, sp_un j1]
  have e4 : sp_joinN N a b (50 + 7 * a + 4) = N (50 + 7 * a + 4) + N (50 + 7 * b + 4) := by rw [sp_joinN, sp_un (by omega), sp_un (by omega), sp_us]
  have e12 : sp_joinN N a b 12 = nI c := (hx 12 (by omega) (by omega) (by omega) (by omega)).trans hc
  have g12 := sp_gone_n (N := sp_joinN N a b) (cnt := 12) (base := 50) (p := b) e12 (by omega)
  have two := sp_sg_two (g := sy_t N f) (fun i hi => sy_tge (h1 i hi)) ha hb hne
  rw [sy_t1 ea, sy_t1 eb] at two
  obtain ⟨s1, s2, s3, s4, s5, s6⟩ := h2 f hf
  have two' : (N (50 + 7 * a + 4)).toInt + (N (50 + 7 * b + 4)).toInt ≤ sy N f c := two
  have na := h1 a ha
  have nb := h1 b hb
  have hadd : (N (50 + 7 * a + 4) + N (50 + 7 * b + 4)).toInt = (N (50 + 7 * a + 4)).toInt + (N (50 + 7 * b + 4)).toInt := rk_add_t (by omega) (by omega)
  have hsy : ∀ g, g < 3 → sy (sp_joinN N a b) g c = sy N g c + sy_t N g b := fun g hg => by
    unfold sy
    rw [sp_sg_up (g := sy_t N g) (h := sy_t (sp_joinN N a b) g) ha (fun i hi hne2 => sy_tc (hx _ (by omega) (by omega) (by omega) (by omega)) (hx _ (by omega) (by omega) (by omega) (by omega)))]
    have ea' : sp_joinN N a b (50 + 7 * a + 0) = nI f := (hx _ (by omega) (by omega) (by omega) (by omega)).trans ea
    by_cases hgf : g = f
    · subst hgf
      rw [sy_t1 ea, sy_t1 eb, sy_t1 ea', e4, hadd]; omega
    · have n1 : ∀ v : Int32, v = nI f → ¬ v = nI g := fun v hv z => hgf ((nI_eq (by omega) (by omega)).mp (z.symm.trans hv))
      rw [sy_t0 (n1 _ ea), sy_t0 (n1 _ eb), sy_t0 (n1 _ ea')]; omega
  have hgn := fun g => sy_gone (M := sp_joinN N a b) (f := g) (c := c) (p := b) e12 hc2 hb
  have tb : ∀ g, sy_t (sp_joinN N a b) g b = sy_t N g b := fun g => sy_tc (hx _ (by omega) (by omega) (by omega) (by omega)) (hx _ (by omega) (by omega) (by omega) (by omega))
  have gx : ∀ j, j ≠ 12 → j < 50 → sp_gone (sp_joinN N a b) 12 50 b j = N j := fun j j1 j2 => (sp_gone_x e12 (by omega) j1 (by omega)).trans (hx j (by omega) (by omega) (by omega) (by omega))
  unfold si
  rw [sp_cN g12 (by omega)]
  refine ⟨fun i hi => ?_, fun g hg => ?_⟩
  · rw [sp_gone_p (N := sp_joinN N a b) (cnt := 12) (base := 50) (p := b) (k := 4) e12 (by omega) (by decide) hi (by decide)]
    have hlt : (if i < b then i else i + 1) < c := by split <;> omega
    by_cases hia : (if i < b then i else i + 1) = a
    · rw [hia, e4, hadd]; omega
    · rw [hx _ (by omega) (by omega) (by omega) (by omega)]; exact h1 _ hlt
  · have e1 := hgn g; have e2 := hsy g hg; have e3 := tb g
    rw [gx _ (by omega) (by omega), gx _ (by omega) (by omega), gx _ (by omega) (by omega), gx _ (by omega) (by omega), gx _ (by omega) (by omega)]
    obtain ⟨t1, t2, t3, t4, t5, t6⟩ := h2 g hg
    exact ⟨t1, t2, t3, t4, t5, by omega⟩
theorem si_spin {c f : Nat} {ft : Int32} (h : si U N) (hU : U ≤ 2000000000) (hc : N 12 = nI c) (hc2 : c ≤ 24) (hf : f < 3) (h1 : 1 ≤ ft.toInt) (h3 : ft.toInt ≤ 3000000) : si (U + ft.toInt) (sp_u (sp_u N (20 + 3 * f + 2) (N (20 + 3 * f + 2) + ft)) (30 + 4 * f) (N (30 + 4 * f) + ft)) := by
  have ec : sp_c N 12 = c := sp_cN hc (by omega)
  obtain ⟨n1, h2⟩ := h
  rw [ec] at n1 h2
  have e12 : sp_c (sp_u (sp_u N (20 + 3 * f + 2) (N (20 + 3 * f + 2) + ft)) (30 + 4 * f) (N (30 + 4 * f) + ft)) 12 = c := sp_cN (by rw [sp_un (by omega), sp_un (by omega)]; exact hc) (by omega)
  have hs : ∀ g, sy (sp_u (sp_u N (20 + 3 * f + 2) (N (20 + 3 * f + 2) + ft)) (30 + 4 * f) (N (30 + 4 * f) + ft)) g c = sy N g c := fun g => sp_sg_c (fun i hi => sy_tc (by rw [sp_un (by omega), sp_un (by omega)]) (by rw [sp_un (by omega), sp_un (by omega)]))
  unfold si
  rw [e12]
  refine ⟨fun i hi => by rw [sp_un (by omega), sp_un (by omega)]; exact n1 i hi, fun g hg => ?_⟩
  rw [hs]
  obtain ⟨s1, s2, s3, s4, s5, s6⟩ := h2 g hg
  have hsy : 0 ≤ sy N g c := sy_ge n1
  rw [sp_un (j := 30 + 4 * g + 1) (by omega), sp_un (j := 30 + 4 * g + 1) (by omega), sp_un (j := 30 + 4 * g + 2) (by omega), sp_un (j := 30 + 4 * g + 2) (by omega), sp_un (j := 30 + 4 * g + 3) (by omega), sp_un (j := 30 + 4 * g + 3) (by omega)]
  by_cases hgf : g = f
  · subst hgf
    rw [show 30 + 4 * g + 0 = 30 + 4 * g from rfl] at s5 s6 ⊢
    have a1 : (N (20 + 3 * g + 2) + ft).toInt = (N (20 + 3 * g + 2)).toInt + ft.toInt := rk_add_t (by omega) (by omega)
    have a2 : (N (30 + 4 * g) + ft).toInt = (N (30 + 4 * g)).toInt + ft.toInt := rk_add_t (by omega) (by omega)
    rw [sp_us, sp_un (by omega), sp_us, a1, a2]
    exact ⟨by omega, s2, s3, s4, by omega, by omega⟩
  · rw [sp_un (j := 20 + 3 * g + 2) (by omega), sp_un (j := 20 + 3 * g + 2) (by omega), sp_un (j := 30 + 4 * g + 0) (by omega), sp_un (j := 30 + 4 * g + 0) (by omega)]
    exact ⟨s1, s2, s3, s4, by omega, s6⟩
/-- one rope cut for an order -/
theorem si_step {c o i f : Nat} (h : si U N) (hU : U ≤ 2000000000) (hc : N 12 = nI c) (hc2 : c ≤ 24) (hi : i < c) (ho : o < 16) (hf : f < 3) (h0 : N (50 + 7 * i) = nI f) (hg0 : N (220 + 7 * o) = nI f) (hL : 0 < (N (50 + 7 * i + 3)).toInt) (hf0 : 0 ≤ (N (220 + 7 * o + 2)).toInt) (hfl : (N (220 + 7 * o + 2)).toInt ≤ (N (50 + 7 * i + 3)).toInt) : si U (sp_step N o i) := by
  have hs := si_cut (feet := N (220 + 7 * o + 2)) (k := 1) h hU hc hc2 hi hf h0 hL hf0 hfl (Or.inl rfl)
  have eo : sp_c N (220 + 7 * o) = f := sp_cN hg0 (by omega)
  have h12 : ∃ c', c' ≤ 24 ∧ sp_u (sp_cut N i (N (220 + 7 * o + 2))) (30 + 4 * f + 1) (N (30 + 4 * f + 1) + sp_yin (N (50 + 7 * i + 4)) (N (220 + 7 * o + 2)) (N (50 + 7 * i + 3))) 12 = nI c' := by
    rw [sp_un (by omega)]
    have c1 : sp_cut1 N i (N (220 + 7 * o + 2)) 12 = nI c := (sp_cut1_x (by omega) (by omega)).trans hc
    have ef : sp_c N (50 + 7 * i) = f := sp_cN h0 (by omega)
    have c2 : sp_cut2 N i (N (220 + 7 * o + 2)) 12 = nI c := by rw [sp_cut2, sp_un (by omega)]; exact c1
    unfold sp_cut
    split
    · exact ⟨c - 1, by omega, sp_gone_n c1 (by omega)⟩
    · split
      · exact ⟨c - 1, by omega, sp_gone_n c2 (by omega)⟩
      · exact ⟨c, hc2, c1⟩
  obtain ⟨c', hc', e12⟩ := h12
  refine hs.cg e12 hc' ?_ (fun j hj => ?_) (fun p hp => ⟨?_, ?_⟩)
  · simp only [sp_step, eo]; rw [sp_un (by omega), sp_un (by omega), sp_un (by omega)]
  · simp only [sp_step, eo]; rw [sp_un (by omega), sp_un (by omega), sp_un (by omega)]
  · simp only [sp_step, eo]; rw [sp_un (by omega), sp_un (by omega), sp_un (by omega)]
  · simp only [sp_step, eo]; rw [sp_un (by omega), sp_un (by omega), sp_un (by omega)]
end PB
