section DC
variable {N M : Nat → Int32} {T : Int}
/-- the store and the pieces' own numbers are in their bounds -/
def sp_jv (N : Nat → Int32) : Prop := (∀ f, f < 3 → ∃ k, k ≤ 9000000 ∧ N (20 + 3 * f + 2) = nI k) ∧ ∀ p, p < sp_c N 12 → (∃ a, a ≤ 4 ∧ N (50 + 7 * p + 1) = nI a) ∧ (∃ b, b ≤ 40 ∧ N (50 + 7 * p + 2) = nI b) ∧ ∃ q, q ≤ 100 ∧ N (50 + 7 * p + 5) = nI q
/-- an act that succeeds answers no error, and leaves the bounds -/
def sp_ok (a : sp_R) : Prop := (a.2 = none → a.1 < 0) ∧ ∀ M, a.2 = some M → 0 ≤ a.1 ∧ sp_jv M
theorem sp_ok0 {a : sp_R} {x : Int32} (h : a = (x, none)) (hx : x < 0) : sp_ok a := by
  subst h
  exact ⟨(fun _ => hx), (fun _ z => by cases z)⟩
theorem sp_ok1 {a : sp_R} {x : Int32} (h : a = (x, some M)) (hx : 0 ≤ x) (hj : sp_jv M) : sp_ok a := by
  subst h
  exact ⟨(fun z => by cases z), (fun _ z => by cases z; exact ⟨hx, hj⟩)⟩
theorem sp_jv_fr {c : Nat} (h : sp_jv N) (hc : N 12 = nI c) (hc2 : c ≤ 24) (e : ∀ j, j = 12 ∨ (20 ≤ j ∧ j < 29 ∧ (j - 20) % 3 = 2) ∨ (50 ≤ j ∧ j < 218 ∧ (j - 50) % 7 ≠ 3 ∧ (j - 50) % 7 ≠ 4) → M j = N j) : sp_jv M := by
  have e12 : sp_c M 12 = c := by rw [sp_c, e 12 (by omega)]; exact sp_cN hc (by omega)
  have ec : sp_c N 12 = c := sp_cN hc (by omega)
  refine ⟨fun f hf => by rw [e _ (by omega)]; exact h.1 f hf, fun p hp => ?_⟩
  rw [e12] at hp
  have g := h.2 p (by omega)
  rw [e _ (by omega), e _ (by omega), e _ (by omega)]
  exact g
theorem sp_jv_gone {c i : Nat} (h : sp_jv N) (hc : N 12 = nI c) (hc2 : c ≤ 24) (hi : i < c) : sp_jv (sp_gone N 12 50 i) := by
  have e12 : sp_c (sp_gone N 12 50 i) 12 = c - 1 := sp_cN (sp_gone_n hc (by omega)) (by omega)
  have ec : sp_c N 12 = c := sp_cN hc (by omega)
  refine ⟨fun f hf => by rw [sp_gone_x hc (by omega) (by omega) (by omega)]; exact h.1 f hf, fun p hp => ?_⟩
  rw [e12] at hp
  rw [sp_gone_p hc (by omega) (by decide) hp (by decide), sp_gone_p hc (by omega) (by decide) hp (by decide), sp_gone_p hc (by omega) (by decide) hp (by decide)]
  exact h.2 _ (by rw [ec]; split <;> omega)
theorem sp_jv_cut1 {c i : Nat} {feet : Int32} (h : sp_jv N) (hc : N 12 = nI c) (hc2 : c ≤ 24) (hi : i < c) : sp_jv (sp_cut1 N i feet) := sp_jv_fr h hc hc2 (fun j hj => by rw [sp_cut1, sp_un (by omega), sp_un (by omega)])
theorem sp_jv_cut {c i f : Nat} {feet : Int32} (h : sp_jv N) (hc : N 12 = nI c) (hc2 : c ≤ 24) (hi : i < c) (hf : f < 3) (h0 : N (50 + 7 * i) = nI f) : sp_jv (sp_cut N i feet) := by
  have h1 := sp_jv_cut1 (feet := feet) h hc hc2 hi
  have c1 : sp_cut1 N i feet 12 = nI c := by rw [sp_cut1, sp_un (by omega), sp_un (by omega)]; exact hc
  unfold sp_cut
  split
  · exact sp_jv_gone h1 c1 hc2 hi
  · split
    · refine sp_jv_gone (sp_jv_fr h1 c1 hc2 (fun j hj => ?_)) ?_ hc2 hi
      · rw [sp_cut2, sp_cN h0 (by omega), sp_un (by omega)]
      · rw [sp_cut2, sp_cN h0 (by omega), sp_un (by omega)]; exact c1
    · exact h1
theorem sp_jv_cf {o : Nat} (ho : o < 16) : ∀ (n c : Nat) (N : Nat → Int32), n < 2 ^ 20 → sp_pv T N c → sp_ov N o → N (220 + 7 * o + 3) = nI n → sp_jv N → sp_jv (sp_cf o n N).1 := by
  intro n
  induction n with
  | zero => intro c N _ _ _ _ h; exact h
  | succ n ih =>
    intro c N hn hv hov hw h
    rcases sp_bq_in (o := o) hv with hb | ⟨i, hi, hb, hsu⟩
    · rw [sp_cf0 (by rw [hb]; exact rk_n6)]; exact h
    · obtain ⟨⟨g, hg, hg0⟩, hfe⟩ := hov
      have hc24 := hv.1
      obtain ⟨f, hf, hf0⟩ := hv.2.2.1 i hi
      have hfg : f = g := by
        have e1 : N (50 + 7 * i + 0) = N (220 + 7 * o + 0) := hsu.1
        rw [hf0, hg0] at e1
        exact (nI_eq (by omega) (by omega)).mp e1
      subst hfg
      have hsc : sp_c N (220 + 7 * o) = f := sp_cN hg0 (by omega)
      have hfeet : (N (220 + 7 * o + 2)).toInt ≤ (N (50 + 7 * i + 3)).toInt := Int32.le_iff_toInt_le.mp hsu.2.1
      obtain ⟨c', hc', hv'⟩ := sp_pv_step hv ho hi hfe hfeet (by rw [hsc]; exact hf)
      have hsx : ∀ j, 220 ≤ j → j ≠ 220 + 7 * o + 3 → sp_step N o i j = N j := fun j j1 j2 => sp_step_x hv.2.1 hc24 hi hf hf0 hf hg0 rfl (by omega) (by omega) (by omega) (by omega) j2 (by omega) (by omega)
      have hstep : sp_jv (sp_step N o i) := by
        have hq := sp_jv_cut (feet := N (220 + 7 * o + 2)) h hv.2.1 hc24 hi hf hf0
        have hcc : sp_cut N i (N (220 + 7 * o + 2)) 12 = nI c' := by
          have e := hv'.2.1
          simp only [sp_step] at e
          rw [sp_un (by omega), sp_un (by omega), sp_un (by omega), sp_un (by omega)] at e
          exact e
        refine sp_jv_fr hq hcc (by omega) (fun j hj => ?_)
        simp only [sp_step, hsc]
        rw [sp_un (by omega), sp_un (by omega), sp_un (by omega), sp_un (by omega)]
      rw [sp_cf1 hb (by omega)]
      exact ih c' (sp_step N o i) (by omega) hv' ⟨⟨f, hf, by rw [hsx _ (by omega) (by omega)]; exact hg0⟩, by rw [hsx _ (by omega) (by omega)]; exact hfe⟩ (by simp only [sp_step, hsc]; rw [sp_un (by omega), sp_un (by omega), sp_us, hw, nI_pred]) hstep
theorem sp_ok_set (hv : sp_iv T N) (hj : sp_jv N) (s v : Int32) : sp_ok (sp_set N s v) := by
  obtain ⟨c, hc2, hc⟩ := hv.c12
  unfold sp_set
  split
  · next h =>
    obtain ⟨j, hj9, rfl⟩ := rk_in_n (n := 9) rfl (by decide) h.1
    rw [nI_clamp (by omega)]
    refine sp_ok1 rfl (Int32.le_trans ?_ (hv.2.2.2.1 j (by omega)).1) (sp_jv_fr hj hc hc2 (fun i hi => sp_un (by omega)))
    unfold sp_lst
    repeat' split
    all_goals decide
  · exact sp_ok0 rfl (by decide)
theorem sp_ok_fibre (hv : sp_iv T N) (hj : sp_jv N) (f st tw : Int32) : sp_ok (sp_fibre N f st tw) := by
  obtain ⟨c, hc2, hc⟩ := hv.c12
  unfold sp_fibre
  split
  · next h =>
    obtain ⟨j, hj9, rfl⟩ := rk_in_n (n := 2) rfl (by decide) h
    rw [nI_clamp (by omega)]
    split
    · obtain ⟨g1, g2, g3⟩ := hv.2.2.2.2 j (by omega)
      obtain ⟨a, ha, ea⟩ := rk_nat (m := 200) (by decide) (Int32.le_trans (show (0 : Int32) ≤ 1 by decide) g1.1) g1.2
      obtain ⟨b, hb, eb⟩ := rk_nat (m := 60) (by decide) (Int32.le_trans (show (0 : Int32) ≤ 10 by decide) g2) g3
      refine sp_ok1 rfl ?_ (sp_jv_fr hj hc hc2 (fun i hi => by rw [sp_un (by omega), sp_un (by omega)]))
      rw [ea, eb, rk_lit 100, pk_mul, nI_add]
      exact nI_pos' (by omega)
    · exact sp_ok0 rfl (by decide)
  · exact sp_ok0 rfl (by decide)
theorem sp_ok_spin (hv : sp_iv T N) (hj : sp_jv N) (f ft : Int32) : sp_ok (sp_spin N f ft) := by
  obtain ⟨c, hc2, hc⟩ := hv.c12
  unfold sp_spin
  split
  · next h =>
    obtain ⟨j, hj9, rfl⟩ := rk_in_n (n := 2) rfl (by decide) h
    rw [nI_clamp (by omega)]
    split
    · next h2 =>
      obtain ⟨b, hb, rfl⟩ := rk_nat (m := 3000000) (by decide) (Int32.le_trans (show (0 : Int32) ≤ 1 by decide) h2.1) h2.2
      obtain ⟨k, hk, ek⟩ := hj.1 j (by omega)
      rw [ek, nI_add]
      split
      · next h3 =>
        have hle : k + b ≤ 9000000 := (nI_leI (b := 9000000) (by omega) (by decide)).mp h3
        refine sp_ok1 rfl (nI_pos' (by omega)) ⟨fun g hg => ?_, fun p hp => ?_⟩
        · by_cases hgj : g = j
          · subst hgj
            exact ⟨k + b, hle, by rw [sp_un (by omega), sp_us]⟩
          · rw [sp_un (by omega), sp_un (by omega)]; exact hj.1 g hg
        · have e12 : sp_c (sp_u (sp_u N (20 + 3 * j + 2) (nI (k + b))) (30 + 4 * j) (N (30 + 4 * j) + nI b)) 12 = c := by rw [sp_c, sp_un (by omega), sp_un (by omega)]; exact sp_cN hc (by omega)
          rw [e12] at hp
          rw [sp_un (by omega), sp_un (by omega), sp_un (by omega), sp_un (by omega), sp_un (by omega), sp_un (by omega)]
          exact hj.2 p (by rw [sp_cN hc (by omega)]; exact hp)
      · exact sp_ok0 rfl (by decide)
    · exact sp_ok0 rfl (by decide)
  · exact sp_ok0 rfl (by decide)
theorem sp_ok_pass (hv : sp_iv T N) (hj : sp_jv N) (d : Int32) : sp_ok (sp_pass N d) := by
  obtain ⟨c, hc2, hc⟩ := hv.c12
  unfold sp_pass
  split
  · next h =>
    obtain ⟨b, hb, rfl⟩ := rk_nat (m := 60) (by decide) (Int32.le_trans (show (0 : Int32) ≤ 1 by decide) h.1) h.2
    obtain ⟨t, ht, et⟩ := hv.2.2.1
    split
    · refine sp_ok1 rfl ?_ (sp_jv_fr hj hc hc2 (fun i hi => by rw [sp_un (by omega), sp_un (by omega), sp_un (by omega)]))
      rw [et, nI_add]; exact nI_pos' (by omega)
    · exact sp_ok0 rfl (by decide)
  · exact sp_ok0 rfl (by decide)
theorem sp_ok_drop (hv : sp_iv T N) (hj : sp_jv N) (x : Int32) : sp_ok (sp_drop N x) := by
  obtain ⟨c, hc2, hc⟩ := hv.c12
  obtain ⟨oc, ho2, ho, ho3⟩ := hv.2.1
  unfold sp_drop
  split
  · next h =>
    obtain ⟨i, hi, rfl⟩ := sp_isor_n h ho ho2
    rw [nI_clamp (by omega)]
    obtain ⟨-, ⟨n, hn1, hn2, hn3⟩, -⟩ := ho3 i hi
    obtain ⟨a, ha, ea⟩ := rk_nat (m := 500) (by decide) (hv.2.2.2.1 9 (by decide)).1 (hv.2.2.2.1 9 (by decide)).2
    have hm : a * n ≤ 500 * 20 := Nat.mul_le_mul ha hn2
    have k13 : sp_u N 16 (N 16 + N 9 * N (220 + 7 * i + 3)) 13 = nI oc := by rw [sp_un (by decide)]; exact ho
    refine sp_ok1 rfl ?_ (sp_jv_fr hj hc hc2 (fun j hj => by rw [sp_gone_x k13 (by omega) (by omega) (by omega), sp_un (by omega)]))
    rw [ea, hn3, pk_mul]; exact nI_pos' (by omega)
  · exact sp_ok0 rfl (by decide)
theorem sp_ok_order (hv : sp_iv T N) (hj : sp_jv N) (f st ft mn tr pr : Int32) : sp_ok (sp_order N f st ft mn tr pr) := by
  obtain ⟨c, hc2, hc⟩ := hv.c12
  obtain ⟨b, hb2, hb⟩ := hv.c13
  unfold sp_order
  split
  · next h =>
    split
    · split
      · exact sp_ok0 rfl (by decide)
      · refine sp_ok1 rfl ?_ (sp_jv_fr hj hc hc2 (fun j hj => ?_))
        · rw [hb, nI_1, nI_pred]; exact nI_pos' (by omega)
        · rw [sp_cN hb (by omega)]; exact sp_ord_x (by omega) (by omega)
    · exact sp_ok0 rfl (by decide)
  · exact sp_ok0 rfl (by decide)
theorem sp_st_pos {p f : Nat} (hv : sp_iv T N) (hj : sp_jv N) (hp : p < sp_c N 12) (hf : f < 3) (h0 : N (50 + 7 * p + 0) = nI f) : 0 ≤ sp_st N (sp_P N p) := by
  obtain ⟨⟨a, ha, ea⟩, ⟨b, hb, eb⟩, q, hq, eq⟩ := hj.2 p hp
  obtain ⟨g1, -, -⟩ := hv.2.2.2.2 f hf
  obtain ⟨s, hs, es⟩ := rk_nat (m := 200) (by decide) (Int32.le_trans (show (0 : Int32) ≤ 1 by decide) g1.1) g1.2
  obtain ⟨x, hx, ex⟩ := rk_nat (m := 60) (by decide) (hv.2.2.2.1 3 (by decide)).1 (hv.2.2.2.1 3 (by decide)).2
  have m1 : a * b ≤ 4 * 40 := Nat.mul_le_mul ha hb
  have m2 : a * b * s ≤ 4 * 40 * 200 := Nat.mul_le_mul m1 hs
  have m3 : a * b * s * q ≤ 4 * 40 * 200 * 100 := Nat.mul_le_mul m2 hq
  have e1 : N (50 + 7 * p + 1) * N (50 + 7 * p + 2) * N (20 + 3 * (N (50 + 7 * p + 0)).toNatClampNeg) * N (50 + 7 * p + 5) / 100 = nI (a * b * s * q / 100) := by
    rw [h0, nI_clamp (by omega), ea, eb, es, eq, pk_mul, pk_mul, pk_mul, rk_lit 100, pk_div (by omega) (by decide) (by decide)]
  generalize hz : a * b * s * q / 100 = z at e1
  have hz2 : z ≤ 32000 := by omega
  show 0 ≤ if N (50 + 7 * p + 6) = 0 then N (50 + 7 * p + 1) * N (50 + 7 * p + 2) * N (20 + 3 * (N (50 + 7 * p + 0)).toNatClampNeg) * N (50 + 7 * p + 5) / 100 else N (50 + 7 * p + 1) * N (50 + 7 * p + 2) * N (20 + 3 * (N (50 + 7 * p + 0)).toNatClampNeg) * N (50 + 7 * p + 5) / 100 * (100 - N 3) / 100
  rw [e1, ex]
  split
  · exact nI_pos' (by omega)
  · have m4 : z * (100 - x) ≤ 32000 * 100 := Nat.mul_le_mul hz2 (by omega)
    rw [rk_lit 100, pk_sub (by omega), pk_mul, pk_div (by omega) (by decide) (by decide)]
    have : z * (100 - x) / 100 ≤ z * (100 - x) := Nat.div_le_self _ _
    exact nI_pos' (by omega)
theorem sp_ok_test (hv : sp_iv T N) (hj : sp_jv N) (x : Int32) : sp_ok (sp_test N x) := by
  obtain ⟨c, hpv⟩ := hv.1
  unfold sp_test
  split
  · next h =>
    obtain ⟨i, hi, rfl⟩ := sp_ispc_n h hpv.2.1 hpv.1
    have := hpv.1
    rw [nI_clamp (by omega)]
    obtain ⟨f, hf, hf0⟩ := hpv.2.2.1 i hi
    split
    · next hle =>
      refine sp_ok1 rfl (sp_st_pos hv hj (by rw [sp_cN hpv.2.1 (by omega)]; exact hi) hf hf0) ?_
      obtain ⟨c', hc', hv'⟩ := sp_pv_cut (feet := N 5) hpv hi (by
        have := Int32.le_iff_toInt_le.mp (hv.2.2.2.1 5 (by decide)).1
        have e : (sp_lst 5).toInt = 1 := by decide
        omega) (Int32.le_iff_toInt_le.mp hle)
      refine sp_jv_fr (sp_jv_cut (feet := N 5) hj hpv.2.1 hpv.1 hi hf hf0) hv'.2.1 (by omega) (fun j hj => ?_)
      rw [sp_testN, sp_cN hf0 (by omega), sp_un (by omega)]
    · exact sp_ok0 rfl (by decide)
  · exact sp_ok0 rfl (by decide)
theorem sp_ok_fill (hv : sp_iv T N) (hj : sp_jv N) (x : Int32) : sp_ok (sp_fill N x) := by
  obtain ⟨c, hpv⟩ := hv.1
  obtain ⟨oc, ho2, ho, ho3⟩ := hv.2.1
  unfold sp_fill
  split
  · next h =>
    obtain ⟨i, hi, rfl⟩ := sp_isor_n h ho ho2
    rw [nI_clamp (by omega)]
    split
    · exact sp_ok0 rfl (by decide)
    · obtain ⟨hov, ⟨n, hn1, hn2, hn3⟩, -⟩ := ho3 i hi
      rw [sp_cN hn3 (by omega)]
      obtain ⟨inv1, ⟨c', hc', inv2⟩, inv3, inv4⟩ := sp_cf_inv (o := i) (by omega) n c N (by omega) hpv hov hn3
      have hq := sp_jv_cf (o := i) (by omega) n c N (by omega) hpv hov hn3 hj
      refine sp_ok1 rfl (nI_pos' (by omega)) ?_
      unfold sp_fillN
      split
      · have k13 : (sp_cf i n N).1 13 = nI oc := (inv1 13 (by omega)).trans ho
        exact sp_jv_fr hq inv2.2.1 inv2.1 (fun j hj => sp_gone_x k13 (by omega) (by omega) (by omega))
      · exact hq
  · exact sp_ok0 rfl (by decide)
theorem sp_ok_join (hv : sp_iv T N) (hj : sp_jv N) (x y : Int32) : sp_ok (sp_join N x y) := by
  obtain ⟨c, hpv⟩ := hv.1
  have hc := hpv.2.1
  have hc2 := hpv.1
  have go : ∀ a b, a < c → b < c → a ≠ b → sp_jv (sp_gone (sp_joinN N a b) 12 50 b) := by
    intro a b ha hb hab
    have k12 : sp_joinN N a b 12 = nI c := by rw [sp_joinN, sp_un (by omega), sp_un (by omega), sp_un (by omega), sp_un (by omega)]; exact hc
    refine sp_jv_gone ⟨fun f hf => ?_, fun p hp => ?_⟩ k12 hc2 hb
    · rw [sp_joinN, sp_un (by omega), sp_un (by omega), sp_un (by omega), sp_un (by omega)]; exact hj.1 f hf
    · rw [sp_cN k12 (by omega)] at hp
      have hN := fun p (hp : p < c) => hj.2 p (by rw [sp_cN hc (by omega)]; exact hp)
      have e : ∀ j, j ≠ 50 + 7 * a + 3 → j ≠ 50 + 7 * a + 4 → j ≠ 50 + 7 * a + 5 → j ≠ 50 + 7 * a + 6 → sp_joinN N a b j = N j := fun j j3 j4 j5 j6 => by rw [sp_joinN, sp_un j6, sp_un j5, sp_un j4, sp_un j3]
      rw [e (50 + 7 * p + 1) (by omega) (by omega) (by omega) (by omega), e (50 + 7 * p + 2) (by omega) (by omega) (by omega) (by omega)]
      refine ⟨(hN p hp).1, (hN p hp).2.1, ?_⟩
      by_cases hpa : p = a
      · subst hpa
        have e5 : sp_joinN N p b (50 + 7 * p + 5) = if N (50 + 7 * b + 5) < N (50 + 7 * p + 5) then N (50 + 7 * b + 5) else N (50 + 7 * p + 5) := by rw [sp_joinN, sp_un (by omega), sp_us]
        rw [e5]
        split
        · exact (hN b hb).2.2
        · exact (hN p hp).2.2
      · rw [e (50 + 7 * p + 5) (by omega) (by omega) (by omega) (by omega)]; exact (hN p hp).2.2
  unfold sp_join
  split
  · next h =>
    obtain ⟨i, hi, rfl⟩ := sp_ispc_n h.1 hc hc2
    obtain ⟨j, hjc, rfl⟩ := sp_ispc_n h.2.1 hc hc2
    have hij : i ≠ j := fun z => h.2.2 (by rw [z])
    rw [nI_clamp (by omega), nI_clamp (by omega)]
    split
    · split
      · exact sp_ok1 rfl (nI_pos' (by omega)) (go i j hi hjc hij)
      · exact sp_ok1 rfl (nI_pos' (by omega)) (go j i hjc hi (fun z => hij z.symm))
    · exact sp_ok0 rfl (by decide)
  · exact sp_ok0 rfl (by decide)
theorem sp_yarn_n {ft : Nat} (hv : sp_rl N) (hf : ft ≤ 2000) : ∃ k, k ≤ 4480 ∧ sp_yarn N (nI ft) = nI k := by
  obtain ⟨b, hb, e2⟩ := rk_nat (m := 40) (by decide) (hv.1 2 (by decide)).1 (hv.1 2 (by decide)).2
  obtain ⟨v, hv1, e1⟩ := rk_nat (m := 60) (by decide) (Int32.le_trans (show (0 : Int32) ≤ 10 by decide) (hv.1 1 (by decide)).1) (hv.1 1 (by decide)).2
  have hm : ft * (100 + b) ≤ 2000 * 140 := Nat.mul_le_mul hf (by omega)
  have est : sp_strand N (nI ft) = nI ((ft * (100 + b) + 100 - 1) / 100) := by
    unfold sp_strand
    rw [e2, rk_lit 100, nI_add, pk_mul]
    exact sp_up_n (by decide) (by omega)
  generalize hx : (ft * (100 + b) + 100 - 1) / 100 = x at est
  have hx2 : x ≤ 2800 := by omega
  have hm2 : x * (100 + v) ≤ 2800 * 160 := Nat.mul_le_mul hx2 (by omega)
  refine ⟨(x * (100 + v) + 100 - 1) / 100, by omega, ?_⟩
  unfold sp_yarn
  rw [est, e1, rk_lit 100, nI_add, pk_mul]
  exact sp_up_n (by decide) (by omega)
theorem sp_qual_n {f : Nat} (hv : sp_rl N) (hf : f < 3) : ∃ q, q ≤ 100 ∧ sp_qual N f = nI q := by
  obtain ⟨v, hv1, e1⟩ := rk_nat (m := 60) (by decide) (Int32.le_trans (show (0 : Int32) ≤ 10 by decide) (hv.1 1 (by decide)).1) (hv.1 1 (by decide)).2
  obtain ⟨-, g2, g3⟩ := hv.2 f hf
  obtain ⟨b, hb, eb⟩ := rk_nat (m := 60) (by decide) (Int32.le_trans (show (0 : Int32) ≤ 10 by decide) g2) g3
  unfold sp_qual
  rw [e1, eb]
  revert v b
  have key : ∀ v : Nat, v ≤ 60 → ∀ b : Nat, b ≤ 60 → (if 100 - 2 * (if nI v - nI b < 0 then -(nI v - nI b) else nI v - nI b) < 40 then (40 : Int32) else 100 - 2 * (if nI v - nI b < 0 then -(nI v - nI b) else nI v - nI b)).toNatClampNeg ≤ 100 ∧ (if 100 - 2 * (if nI v - nI b < 0 then -(nI v - nI b) else nI v - nI b) < 40 then (40 : Int32) else 100 - 2 * (if nI v - nI b < 0 then -(nI v - nI b) else nI v - nI b)) = nI (if 100 - 2 * (if nI v - nI b < 0 then -(nI v - nI b) else nI v - nI b) < 40 then (40 : Int32) else 100 - 2 * (if nI v - nI b < 0 then -(nI v - nI b) else nI v - nI b)).toNatClampNeg := by decide +kernel
  intro v hv1 e1 b hb eb
  exact ⟨_, (key v hv1 b hb).1, (key v hv1 b hb).2⟩
theorem sp_ok_lay (hv : sp_iv T N) (hj : sp_jv N) (f s b ft : Int32) : sp_ok (sp_lay N f s b ft) := by
  obtain ⟨c, hpv⟩ := hv.1
  have hc := hpv.2.1
  have hc2 := hpv.1
  unfold sp_lay
  split
  · next h =>
    obtain ⟨j, hj9, rfl⟩ := rk_in_n (n := 2) rfl (by decide) h
    rw [nI_clamp (by omega), sp_cN hc (by omega)]
    split
    · next h2 =>
      split
      · exact sp_ok0 rfl (by decide)
      · next h24 =>
        have hc24 : c < 24 := Nat.lt_of_le_of_ne hc2 (fun z => h24 (by rw [hc, z]; rfl))
        split
        · next hcan =>
          obtain ⟨s', hs', rfl⟩ := rk_nat (m := 4) (by decide) (Int32.le_trans (show (0 : Int32) ≤ 3 by decide) h2.1.1.1) h2.1.1.2
          obtain ⟨b', hb', rfl⟩ := rk_nat (m := 40) (by decide) (Int32.le_trans (show (0 : Int32) ≤ 1 by decide) h2.1.2.1) h2.1.2.2
          obtain ⟨f', hf', rfl⟩ := rk_nat (m := 2000) (by decide) (Int32.le_trans (show (0 : Int32) ≤ 1 by decide) h2.2.1) h2.2.2
          obtain ⟨k, hk, ek⟩ := sp_yarn_n hv.2.2.2 hf'
          obtain ⟨q, hq, eq⟩ := sp_qual_n hv.2.2.2 (show j < 3 by omega)
          obtain ⟨st, hst, est⟩ := hj.1 j (by omega)
          have m1 : s' * b' ≤ 4 * 40 := Nat.mul_le_mul hs' hb'
          have m2 : s' * b' * k ≤ 4 * 40 * 4480 := Nat.mul_le_mul m1 hk
          have hy := hcan.2.1
          rw [ek, pk_mul, pk_mul, est] at hy
          have hle := (nI_leI (by omega) (by omega)).mp hy
          refine sp_ok1 rfl ?_ ⟨fun g hg => ?_, fun p hp => ?_⟩
          · rw [hc, nI_1, nI_pred]; exact nI_pos' (by omega)
          · by_cases hgj : g = j
            · subst hgj
              refine ⟨st - s' * b' * k, by omega, ?_⟩
              rw [sp_layN, sp_un (by omega), sp_un (by omega), sp_un (by omega), sp_un (by omega), sp_un (by omega), sp_un (by omega), sp_un (by omega), sp_un (by omega), sp_un (by omega), sp_us, est, ek, pk_mul, pk_mul, pk_sub hle]
            · rw [sp_lay_x (by omega) (by omega) (by omega) (by omega)]; exact hj.1 g hg
          · have e12 : sp_c (sp_layN N j c (nI s') (nI b') (nI f')) 12 = c + 1 := by
              refine sp_cN ?_ (by omega)
              rw [sp_lay_12, hc, nI_1]
            rw [e12] at hp
            by_cases hpc : p = c
            · subst hpc
              rw [sp_lay_p (by decide), sp_lay_p (by decide), sp_lay_p (by decide)]
              exact ⟨⟨s', hs', rfl⟩, ⟨b', hb', rfl⟩, q, hq, eq⟩
            · rw [sp_lay_x (by omega) (by omega) (by omega) (by omega), sp_lay_x (by omega) (by omega) (by omega) (by omega), sp_lay_x (by omega) (by omega) (by omega) (by omega)]
              exact hj.2 p (by rw [sp_cN hc (by omega)]; omega)
        · exact sp_ok0 rfl (by decide)
    · exact sp_ok0 rfl (by decide)
  · exact sp_ok0 rfl (by decide)
end DC

