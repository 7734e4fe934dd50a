section DA
variable {w : rk_W} {l : Launch} {Sh : rk_Sh} {rg : Nat → Nat} {N : Nat → Int32} {T : Int}
/-- the tree of sets: o is the next order, n are left, s the set, v its sum, Q the row then, b the best so far -/
noncomputable def sp_ch : Nat → Nat → Nat → Int32 → (Nat → Int32) → Nat × Int32 → Nat × Int32
  | 0, _, s, v, _, b => sp_cmp (s, v) b
  | n + 1, o, s, v, Q, b => @ite _ (0 < (sp_cf o (sp_c Q (220 + 7 * o + 3)) Q).2) (Classical.propDecidable _) (sp_ch n (o + 1) (s ||| 2 ^ o) (v + nI (sp_cf o (sp_c Q (220 + 7 * o + 3)) Q).2 * Q (220 + 7 * o + 6)) (sp_cf o (sp_c Q (220 + 7 * o + 3)) Q).1 (sp_ch n (o + 1) s v Q b)) (sp_ch n (o + 1) s v Q b)
theorem sp_cmp_lt {x y : Nat × Int32} (h1 : x.1 < 1024) (h2 : y.1 < 1024) : (sp_cmp x y).1 < 1024 := by
  unfold sp_cmp; split <;> assumption
theorem rk_p10 {s o : Nat} (h : s < 2 ^ o) (ho : o ≤ 10) : s < 1024 := Nat.lt_of_lt_of_le h (show 2 ^ o ≤ 2 ^ 10 from Nat.pow_le_pow_right (by decide) ho)
theorem sp_or_lt {s o n : Nat} (hs : s < 2 ^ o) (ho : o < n) (hn : n ≤ 10) : s ||| 2 ^ o < 2 ^ (o + 1) ∧ s ||| 2 ^ o < 1024 := by
  have h1 : s ||| 2 ^ o < 2 ^ (o + 1) := Nat.or_lt_two_pow (Nat.lt_trans hs (Nat.pow_lt_pow_right (by decide) (by omega))) (Nat.pow_lt_pow_right (by decide) (by omega))
  exact ⟨h1, rk_p10 h1 (by omega)⟩
theorem sp_ch_lt : ∀ (n o s : Nat) (v : Int32) (Q : Nat → Int32) (b : Nat × Int32), o + n ≤ 10 → s < 2 ^ o → b.1 < 1024 → (sp_ch n o s v Q b).1 < 1024 := by
  intro n
  induction n with
  | zero =>
    intro o s v Q b ho hs hb
    exact sp_cmp_lt (rk_p10 hs (by omega)) hb
  | succ n ih =>
    intro o s v Q b ho hs hb
    have hs2 : s < 2 ^ (o + 1) := Nat.lt_trans hs (Nat.pow_lt_pow_right (by decide) (by omega))
    have h1 := ih (o + 1) s v Q b (by omega) hs2 hb
    simp only [sp_ch]
    split
    · exact ih (o + 1) (s ||| 2 ^ o) _ _ _ (by omega) (sp_or_lt hs (n := 10) (by omega) (by decide)).1 h1
    · exact h1
theorem sp_pop_or : ∀ f o s, o < f → s < 2 ^ o → sp_pop f (s ||| 2 ^ o) = sp_pop f s + 1 := by
  intro f
  induction f with
  | zero => intro o s ho _; omega
  | succ f ih =>
    intro o s ho hs
    cases o with
    | zero =>
      have : s = 0 := by omega
      subst this
      show (0 ||| 1) % 2 + sp_pop f ((0 ||| 1) / 2) = (0 % 2 + sp_pop f (0 / 2)) + 1
      simp
      omega
    | succ o =>
      have e1 : (s ||| 2 ^ (o + 1)) / 2 = s / 2 ||| 2 ^ o := by
        apply Nat.eq_of_testBit_eq
        intro i
        rw [Nat.testBit_div_two, Nat.testBit_or, Nat.testBit_or, Nat.testBit_div_two, Nat.testBit_two_pow, Nat.testBit_two_pow]
        simp
      have e2 : (s ||| 2 ^ (o + 1)) % 2 = s % 2 := by
        have h := Nat.testBit_or s (2 ^ (o + 1)) 0
        rw [Nat.testBit_two_pow_of_ne (by omega), Bool.or_false] at h
        rw [Nat.testBit_zero, Nat.testBit_zero] at h
        have := decide_eq_decide.mp h
        omega
      have hlt : s / 2 < 2 ^ o := by rw [Nat.pow_succ] at hs; omega
      simp only [sp_pop]
      rw [e1, e2, ih o (s / 2) (by omega) hlt]
      omega
/-- the regions of the trial behind level L -/
def cl_tS (L : Nat) (z : Nat) : Prop := z = 84 ∨ ∃ i, L < i ∧ i < 11 ∧ z = 4 * (10 + i) + 2
theorem cl_tS.no {L z : Nat} (h : cl_tS L z) : 40 ≤ z ∧ z < 88 := by
  rcases h with h | ⟨i, h1, h2, h3⟩ <;> omega
theorem cl_tS.mo {L L' z : Nat} (h : cl_tS L' z) (hL : L ≤ L') : cl_tS L z := by
  rcases h with h | ⟨i, h1, h2, h3⟩
  · exact Or.inl h
  · exact Or.inr ⟨i, by omega, h2, h3⟩
theorem cl_tS.lev {L i : Nat} (h : cl_tS L (4 * (10 + i) + 2)) : L < i := by
  rcases h with h | ⟨j, h1, h2, h3⟩ <;> omega
theorem cX8_choose_s {y t tr c many : Nat} (hv : sp_iv T N) (ht : t < 10) (hc : N 13 = nI c) (hc2 : c ≤ 16) (hm : many = min c 10) : ∀ (n o s : Nat) (v : Int32) (Q : Nat → Int32) (I : rk_Mm) (R : rk_Rm) (b : Nat) (m : Int32), o + n = many → s < 2 ^ o → sp_pop 10 s ≤ o → cl_y rg I R y t N → cl_ts rg R tr → sp_ow T Q o n → (∀ j, (j < 12 ∨ j = 13 ∨ (16 ≤ j ∧ j < 29 ∧ (j - 20) % 3 ≠ 2) ∨ 220 + 7 * o ≤ j) → Q j = N j) → cl_st rg I R (R 23 (R 9 tr 0) (sp_pop 10 s)) (4 * (10 + sp_pop 10 s) + 2) Q → I 9 tr 1 = nI b → I 9 tr 2 = m → b < 1024 → rk_U w l rk_mX8_choose (7 + n) [rk_a 9 tr, rk_a 10 y, rk_i (nI o), rk_i (nI s), rk_i v] Sh I R (fun I' R' => cl_ts rg R' tr ∧ I' 9 tr 1 = nI (sp_ch n o s v Q (b, m)).1 ∧ I' 9 tr 2 = (sp_ch n o s v Q (b, m)).2 ∧ cl_fr rg (cl_tS (sp_pop 10 s)) I R I' R') := by
  intro n
  induction n with
  | zero =>
    intro o s v Q I R b m ho hs hps hy hts how hQ hst h1 h2 hb
    have hs10 : s < 1024 := rk_p10 hs (by omega)
    have hb1 : I 1 (R 10 y 2) 1 = nI c := hy.2.2.2.1.1.trans hc
    have hcmp := cX8_compare_s (w := w) (l := l) (Sh := Sh) (R := R) (v := v) hs10 hb h1 h2 hts.1
    refine rk_bU (ls := [(0, _), (1, _), (2, _), (3, _), (4, _)]) (by decide) rfl (Nat.le_of_ble_eq_true rfl) ?_
    refine rk_iload_n 2 dX8_choose_0 rfl rfl ?_
    refine rk_aload_n 1 dX8_choose_1 rfl rfl ?_
    refine rk_g10_2 rk_kX8_28 dX8_choose_2 ?_
    refine rk_g1_1 rk_kX8_69 dX8_choose_5 ?_
    rw [hb1]
    refine rk_icmp_ge 17 dX8_choose_8 (by decide) (fun qz8 => ?_) (fun qz8 => ?_)
    · skip
      refine rk_aload_n 0 dX8_choose_17 rfl rfl ?_
      refine rk_iload_n 3 dX8_choose_18 rfl rfl ?_
      refine rk_pc (pc' := 19) rfl ?_
      refine rk_iload dX8_choose_19 rfl ?_
      refine rk_cVv (hcmp) rk_eX8_compare rfl ⟨rfl, rfl⟩ rk_kX8_70 dX8_choose_21 rfl (by decide) (Nat.le_of_ble_eq_true rfl) ⟨Nat.le_refl _, Nat.le_refl _⟩ (fun Iz1 Rz1 hz1 => ?_)
      obtain ⟨qhz1, k1, k2, k3⟩ := hz1
      obtain rfl := qhz1.symm
      refine rk_vretU dX8_choose_24 rfl ?_
      exact ⟨hts, k1, k2, k3.mo (fun z hz => Or.inl hz)⟩
    · skip
      refine rk_iload_n 2 dX8_choose_11 rfl rfl ?_
      refine rk_bipush 10 dX8_choose_12 (by decide) ?_
      refine rk_icmp_lt 25 dX8_choose_14 (by decide) (fun qz14 => ?_) (fun qz14 => ?_)
      · skip
        exact absurd (show nI c ≤ nI o ∨ (10 : Int32) ≤ nI o from by
          by_cases hc10 : c ≤ 10
          · exact Or.inl (nI_le (by omega) (by omega))
          · exact Or.inr (nI_le (a := 10) (by omega) (by omega))) (fun z => z.elim qz8 (fun z => Int32.not_lt.mpr z qz14))
      · skip
        refine rk_aload_n 0 dX8_choose_17 rfl rfl ?_
        refine rk_iload_n 3 dX8_choose_18 rfl rfl ?_
        refine rk_pc (pc' := 19) rfl ?_
        refine rk_iload dX8_choose_19 rfl ?_
        refine rk_cVv (hcmp) rk_eX8_compare rfl ⟨rfl, rfl⟩ rk_kX8_70 dX8_choose_21 rfl (by decide) (Nat.le_of_ble_eq_true rfl) ⟨Nat.le_refl _, Nat.le_refl _⟩ (fun Iz1 Rz1 hz1 => ?_)
        obtain ⟨qhz1, k1, k2, k3⟩ := hz1
        obtain rfl := qhz1.symm
        refine rk_vretU dX8_choose_24 rfl ?_
        exact ⟨hts, k1, k2, k3.mo (fun z hz => Or.inl hz)⟩
  | succ n ih =>
    intro o s v Q I R b m ho hs hps hy hts how hQ hst h1 h2 hb
    have hoc : o < c := by omega
    have ho10 : o < 10 := by omega
    have hs10 : s < 1024 := rk_p10 hs (by omega)
    have hs2 : s < 2 ^ (o + 1) := Nat.lt_trans hs (Nat.pow_lt_pow_right (by decide) (by omega))
    have hb1 : I 1 (R 10 y 2) 1 = nI c := hy.2.2.2.1.1.trans hc
    have hor := sp_or_lt hs (n := 10) ho10 (by decide)
    have hpo := sp_pop_or 10 o s ho10 hs
    have hnc : ¬ nI c ≤ nI o := nI_ge hoc (by omega)
    have hn10 : nI o < 10 := nI_lt (b := 10) ho10 (by decide)
    obtain ⟨hov, kq, hkq, hkn⟩ := how.2 o (Nat.le_refl _) (by omega)
    obtain ⟨pcq, hpq⟩ := how.1
    have hsq : sp_c Q (220 + 7 * o + 3) = kq := sp_cN hkn (by omega)
    obtain ⟨how2, -⟩ := sp_ow_cf how (by omega) hkq hkn
    obtain ⟨inv1, ⟨c', hc', inv2⟩, inv3, inv4⟩ := sp_cf_inv (o := o) (by omega) kq pcq Q hkq hpq hov hkn
    have hcc : sp_c N 13 = c := sp_cN hc (by omega)
    have hrec := ih (o + 1) s v Q I R b m (by omega) hs2 (by omega) hy hts (sp_ow_s how) (fun j hj => hQ j (by omega)) hst h1 h2 hb
    have hb2 := sp_ch_lt n (o + 1) s v Q (b, m) (by omega) hs2 hb
    generalize hr1 : sp_ch n (o + 1) s v Q (b, m) = r1 at hrec hb2
    have hch : sp_ch (n + 1) o s v Q (b, m) = @ite _ (0 < (sp_cf o kq Q).2) (Classical.propDecidable _) (sp_ch n (o + 1) (s ||| 2 ^ o) (v + nI (sp_cf o kq Q).2 * Q (220 + 7 * o + 6)) (sp_cf o kq Q).1 r1) r1 := by
      simp only [sp_ch]
      rw [hsq, hr1]
    generalize hM : (sp_cf o kq Q).1 = M at *
    generalize hk : (sp_cf o kq Q).2 = k at *
    refine rk_bU (ls := [(0, _), (1, _), (2, _), (3, _), (4, _)]) (by decide) rfl (Nat.le_of_ble_eq_true rfl) ?_
    refine rk_iload_n 2 dX8_choose_0 rfl rfl ?_
    refine rk_aload_n 1 dX8_choose_1 rfl rfl ?_
    refine rk_g10_2 rk_kX8_28 dX8_choose_2 ?_
    refine rk_g1_1 rk_kX8_69 dX8_choose_5 ?_
    rw [hb1]
    refine rk_icmp_ge 17 dX8_choose_8 (by decide) (fun qz8 => ?_) (fun qz8 => ?_)
    · skip
      exact absurd qz8 hnc
    · skip
      refine rk_iload_n 2 dX8_choose_11 rfl rfl ?_
      refine rk_bipush 10 dX8_choose_12 (by decide) ?_
      refine rk_pc (pc' := 14) rfl ?_
      refine rk_icmp_lt 25 dX8_choose_14 (by decide) (fun qz14 => ?_) (fun qz14 => ?_)
      · skip
        refine rk_aload_n 0 dX8_choose_25 rfl rfl ?_
        refine rk_aload_n 1 dX8_choose_26 rfl rfl ?_
        refine rk_iload_n 2 dX8_choose_27 rfl rfl ?_
        refine rk_iconst 1 dX8_choose_28 (by decide) ?_
        refine rk_iadd dX8_choose_29 ?_
        refine rk_iload_n 3 dX8_choose_30 rfl rfl ?_
        refine rk_pc (pc' := 31) rfl ?_
        refine rk_iload dX8_choose_31 rfl ?_
        rw [nI_1]
        refine rk_cSv (hrec) rk_eX8_choose rfl rk_kX8_65 dX8_choose_33 rfl (by omega) (Nat.le_of_ble_eq_true rfl) ⟨Nat.le_refl _, Nat.le_refl _⟩ (fun Iz1 Rz1 hz1 => ?_)
        obtain ⟨ts1, m1, m2, fr1⟩ := hz1
        have y1 : cl_y rg Iz1 Rz1 y t N := hy.fr fr1 (fun z hz hz2 => by have := hz2.no; omega) hv.c12 hv.c13
        have r9 : Rz1 9 = R 9 := fr1.2.2 9 (by decide) (by decide) (by decide)
        have r23 : Rz1 23 = R 23 := fr1.2.2 23 (by decide) (by decide) (by decide)
        have st1 : cl_st rg Iz1 Rz1 (Rz1 23 (Rz1 9 tr 0) (sp_pop 10 s)) (4 * (10 + sp_pop 10 s) + 2) Q := by rw [r9, r23]; exact hst.fr fr1 (fun z => by have := z.lev; omega) hpq.2.1 hpq.1
        refine rk_iload_n 3 dX8_choose_36 rfl rfl ?_
        refine rk_cSp (cJ6_bitCount_s hs10) rk_eJ6_bitCount_0f7a4 rfl (by exact rk_inT 692 (by decide +kernel) (by decide +kernel)) dX8_choose_37 rfl (by omega) (Nat.le_of_ble_eq_true rfl) ⟨Nat.le_refl _, Nat.le_refl _⟩ ?_
        refine rk_istore (ls' := [(5, _), (0, _), (1, _), (2, _), (3, _), (4, _)]) dX8_choose_40 (by decide) rfl ?_
        refine rk_aload_n 0 dX8_choose_42 rfl rfl ?_
        refine rk_pc (pc' := 43) rfl ?_
        refine rk_g9_0 rk_kX8_13 dX8_choose_43 ?_
        refine rk_iload dX8_choose_46 rfl ?_
        refine rk_iconst 1 dX8_choose_48 (by decide) ?_
        refine rk_iadd dX8_choose_49 ?_
        refine rk_rn23 (sp_pop 10 s + 1) dX8_choose_50 (by first | rfl | decide | assumption | (simp only [rk_lit, nI_add, pk_mul, nI_1]; done) | (simp only [rk_lit, nI_add, pk_mul, nI_1]; congr 1; omega)) (by first | decide | assumption | omega) ?_
        refine rk_astore (ls' := [(6, _), (5, _), (0, _), (1, _), (2, _), (3, _), (4, _)]) dX8_choose_51 (by decide) rfl ?_
        refine rk_pc (pc' := 53) rfl ?_
        refine rk_aload dX8_choose_53 rfl ?_
        refine rk_aload_n 0 dX8_choose_55 rfl rfl ?_
        refine rk_g9_0 rk_kX8_13 dX8_choose_56 ?_
        refine rk_iload dX8_choose_59 rfl ?_
        refine rk_rn23 (sp_pop 10 s) dX8_choose_61 (by first | rfl | decide | assumption | (simp only [rk_lit, nI_add, pk_mul, nI_1]; done) | (simp only [rk_lit, nI_add, pk_mul, nI_1]; congr 1; omega)) (by first | decide | assumption | omega) ?_
        refine rk_cVv (cX7_copyFrom_s (r := 4 * (10 + (sp_pop 10 s + 1)) + 2) (rp := 4 * (10 + sp_pop 10 s) + 2) (ts1.2.2 (sp_pop 10 s + 1) (by omega)) st1 (by omega) hpq.2.1 hpq.1) rk_eX7_copyFrom rfl ⟨rfl, rfl⟩ rk_kX8_24 dX8_choose_62 rfl (by omega) (Nat.le_of_ble_eq_true rfl) ⟨Nat.le_refl _, Nat.le_refl _⟩ (fun Iz2 Rz2 hz2 => ?_)
        obtain ⟨qhz2, st2, fr2⟩ := hz2
        obtain rfl := qhz2.symm
        have y2 : cl_y rg Iz2 Rz1 y t N := y1.fr fr2 (by omega) hv.c12 hv.c13
        have hP := y2.2.2.2.1.2.1 o (by omega)
        have hrO : rg (Rz1 13 (Rz1 1 (Rz1 10 y 2) 0) o) = 4 * t + 3 := y2.1.2.2.2.2.2.1 o (by omega)
        have hPQ : ∀ j, j < 7 → Iz2 3 (Rz1 13 (Rz1 1 (Rz1 10 y 2) 0) o) j = Q (220 + 7 * o + j) := fun j hj => (hP j hj).trans (hQ _ (by omega)).symm
        have h4 : Q (220 + 7 * o + 4) = 0 ∨ Q (220 + 7 * o + 4) = 1 := by rw [hQ _ (by omega)]; exact y2.2.2.2.1.2.2 o (by omega)
        have h6 : 1 ≤ Q 6 := by rw [hQ 6 (by omega)]; exact (hv.2.2.2.1 6 (by decide)).1
        have ru2 : cl_ru Iz2 Rz1 (Rz1 10 y 0) Q := y2.2.1.c (fun j hj => hQ j (by have hj' := cl_rj hj; clear hj; omega))
        have hcf := cX7_cutFor_s (w := w) (l := l) (Sh := Sh) (o := Rz1 13 (Rz1 1 (Rz1 10 y 2) 0) o) y2.1.2.1 (show 4 * t + 1 ≠ 4 * (10 + (sp_pop 10 s + 1)) + 2 by omega) (by rw [hrO]; omega) (by omega) hkq hpq hov hkn hPQ h4 ru2 h6 st2
        rw [hM, hk] at hcf
        refine rk_pc (pc' := 65) rfl ?_
        refine rk_aload_n 1 dX8_choose_65 rfl rfl ?_
        refine rk_g10_2 rk_kX8_28 dX8_choose_66 ?_
        refine rk_g1_0 rk_kX8_32 dX8_choose_69 ?_
        refine rk_iload_n 2 dX8_choose_72 rfl rfl ?_
        refine rk_rn13 (o) dX8_choose_73 (by first | rfl | decide | assumption | (simp only [rk_lit, nI_add, pk_mul, nI_1]; done) | (simp only [rk_lit, nI_add, pk_mul, nI_1]; congr 1; omega)) (by first | decide | assumption | omega) ?_
        refine rk_astore (ls' := [(7, _), (6, _), (5, _), (0, _), (1, _), (2, _), (3, _), (4, _)]) dX8_choose_74 (by decide) rfl ?_
        refine rk_pc (pc' := 76) rfl ?_
        refine rk_aload dX8_choose_76 rfl ?_
        refine rk_aload dX8_choose_78 rfl ?_
        refine rk_aload_n 1 dX8_choose_80 rfl rfl ?_
        refine rk_g10_0 rk_kX8_38 dX8_choose_81 ?_
        refine rk_cVi (hcf) rk_eX7_cutFor rfl ⟨rfl, rfl⟩ rk_kX8_42 dX8_choose_84 rfl (by omega) (Nat.le_of_ble_eq_true rfl) ⟨Nat.le_refl _, Nat.le_refl _⟩ (fun xz3 Iz3 Rz3 hz3 => ?_)
        obtain ⟨rfl, st3, fr3⟩ := hz3
        have y3 : cl_y rg Iz3 Rz3 y t N := y2.fr fr3 (by omega) hv.c12 hv.c13
        have q9 : Rz3 9 = Rz1 9 := fr3.2.2 9 (by decide) (by decide) (by decide)
        have q23 : Rz3 23 = Rz1 23 := fr3.2.2 23 (by decide) (by decide) (by decide)
        have ts3 : cl_ts rg Rz3 tr := ts1.st fr3 st3.1
        have st3' : cl_st rg Iz3 Rz3 (Rz3 23 (Rz3 9 tr 0) (sp_pop 10 (s ||| 2 ^ o))) (4 * (10 + sp_pop 10 (s ||| 2 ^ o)) + 2) M := by rw [q9, q23, hpo]; exact st3
        have n1 : Iz3 9 tr 1 = nI r1.1 := by rw [fr3.1 9 tr (by rw [hts.1]; omega), fr2.1 9 tr (by rw [hts.1]; omega)]; exact m1
        have n2 : Iz3 9 tr 2 = r1.2 := by rw [fr3.1 9 tr (by rw [hts.1]; omega), fr2.1 9 tr (by rw [hts.1]; omega)]; exact m2
        have j3 : Iz3 3 (Rz1 13 (Rz1 1 (Rz1 10 y 2) 0) o) 6 = Q (220 + 7 * o + 6) := by rw [fr3.1 3 _ (by rw [hrO]; omega)]; exact hPQ 6 (by decide)
        have fr123 : cl_fr rg (cl_tS (sp_pop 10 s)) I R Iz3 Rz3 := (fr1.tr (fr2.mo (fun z hz => Or.inr ⟨sp_pop 10 s + 1, by omega, by omega, hz⟩))).tr (fr3.mo (fun z hz => Or.inr ⟨sp_pop 10 s + 1, by omega, by omega, hz⟩))
        refine rk_istore (ls' := [(8, _), (7, _), (6, _), (5, _), (0, _), (1, _), (2, _), (3, _), (4, _)]) dX8_choose_87 (by decide) rfl ?_
        refine rk_pc (pc' := 89) rfl ?_
        refine rk_iload dX8_choose_89 rfl ?_
        refine rk_if_le 118 dX8_choose_91 (by decide) (fun qz91 => ?_) (fun qz91 => ?_)
        · skip
          refine rk_vretU dX8_choose_118 rfl ?_
          first | (have hk0 : ¬ 0 < k := (fun z => nI_nle z (by omega) qz91); rw [hch, if_neg hk0]; exact ⟨ts3, n1, n2, fr123⟩) | (have hk0 : 0 < k := Nat.pos_of_ne_zero (fun z => qz91 (by rw [z]; decide)); rw [hch, if_pos hk0]; exact ⟨ts4, m41, m42, fr123.tr (fr4.mo (fun z hz => hz.mo (by omega)))⟩)
        · skip
          refine rk_aload_n 0 dX8_choose_94 rfl rfl ?_
          refine rk_aload_n 1 dX8_choose_95 rfl rfl ?_
          refine rk_iload_n 2 dX8_choose_96 rfl rfl ?_
          refine rk_iconst 1 dX8_choose_97 (by decide) ?_
          refine rk_iadd dX8_choose_98 ?_
          rw [nI_1]
          refine rk_pc (pc' := 99) rfl ?_
          refine rk_iload_n 3 dX8_choose_99 rfl rfl ?_
          refine rk_iconst 1 dX8_choose_100 (by decide) ?_
          refine rk_iload_n 2 dX8_choose_101 rfl rfl ?_
          refine rk_ishl dX8_choose_102 ?_
          refine rk_ior dX8_choose_103 ?_
          rw [nI_shl1 o (by omega), nI_or]
          refine rk_iload dX8_choose_104 rfl ?_
          refine rk_pc (pc' := 106) rfl ?_
          refine rk_iload dX8_choose_106 rfl ?_
          refine rk_aload dX8_choose_108 rfl ?_
          refine rk_g3_6 rk_kX8_80 dX8_choose_110 ?_
          rw [j3]
          refine rk_imul dX8_choose_113 ?_
          refine rk_iadd dX8_choose_114 ?_
          refine rk_cSv (ih (o + 1) (s ||| 2 ^ o) (v + nI k * Q (220 + 7 * o + 6)) M Iz3 Rz3 r1.1 r1.2 (by omega) hor.1 (by omega) y3 ts3 how2 (fun j hj => (inv1 j (by omega)).trans (hQ j (by omega))) st3' n1 n2 hb2) rk_eX8_choose rfl rk_kX8_65 dX8_choose_115 rfl (by omega) (Nat.le_of_ble_eq_true rfl) ⟨Nat.le_refl _, Nat.le_refl _⟩ (fun Iz4 Rz4 hz4 => ?_)
          obtain ⟨ts4, m41, m42, fr4⟩ := hz4
          refine rk_pc (pc' := 118) rfl ?_
          refine rk_vretU dX8_choose_118 rfl ?_
          first | (have hk0 : ¬ 0 < k := (fun z => nI_nle z (by omega) qz91); rw [hch, if_neg hk0]; exact ⟨ts3, n1, n2, fr123⟩) | (have hk0 : 0 < k := Nat.pos_of_ne_zero (fun z => qz91 (by rw [z]; decide)); rw [hch, if_pos hk0]; exact ⟨ts4, m41, m42, fr123.tr (fr4.mo (fun z hz => hz.mo (by omega)))⟩)
      · skip
        exact absurd hn10 qz14
end DA

