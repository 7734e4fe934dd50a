section CS
variable {w : rk_W} {l : Launch} {Sh : rk_Sh} {rg : Nat → Nat} {I : rk_Mm} {R : rk_Rm} {y t : Nat} {N : Nat → Int32} {T : Int}
theorem rk_nat {x : Int32} {m : Nat} (hm : m < 2 ^ 31) (h0 : 0 ≤ x) (h : x ≤ nI m) : ∃ k, k ≤ m ∧ x = nI k := rk_in_n (n := m) rfl hm ⟨h0, h⟩
theorem sp_up_n {a b : Nat} (hb : 0 < b) (h : a + b < 2 ^ 31) : sp_up (nI a) (nI b) = nI ((a + b - 1) / b) := by
  unfold sp_up
  rw [nI_add, rk_pred (by omega), pk_div (by omega) hb (by omega)]
theorem sp_hours_n {s ft : Nat} (hv : sp_rl N) (hs : s ≤ 4) (hf : ft ≤ 2000) : ∃ k, k < 2 ^ 20 ∧ sp_hours N (nI s) (nI ft) = nI k := by
  obtain ⟨b, hb, e2⟩ := rk_nat (m := 40) (by decide) (hv.1 2 (by decide)).1 (hv.1 2 (by decide)).2
  obtain ⟨v, hv8, e8⟩ := rk_nat (m := 500) (by decide) (Int32.le_trans (show (0 : Int32) ≤ 10 by decide) (hv.1 8 (by decide)).1) (hv.1 8 (by decide)).2
  have h8 : 0 < v := by
    rcases Nat.eq_zero_or_pos v with h | h
    · subst h
      have := (hv.1 8 (by decide)).1
      rw [e8] at this
      exact absurd this (by decide)
    · exact h
  have hm : ft * (100 + b) ≤ 2000 * 140 := Nat.mul_le_mul hf (by omega)
  have est : sp_strand N (nI ft) = nI ((ft * (100 + b) + 100 - 1) / 100) := by
    unfold sp_strand
    rw [e2, rk_lit 100, nI_add, pk_mul]
    exact sp_up_n (by decide) (by omega)
  generalize hx : (ft * (100 + b) + 100 - 1) / 100 = x at est
  have hx2 : x ≤ 2800 := by omega
  have hm2 : s * x ≤ 4 * 2800 := Nat.mul_le_mul hs hx2
  refine ⟨(s * x + v - 1) / v, ?_, ?_⟩
  · have : (s * x + v - 1) / v ≤ s * x + v - 1 := Nat.div_le_self _ _
    omega
  · unfold sp_hours
    rw [est, e8, pk_mul]
    exact sp_up_n h8 (by omega)
theorem rk_left {a u : Nat} (ha : a ≤ 24) (hu : u ≤ 24) (h7 : N 7 = nI a) (h11 : N 11 = nI u) : (if 0 < N 7 - N 11 then N 7 - N 11 else 0) = sp_left N ∧ (u < a → sp_left N = nI (a - u)) ∧ (¬ u < a → sp_left N = 0) := by
  unfold sp_left
  rw [h7, h11]
  by_cases h : u < a
  · have h1 : nI a - nI u = nI (a - u) := pk_sub (by omega)
    rw [if_pos (nI_lt h (by omega)), h1, if_pos (show (0 : Int32) < nI (a - u) from nI_lt (a := 0) (by omega) (by omega))]
    exact ⟨rfl, fun _ => rfl, fun z => absurd h z⟩
  · have h1 : ¬ nI u < nI a := nI_nlt (by omega) (by omega)
    have hs := pk_sub_toInt (a := a) (b := u) (by omega) (by omega)
    have h2 : ¬ 0 < nI a - nI u := fun z => by
      have := Int32.lt_iff_toInt_lt.mp z
      rw [hs, show (0 : Int32).toInt = 0 by decide] at this
      omega
    rw [if_neg h1, if_neg h2]
    exact ⟨rfl, fun z => absurd z h, fun _ => rfl⟩
theorem cX9_hoursLeft_s (hv : sp_iv T N) (h : cl_y rg I R y t N) : rk_P w l rk_mX9_hoursLeft 1 [rk_a 10 y] Sh I R (sp_left N) := by
  obtain ⟨a, ha, h7⟩ := rk_nat (m := 24) (by decide) (Int32.le_trans (show (0 : Int32) ≤ 1 by decide) (hv.2.2.2.1 7 (by decide)).1) (hv.2.2.2.1 7 (by decide)).2
  obtain ⟨u, hu, h11⟩ := h.2.2.2.2.2.2.2.2.2
  refine rk_bP (ls := [(0, _)]) (by decide) rfl (Nat.le_of_ble_eq_true rfl) ?_
  refine rk_iconst 0 dX9_hoursLeft_0 (by decide) ?_
  refine rk_aload_n 0 dX9_hoursLeft_1 rfl rfl ?_
  refine rk_g10_0 rk_kX9_12 dX9_hoursLeft_2 ?_
  refine rk_g7_0 rk_kX9_69 dX9_hoursLeft_5 ?_
  refine rk_bipush 7 dX9_hoursLeft_8 (by decide) ?_
  refine rk_rn17 7 dX9_hoursLeft_10 rfl (by first | decide | assumption | omega) ?_
  rw [h.2.1.1 7 (by decide)]
  refine rk_pc (pc' := 11) rfl ?_
  refine rk_aload_n 0 dX9_hoursLeft_11 rfl rfl ?_
  refine rk_g10_4 rk_kX9_46 dX9_hoursLeft_12 ?_
  rw [h.2.2.2.2.2.1]
  refine rk_isub dX9_hoursLeft_15 ?_
  refine rk_mmax dX9_hoursLeft_16 (by exact rk_inT 393 (by decide +kernel) (by decide +kernel)) (by decide) (Nat.le_of_ble_eq_true rfl) ⟨Nat.le_refl _, Nat.le_refl _⟩ ?_
  refine rk_iretP dX9_hoursLeft_19 rfl rfl ?_
  exact (rk_left ha hu h7 h11).1
theorem cX9_canLay_s {j : Nat} {s b ft : Int32} (hv : sp_iv T N) (h : cl_y rg I R y t N) (hj : j < 3) : rk_P w l rk_mX9_canLay 4 [rk_a 10 y, rk_i (nI j), rk_i s, rk_i b, rk_i ft] Sh I R (sp_b (sp_can N j s b ft)) := by
  have h8 : 1 ≤ N 8 := Int32.le_trans (show (1 : Int32) ≤ 10 by decide) (hv.2.2.2.1 8 (by decide)).1
  have ha : I 22 (R 21 (R 8 (R 10 y 1) 2) j) 1 = N (20 + 3 * j + 2) := h.2.2.1.2.2 j (by omega) 1 (by decide)
  refine rk_bP (ls := [(0, _), (1, _), (2, _), (3, _), (4, _)]) (by decide) rfl (Nat.le_of_ble_eq_true rfl) ?_
  refine rk_aload_n 0 dX9_canLay_0 rfl rfl ?_
  refine rk_g10_0 rk_kX9_12 dX9_canLay_1 ?_
  refine rk_iload dX9_canLay_4 rfl ?_
  refine rk_cVp (cX6_strandLength_s h.2.1 _) rk_eX6_strandLength rfl ⟨rfl, rfl⟩ rk_kX9_111 dX9_canLay_6 rfl (by decide) (Nat.le_of_ble_eq_true rfl) ⟨Nat.le_refl _, Nat.le_refl _⟩ ?_
  refine rk_aload_n 0 dX9_canLay_9 rfl rfl ?_
  refine rk_g10_0 rk_kX9_12 dX9_canLay_10 ?_
  refine rk_pc (pc' := 13) rfl ?_
  refine rk_g7_0 rk_kX9_69 dX9_canLay_13 ?_
  refine rk_iconst 0 dX9_canLay_16 (by decide) ?_
  refine rk_rn17 0 dX9_canLay_17 rfl (by first | decide | assumption | omega) ?_
  rw [h.2.1.1 0 (by decide)]
  refine rk_icmp_gt 67 dX9_canLay_18 (by decide) (fun qz18 => ?_) (fun qz18 => ?_)
  · skip
    refine rk_iconst 0 dX9_canLay_67 (by decide) ?_
    refine rk_iretP dX9_canLay_68 rfl (by decide) ?_
    first | exact sp_b1 ⟨Int32.not_lt.mp qz18, Int32.not_lt.mp qz43, Int32.not_lt.mp qz60⟩ | exact sp_b0 (fun z => Int32.not_lt.mpr z.1 qz18) | exact sp_b0 (fun z => Int32.not_lt.mpr z.2.1 qz43) | exact sp_b0 (fun z => Int32.not_lt.mpr z.2.2 qz60)
  · skip
    refine rk_aload_n 0 dX9_canLay_21 rfl rfl ?_
    refine rk_g10_0 rk_kX9_12 dX9_canLay_22 ?_
    refine rk_pc (pc' := 25) rfl ?_
    refine rk_iload_n 2 dX9_canLay_25 rfl rfl ?_
    refine rk_iload_n 3 dX9_canLay_26 rfl rfl ?_
    refine rk_iload dX9_canLay_27 rfl ?_
    refine rk_cVp (cX6_yarnFor_s h.2.1 _ _ _) rk_eX6_yarnFor rfl ⟨rfl, rfl⟩ rk_kX9_115 dX9_canLay_29 rfl (by decide) (Nat.le_of_ble_eq_true rfl) ⟨Nat.le_refl _, Nat.le_refl _⟩ ?_
    refine rk_aload_n 0 dX9_canLay_32 rfl rfl ?_
    refine rk_g10_1 rk_kX9_21 dX9_canLay_33 ?_
    refine rk_pc (pc' := 36) rfl ?_
    refine rk_g8_2 rk_kX9_83 dX9_canLay_36 ?_
    refine rk_iload_n 1 dX9_canLay_39 rfl rfl ?_
    refine rk_rn21 (j) dX9_canLay_40 (by first | rfl | decide | assumption | (simp only [rk_lit, nI_add, pk_mul, nI_1]; done) | (simp only [rk_lit, nI_add, pk_mul, nI_1]; congr 1; omega)) (by first | decide | assumption | omega) ?_
    refine rk_iconst 1 dX9_canLay_41 (by decide) ?_
    refine rk_rn22 1 dX9_canLay_42 rfl (by first | decide | assumption | omega) ?_
    rw [ha]
    refine rk_icmp_gt 67 dX9_canLay_43 (by decide) (fun qz43 => ?_) (fun qz43 => ?_)
    · skip
      refine rk_iconst 0 dX9_canLay_67 (by decide) ?_
      refine rk_pc (pc' := 68) rfl ?_
      refine rk_iretP dX9_canLay_68 rfl (by decide) ?_
      first | exact sp_b1 ⟨Int32.not_lt.mp qz18, Int32.not_lt.mp qz43, Int32.not_lt.mp qz60⟩ | exact sp_b0 (fun z => Int32.not_lt.mpr z.1 qz18) | exact sp_b0 (fun z => Int32.not_lt.mpr z.2.1 qz43) | exact sp_b0 (fun z => Int32.not_lt.mpr z.2.2 qz60)
    · skip
      refine rk_aload_n 0 dX9_canLay_46 rfl rfl ?_
      refine rk_g10_0 rk_kX9_12 dX9_canLay_47 ?_
      refine rk_iload_n 2 dX9_canLay_50 rfl rfl ?_
      refine rk_iload dX9_canLay_51 rfl ?_
      refine rk_cVp (cX6_hoursFor_s h.2.1 h8 _ _) rk_eX6_hoursFor rfl ⟨rfl, rfl⟩ rk_kX9_104 dX9_canLay_53 rfl (by decide) (Nat.le_of_ble_eq_true rfl) ⟨Nat.le_refl _, Nat.le_refl _⟩ ?_
      refine rk_aload_n 0 dX9_canLay_56 rfl rfl ?_
      refine rk_pc (pc' := 57) rfl ?_
      refine rk_cVp (cX9_hoursLeft_s hv h) rk_eX9_hoursLeft rfl ⟨rfl, rfl⟩ rk_kX9_119 dX9_canLay_57 rfl (by decide) (Nat.le_of_ble_eq_true rfl) ⟨Nat.le_refl _, Nat.le_refl _⟩ ?_
      refine rk_icmp_gt 67 dX9_canLay_60 (by decide) (fun qz60 => ?_) (fun qz60 => ?_)
      · skip
        refine rk_iconst 0 dX9_canLay_67 (by decide) ?_
        refine rk_iretP dX9_canLay_68 rfl (by decide) ?_
        first | exact sp_b1 ⟨Int32.not_lt.mp qz18, Int32.not_lt.mp qz43, Int32.not_lt.mp qz60⟩ | exact sp_b0 (fun z => Int32.not_lt.mpr z.1 qz18) | exact sp_b0 (fun z => Int32.not_lt.mpr z.2.1 qz43) | exact sp_b0 (fun z => Int32.not_lt.mpr z.2.2 qz60)
      · skip
        refine rk_iconst 1 dX9_canLay_63 (by decide) ?_
        refine rk_goto 68 dX9_canLay_64 (by decide) ?_
        refine rk_iretP dX9_canLay_68 rfl (by decide) ?_
        first | exact sp_b1 ⟨Int32.not_lt.mp qz18, Int32.not_lt.mp qz43, Int32.not_lt.mp qz60⟩ | exact sp_b0 (fun z => Int32.not_lt.mpr z.1 qz18) | exact sp_b0 (fun z => Int32.not_lt.mpr z.2.1 qz43) | exact sp_b0 (fun z => Int32.not_lt.mpr z.2.2 qz60)
theorem cX9_longest_l {j : Nat} {s b x : Int32} (hv : sp_iv T N) (h : cl_y rg I R y t N) (hj : j < 3) : ∀ n : Nat, n ≤ 2000 → x = sp_last (fun ft => sp_can N j s b (nI ft)) n → rk_Wp w l rk_mX9_longestRope 5 0 0 (rk_GP w Sh I R x) 5 [(0, rk_a 10 y), (1, rk_i (nI j)), (2, rk_i s), (3, rk_i b), (4, rk_i (nI n))] [] (Sh, 0, 0) I R := by
  intro n
  induction n with
  | zero =>
    intro hn hx
    refine rk_iload dX9_longestRope_5 rfl ?_
    refine rk_iconst 1 dX9_longestRope_7 (by decide) ?_
    refine rk_icmp_lt 32 dX9_longestRope_8 (by decide) (fun qz8 => ?_) (fun qz8 => ?_)
    · skip
      refine rk_bipush (-6) dX9_longestRope_32 (by decide) ?_
      refine rk_iretP dX9_longestRope_34 rfl rfl ?_
      exact hx.symm
    · skip
      exact absurd (show nI 0 < 1 by decide) qz8
  | succ n ih =>
    intro hn hx
    have hnl : ¬ nI (n + 1) < 1 := nI_nlt (a := n + 1) (b := 1) (by omega) (by omega)
    refine rk_iload dX9_longestRope_5 rfl ?_
    refine rk_iconst 1 dX9_longestRope_7 (by decide) ?_
    refine rk_icmp_lt 32 dX9_longestRope_8 (by decide) (fun qz8 => ?_) (fun qz8 => ?_)
    · skip
      exact absurd qz8 hnl
    · skip
      refine rk_aload_n 0 dX9_longestRope_11 rfl rfl ?_
      refine rk_iload_n 1 dX9_longestRope_12 rfl rfl ?_
      refine rk_iload_n 2 dX9_longestRope_13 rfl rfl ?_
      refine rk_iload_n 3 dX9_longestRope_14 rfl rfl ?_
      refine rk_pc (pc' := 15) rfl ?_
      refine rk_iload dX9_longestRope_15 rfl ?_
      refine rk_cVp (cX9_canLay_s hv h hj) rk_eX9_canLay rfl ⟨rfl, rfl⟩ rk_kX9_100 dX9_longestRope_17 rfl (by decide) (Nat.le_of_ble_eq_true rfl) ⟨Nat.le_refl _, Nat.le_refl _⟩ ?_
      refine rk_if_eq 26 dX9_longestRope_20 (by decide) (fun qz20 => ?_) (fun qz20 => ?_)
      · skip
        refine rk_iinc (-1) (ls' := [(4, _), (0, _), (1, _), (2, _), (3, _)]) dX9_longestRope_26 (by decide) rfl (by decide) rfl ?_
        refine rk_goto 5 dX9_longestRope_29 (by decide) ?_
        refine rk_ord [0, 1, 2, 3, 4] (ls' := [(0, _), (1, _), (2, _), (3, _), (4, _)]) rfl ?_
        rw [pk_m1]
        exact ih (by omega) (hx.trans (sp_last0 (P := fun ft => sp_can N j s b (nI ft)) (sp_bf qz20)))
      · skip
        refine rk_iload dX9_longestRope_23 rfl ?_
        refine rk_iretP dX9_longestRope_25 rfl rfl ?_
        rw [hx]; exact sp_last1 (P := fun ft => sp_can N j s b (nI ft)) (sp_bt qz20)
theorem cX9_longestRope_s {j : Nat} {s b : Int32} (hv : sp_iv T N) (h : cl_y rg I R y t N) (hj : j < 3) : rk_P w l rk_mX9_longestRope 5 [rk_a 10 y, rk_i (nI j), rk_i s, rk_i b] Sh I R (sp_last (fun ft => sp_can N j s b (nI ft)) 2000) := by
  refine rk_bP (ls := [(0, _), (1, _), (2, _), (3, _)]) (by decide) rfl (Nat.le_of_ble_eq_true rfl) ?_
  refine rk_sipush 2000 dX9_longestRope_0 (by decide) ?_
  refine rk_istore (ls' := [(4, _), (0, _), (1, _), (2, _), (3, _)]) dX9_longestRope_3 (by decide) rfl ?_
  refine rk_ord [0, 1, 2, 3, 4] (ls' := [(0, _), (1, _), (2, _), (3, _), (4, _)]) rfl ?_
  exact cX9_longest_l hv h hj 2000 (by decide) rfl
theorem cX9_layRope_s (hv : sp_iv T N) (h : cl_y rg I R y t N) (f s b ft : Int32) : rk_J w l rk_mX9_layRope 5 [rk_a 10 y, rk_i f, rk_i s, rk_i b, rk_i ft] Sh I R (cl_Q rg I R y t N (sp_lay N f s b ft)) := by
  by_cases h9 : 0 ≤ f ∧ f ≤ 2
  · obtain ⟨j, hj, rfl⟩ := rk_in_n (n := 2) rfl (by decide) h9
    have hcl : (nI j).toNatClampNeg = j := nI_clamp (by omega)
    obtain ⟨c, hc2, hc⟩ := hv.c12
    have hcc : sp_c N 12 = c := sp_cN hc (by omega)
    have hbad : ¬ (((3 ≤ s ∧ s ≤ 4) ∧ (1 ≤ b ∧ b ≤ 40)) ∧ 1 ≤ ft ∧ ft ≤ 2000) → sp_lay N (nI j) s b ft = (-2, none) := fun z => by unfold sp_lay; rw [if_pos h9, if_neg z]
    have hful : (((3 ≤ s ∧ s ≤ 4) ∧ (1 ≤ b ∧ b ≤ 40)) ∧ 1 ≤ ft ∧ ft ≤ 2000) → N 12 = 24 → sp_lay N (nI j) s b ft = (-4, none) := fun z z2 => by unfold sp_lay; rw [if_pos h9, if_pos z, if_pos z2]
    have hnot : (((3 ≤ s ∧ s ≤ 4) ∧ (1 ≤ b ∧ b ≤ 40)) ∧ 1 ≤ ft ∧ ft ≤ 2000) → ¬ N 12 = 24 → ¬ sp_can N j s b ft → sp_lay N (nI j) s b ft = (-5, none) := fun z z2 z3 => by unfold sp_lay; rw [if_pos h9, if_pos z, if_neg z2, hcl, if_neg z3]
    have hgood : (((3 ≤ s ∧ s ≤ 4) ∧ (1 ≤ b ∧ b ≤ 40)) ∧ 1 ≤ ft ∧ ft ≤ 2000) → ¬ N 12 = 24 → sp_can N j s b ft → sp_lay N (nI j) s b ft = (N 12 + 1 - 1, some (sp_layN N j c s b ft)) := fun z z2 z3 => by unfold sp_lay; rw [if_pos h9, if_pos z, if_neg z2, hcl, if_pos z3, hcc]
    have h24 : N 12 = 24 ↔ 24 ≤ N 12 := by
      rw [hc]
      refine ⟨fun z => by rw [z]; exact Int32.le_refl _, fun z => ?_⟩
      have : 24 ≤ c := (nI_leI (a := 24) (by decide) (by omega)).mp z
      rw [show c = 24 by omega]; rfl
    have hfull := cX7_isFull_s (w := w) (l := l) (Sh := Sh) (I := I) (R := R) (q := R 10 y 1)
    rw [h.2.2.1.2.1.1] at hfull
    have h8 : 1 ≤ N 8 := Int32.le_trans (show (1 : Int32) ≤ 10 by decide) (hv.2.2.2.1 8 (by decide)).1
    have h11 : I 10 y 4 = N 11 := h.2.2.2.2.2.1
    have hu : (((3 ≤ s ∧ s ≤ 4) ∧ (1 ≤ b ∧ b ≤ 40)) ∧ 1 ≤ ft ∧ ft ≤ 2000) → sp_can N j s b ft → ∃ u, u ≤ 24 ∧ N 11 + sp_hours N s ft = nI u := by
      intro z z3
      obtain ⟨a, ha, h7⟩ := rk_nat (m := 24) (by decide) (Int32.le_trans (show (0 : Int32) ≤ 1 by decide) (hv.2.2.2.1 7 (by decide)).1) (hv.2.2.2.1 7 (by decide)).2
      obtain ⟨u, hu, h11'⟩ := h.2.2.2.2.2.2.2.2.2
      obtain ⟨s', hs', rfl⟩ := rk_nat (m := 4) (by decide) (Int32.le_trans (show (0 : Int32) ≤ 3 by decide) z.1.1.1) z.1.1.2
      obtain ⟨f', hf', rfl⟩ := rk_nat (m := 2000) (by decide) (Int32.le_trans (show (0 : Int32) ≤ 1 by decide) z.2.1) z.2.2
      obtain ⟨k, hk, ek⟩ := sp_hours_n hv.2.2.2 hs' hf'
      obtain ⟨-, q1, q2⟩ := rk_left ha hu h7 h11'
      have q3 := z3.2.2
      rw [ek] at q3
      refine ⟨u + k, ?_, by rw [h11', ek, nI_add]⟩
      by_cases hua : u < a
      · rw [q1 hua] at q3
        have := (nI_leI (by omega) (by omega)).mp q3
        omega
      · rw [q2 hua] at q3
        have := (nI_leI (b := 0) (by omega) (by decide)).mp q3
        omega
    refine rk_bJ (ls := [(0, _), (1, _), (2, _), (3, _), (4, _)]) (by decide) rfl (Nat.le_of_ble_eq_true rfl) ?_
    refine rk_iload_n 1 dX9_layRope_0 rfl rfl ?_
    refine rk_cSNp (cX10_isFibre_s) rk_eX10_isFibre rfl rk_nX9_72 dX9_layRope_1 rfl (by decide) (Nat.le_of_ble_eq_true rfl) ⟨Nat.le_refl _, Nat.le_refl _⟩ ?_
    refine rk_if_ne 9 dX9_layRope_4 (by decide) (fun qz4 => ?_) (fun qz4 => ?_)
    · skip
      refine rk_iload_n 2 dX9_layRope_9 rfl rfl ?_
      refine rk_iload_n 3 dX9_layRope_10 rfl rfl ?_
      refine rk_cSNp (cX10_isMake_s) rk_eX10_isMake rfl rk_nX9_92 dX9_layRope_11 rfl (by decide) (Nat.le_of_ble_eq_true rfl) ⟨Nat.le_refl _, Nat.le_refl _⟩ ?_
      refine rk_if_eq 29 dX9_layRope_14 (by decide) (fun qz14 => ?_) (fun qz14 => ?_)
      · skip
        refine rk_bipush (-2) dX9_layRope_29 (by decide) ?_
        refine rk_pc (pc' := 31) rfl ?_
        refine rk_iretJ dX9_layRope_31 rfl rfl ?_
        first | exact cl_Q0 h (hbad (fun z => sp_bf qz14 z.1)) | exact cl_Q0 h (hbad (fun z => sp_bf qz26 z.2))
      · skip
        refine rk_iload dX9_layRope_17 rfl ?_
        refine rk_iconst 1 dX9_layRope_19 (by decide) ?_
        refine rk_sipush 2000 dX9_layRope_20 (by decide) ?_
        refine rk_cSNp (cX10_inRange_s _ _ _) rk_eX10_inRange rfl rk_nX9_58 dX9_layRope_23 rfl (by decide) (Nat.le_of_ble_eq_true rfl) ⟨Nat.le_refl _, Nat.le_refl _⟩ ?_
        refine rk_if_ne 32 dX9_layRope_26 (by decide) (fun qz26 => ?_) (fun qz26 => ?_)
        · skip
          refine rk_aload_n 0 dX9_layRope_32 rfl rfl ?_
          refine rk_g10_1 rk_kX9_21 dX9_layRope_33 ?_
          refine rk_pc (pc' := 36) rfl ?_
          refine rk_cVp (hfull) rk_eX7_isFull rfl ⟨rfl, rfl⟩ rk_kX9_96 dX9_layRope_36 rfl (by decide) (Nat.le_of_ble_eq_true rfl) ⟨Nat.le_refl _, Nat.le_refl _⟩ ?_
          refine rk_if_eq 45 dX9_layRope_39 (by decide) (fun qz39 => ?_) (fun qz39 => ?_)
          · skip
            refine rk_aload_n 0 dX9_layRope_45 rfl rfl ?_
            refine rk_iload_n 1 dX9_layRope_46 rfl rfl ?_
            refine rk_iload_n 2 dX9_layRope_47 rfl rfl ?_
            refine rk_iload_n 3 dX9_layRope_48 rfl rfl ?_
            refine rk_iload dX9_layRope_49 rfl ?_
            refine rk_pc (pc' := 51) rfl ?_
            refine rk_cVp (cX9_canLay_s hv h (by omega)) rk_eX9_canLay rfl ⟨rfl, rfl⟩ rk_kX9_100 dX9_layRope_51 rfl (by decide) (Nat.le_of_ble_eq_true rfl) ⟨Nat.le_refl _, Nat.le_refl _⟩ ?_
            refine rk_if_ne 60 dX9_layRope_54 (by decide) (fun qz54 => ?_) (fun qz54 => ?_)
            · skip
              refine rk_aload_n 0 dX9_layRope_60 rfl rfl ?_
              refine rk_dup dX9_layRope_61 rfl ?_
              refine rk_g10_4 rk_kX9_46 dX9_layRope_62 ?_
              rw [h11]
              refine rk_aload_n 0 dX9_layRope_65 rfl rfl ?_
              refine rk_g10_0 rk_kX9_12 dX9_layRope_66 ?_
              refine rk_pc (pc' := 69) rfl ?_
              refine rk_iload_n 2 dX9_layRope_69 rfl rfl ?_
              refine rk_iload dX9_layRope_70 rfl ?_
              refine rk_cVp (cX6_hoursFor_s h.2.1 h8 _ _) rk_eX6_hoursFor rfl ⟨rfl, rfl⟩ rk_kX9_104 dX9_layRope_72 rfl (by decide) (Nat.le_of_ble_eq_true rfl) ⟨Nat.le_refl _, Nat.le_refl _⟩ ?_
              refine rk_iadd dX9_layRope_75 ?_
              refine rk_p10_4 rk_kX9_46 dX9_layRope_76 (fun Iz1 eIz1 => ?_)
              have y1 := h.u (j := 4) (m := 11) (v := N 11 + sp_hours N s ft) hv.c12 hv.c13 (Or.inr (Or.inl ⟨rfl, rfl⟩)) (fun _ => hu ⟨sp_bt qz14, sp_bt qz26⟩ (sp_bt qz54))
              rw [← eIz1] at y1
              have g1 : cl_fr rg (fun z => z = 4 * t) I R Iz1 R := by rw [eIz1]; exact cl_fr.ui h.1.1
              have s1 : cl_st rg Iz1 R (R 10 y 1) (4 * t + 2) N := h.2.2.1.fr g1 (by omega) hc hc2
              have r1 : cl_ru Iz1 R (R 10 y 0) N := h.2.1.fr h.1.2.1 g1 (by omega)
              have hlt : c < 24 := Nat.lt_of_le_of_ne hc2 (fun z => (sp_bf qz39) (h24.mp (by rw [hc, z]; rfl)))
              refine rk_aload_n 0 dX9_layRope_79 rfl rfl ?_
              refine rk_pc (pc' := 80) rfl ?_
              refine rk_g10_1 rk_kX9_21 dX9_layRope_80 ?_
              refine rk_iload_n 1 dX9_layRope_83 rfl rfl ?_
              refine rk_iload_n 2 dX9_layRope_84 rfl rfl ?_
              refine rk_iload_n 3 dX9_layRope_85 rfl rfl ?_
              refine rk_iload dX9_layRope_86 rfl ?_
              refine rk_aload_n 0 dX9_layRope_88 rfl rfl ?_
              refine rk_pc (pc' := 89) rfl ?_
              refine rk_g10_0 rk_kX9_12 dX9_layRope_89 ?_
              refine rk_cVi (cX7_addRope_s s1 hc hlt (by omega) r1) rk_eX7_addRope rfl ⟨rfl, rfl⟩ rk_kX9_107 dX9_layRope_92 rfl (by decide) (Nat.le_of_ble_eq_true rfl) ⟨Nat.le_refl _, Nat.le_refl _⟩ (fun xz2 Iz2 Rz2 hz2 => ?_)
              obtain ⟨rfl, qhz2, sthz2, frhz2⟩ := hz2
              obtain rfl := qhz2.symm
              refine rk_iretJ dX9_layRope_95 rfl rfl ?_
              refine cl_Q1 (hgood ⟨sp_bt qz14, sp_bt qz26⟩ (fun z => sp_bf qz39 (h24.mp z)) (sp_bt qz54)) ((g1.mo (fun z hz => by omega)).tr (frhz2.mo (fun z hz => by omega))) (y1.st (by rw [sp_un (by decide)]; exact hv.c13) sthz2 frhz2 (fun i hi => ?_))
              by_cases hi11 : i = 11
              · subst hi11
                rw [sp_us, sp_layN, sp_un (by omega), sp_un (by omega), sp_un (by omega), sp_un (by omega), sp_un (by omega), sp_un (by omega), sp_un (by omega), sp_un (by omega), sp_us]
              · rw [sp_un hi11]; exact sp_lay_x (by omega) hi11 (by omega) (by omega)
            · skip
              refine rk_bipush (-5) dX9_layRope_57 (by decide) ?_
              refine rk_iretJ dX9_layRope_59 rfl rfl ?_
              exact cl_Q0 h (hnot ⟨sp_bt qz14, sp_bt qz26⟩ (fun z => sp_bf qz39 (h24.mp z)) (sp_bf qz54))
          · skip
            refine rk_bipush (-4) dX9_layRope_42 (by decide) ?_
            refine rk_iretJ dX9_layRope_44 rfl rfl ?_
            exact cl_Q0 h (hful ⟨sp_bt qz14, sp_bt qz26⟩ (h24.mpr (sp_bt qz39)))
        · skip
          refine rk_bipush (-2) dX9_layRope_29 (by decide) ?_
          refine rk_iretJ dX9_layRope_31 rfl rfl ?_
          first | exact cl_Q0 h (hbad (fun z => sp_bf qz14 z.1)) | exact cl_Q0 h (hbad (fun z => sp_bf qz26 z.2))
    · skip
      exact absurd h9 (sp_bf qz4)
  · skip
    refine rk_bJ (ls := [(0, _), (1, _), (2, _), (3, _), (4, _)]) (by decide) rfl (Nat.le_of_ble_eq_true rfl) ?_
    refine rk_iload_n 1 dX9_layRope_0 rfl rfl ?_
    refine rk_cSNp (cX10_isFibre_s) rk_eX10_isFibre rfl rk_nX9_72 dX9_layRope_1 rfl (by decide) (Nat.le_of_ble_eq_true rfl) ⟨Nat.le_refl _, Nat.le_refl _⟩ ?_
    refine rk_if_ne 9 dX9_layRope_4 (by decide) (fun qz4 => ?_) (fun qz4 => ?_)
    · skip
      exact absurd (sp_bt qz4) h9
    · skip
      refine rk_iconst (-1) dX9_layRope_7 (by decide) ?_
      refine rk_iretJ dX9_layRope_8 rfl rfl ?_
      exact cl_Q0 h (by unfold sp_lay; rw [if_neg h9])
end CS

