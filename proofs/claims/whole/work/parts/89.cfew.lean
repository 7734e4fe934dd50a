section CX
variable {w : rk_W} {l : Launch} {Sh : rk_Sh} {rg : Nat → Nat} {I : rk_Mm} {R : rk_Rm} {N : Nat → Int32} {T : Int}
theorem cX9_copyFrom_s {y t y2 t2 : Nat} (hv : sp_iv T N) (hs : cl_ys rg R y t) (h : cl_y rg I R y2 t2 N) (hne : t2 ≠ t) : rk_U w l rk_mX9_copyFrom 3 [rk_a 10 y, rk_a 10 y2] Sh I R (fun I' R' => R' = R ∧ cl_y rg I' R y t N ∧ cl_fr rg (fun z => z / 4 = t) I R I' R) := by
  obtain ⟨c, hc2, hc⟩ := hv.c12
  obtain ⟨b, hb2, hb⟩ := hv.c13
  obtain ⟨k1, k2, k3, k4, k5⟩ := h
  obtain ⟨y3, y4, y5, y6, y7, y8⟩ := k5
  have e0 : rg y2 = 4 * t2 := k1.1
  refine rk_bU (ls := [(0, _), (1, _)]) (by decide) rfl (Nat.le_of_ble_eq_true rfl) ?_
  refine rk_aload_n 0 dX9_copyFrom_0 rfl rfl ?_
  refine rk_g10_0 rk_kX9_12 dX9_copyFrom_1 ?_
  refine rk_aload_n 1 dX9_copyFrom_4 rfl rfl ?_
  refine rk_g10_0 rk_kX9_12 dX9_copyFrom_5 ?_
  refine rk_cVv (cX6_copyFrom_s hs.2.1 k2) rk_eX6_copyFrom rfl ⟨rfl, rfl⟩ rk_kX9_32 dX9_copyFrom_8 rfl (by decide) (Nat.le_of_ble_eq_true rfl) ⟨Nat.le_refl _, Nat.le_refl _⟩ (fun Iz1 Rz1 hz1 => ?_)
  obtain ⟨qhz1, r1, f1⟩ := hz1
  obtain rfl := qhz1.symm
  refine rk_aload_n 0 dX9_copyFrom_11 rfl rfl ?_
  refine rk_pc (pc' := 12) rfl ?_
  refine rk_g10_1 rk_kX9_21 dX9_copyFrom_12 ?_
  refine rk_aload_n 1 dX9_copyFrom_15 rfl rfl ?_
  refine rk_g10_1 rk_kX9_21 dX9_copyFrom_16 ?_
  refine rk_cVv (cX7_copyFrom_s (r := 4 * t + 2) (rp := 4 * t2 + 2) hs.2.2.1 (k3.fr f1 (by omega) hc hc2) (by omega) hc hc2) rk_eX7_copyFrom rfl ⟨rfl, rfl⟩ rk_kX9_36 dX9_copyFrom_19 rfl (by decide) (Nat.le_of_ble_eq_true rfl) ⟨Nat.le_refl _, Nat.le_refl _⟩ (fun Iz2 Rz2 hz2 => ?_)
  obtain ⟨qhz2, s2, f2⟩ := hz2
  obtain rfl := qhz2.symm
  refine rk_aload_n 0 dX9_copyFrom_22 rfl rfl ?_
  refine rk_g10_2 rk_kX9_28 dX9_copyFrom_23 ?_
  refine rk_pc (pc' := 26) rfl ?_
  refine rk_aload_n 1 dX9_copyFrom_26 rfl rfl ?_
  refine rk_g10_2 rk_kX9_28 dX9_copyFrom_27 ?_
  refine rk_cVv (cX0_copyFrom_s (r := 4 * t + 3) (rp := 4 * t2 + 3) hs.2.2.2 k1.2.2.2 ((k4.fr k1.2.2.2 f1 (by omega) hb hb2).fr k1.2.2.2 f2 (by omega) hb hb2) (by omega) hb hb2) rk_eX0_copyFrom rfl ⟨rfl, rfl⟩ rk_kX9_39 dX9_copyFrom_30 rfl (by decide) (Nat.le_of_ble_eq_true rfl) ⟨Nat.le_refl _, Nat.le_refl _⟩ (fun Iz3 Rz3 hz3 => ?_)
  obtain ⟨qhz3, b3, f3⟩ := hz3
  obtain rfl := qhz3.symm
  have e10 : Iz3 10 y2 = I 10 y2 := (f3.1 10 y2 (by rw [e0]; omega)).trans ((f2.1 10 y2 (by rw [e0]; omega)).trans (f1.1 10 y2 (by rw [e0]; omega)))
  refine rk_aload_n 0 dX9_copyFrom_33 rfl rfl ?_
  refine rk_aload_n 1 dX9_copyFrom_34 rfl rfl ?_
  refine rk_g10_3 rk_kX9_42 dX9_copyFrom_35 ?_
  rw [e10, y3]
  refine rk_pc (pc' := 38) rfl ?_
  refine rk_p10_3 rk_kX9_42 dX9_copyFrom_38 (fun Iz4 eIz4 => ?_)
  refine rk_aload_n 0 dX9_copyFrom_41 rfl rfl ?_
  refine rk_aload_n 1 dX9_copyFrom_42 rfl rfl ?_
  refine rk_g10_4 rk_kX9_46 dX9_copyFrom_43 ?_
  rw [rk_ufi eIz4 (by decide), e10, y4]
  refine rk_p10_4 rk_kX9_46 dX9_copyFrom_46 (fun Iz5 eIz5 => ?_)
  refine rk_aload_n 0 dX9_copyFrom_49 rfl rfl ?_
  refine rk_pc (pc' := 50) rfl ?_
  refine rk_aload_n 1 dX9_copyFrom_50 rfl rfl ?_
  refine rk_g10_5 rk_kX9_49 dX9_copyFrom_51 ?_
  rw [rk_ufi eIz5 (by decide), rk_ufi eIz4 (by decide), e10, y5]
  refine rk_p10_5 rk_kX9_49 dX9_copyFrom_54 (fun Iz6 eIz6 => ?_)
  refine rk_aload_n 0 dX9_copyFrom_57 rfl rfl ?_
  refine rk_aload_n 1 dX9_copyFrom_58 rfl rfl ?_
  refine rk_g10_6 rk_kX9_52 dX9_copyFrom_59 ?_
  rw [rk_ufi eIz6 (by decide), rk_ufi eIz5 (by decide), rk_ufi eIz4 (by decide), e10, y6]
  refine rk_pc (pc' := 62) rfl ?_
  refine rk_p10_6 rk_kX9_52 dX9_copyFrom_62 (fun Iz7 eIz7 => ?_)
  refine rk_aload_n 0 dX9_copyFrom_65 rfl rfl ?_
  refine rk_aload_n 1 dX9_copyFrom_66 rfl rfl ?_
  refine rk_g10_7 rk_kX9_55 dX9_copyFrom_67 ?_
  rw [rk_ufi eIz7 (by decide), rk_ufi eIz6 (by decide), rk_ufi eIz5 (by decide), rk_ufi eIz4 (by decide), e10, y7]
  refine rk_p10_7 rk_kX9_55 dX9_copyFrom_70 (fun Iz8 eIz8 => ?_)
  refine rk_vretU dX9_copyFrom_73 rfl ?_
  have f4 : cl_fr rg (fun z => z = 4 * t) Iz3 R Iz8 R := by
    have g4 : cl_fr rg (fun z => z = 4 * t) Iz3 R Iz4 R := by rw [eIz4]; exact cl_fr.ui hs.1
    have g5 : cl_fr rg (fun z => z = 4 * t) Iz4 R Iz5 R := by rw [eIz5]; exact cl_fr.ui hs.1
    have g6 : cl_fr rg (fun z => z = 4 * t) Iz5 R Iz6 R := by rw [eIz6]; exact cl_fr.ui hs.1
    have g7 : cl_fr rg (fun z => z = 4 * t) Iz6 R Iz7 R := by rw [eIz7]; exact cl_fr.ui hs.1
    have g8 : cl_fr rg (fun z => z = 4 * t) Iz7 R Iz8 R := by rw [eIz8]; exact cl_fr.ui hs.1
    exact (((g4.tr g5).tr g6).tr g7).tr g8
  refine ⟨rfl, ⟨hs, ?_, ?_, ?_, ?_⟩, ?_⟩
  · exact ((r1.fr hs.2.1 f2 (by omega)).fr hs.2.1 f3 (by omega)).fr hs.2.1 f4 (by omega)
  · exact (s2.fr f3 (by omega) hc hc2).fr f4 (by omega) hc hc2
  · exact b3.fr hs.2.2.2 f4 (by omega) hb hb2
  · refine ⟨?_, ?_, ?_, ?_, ?_, y8⟩
    · rw [rk_ufi eIz8 (by decide), rk_ufi eIz7 (by decide), rk_ufi eIz6 (by decide), rk_ufi eIz5 (by decide), rk_ufs eIz4]
    · rw [rk_ufi eIz8 (by decide), rk_ufi eIz7 (by decide), rk_ufi eIz6 (by decide), rk_ufs eIz5]
    · rw [rk_ufi eIz8 (by decide), rk_ufi eIz7 (by decide), rk_ufs eIz6]
    · rw [rk_ufi eIz8 (by decide), rk_ufs eIz7]
    · rw [rk_ufs eIz8]
  · exact (((f1.mo (fun z hz => by omega)).tr (f2.mo (fun z hz => by omega))).tr (f3.mo (fun z hz => by omega))).tr (f4.mo (fun z hz => by omega))
/-! the fewest pieces that are joined -/
theorem nI_and (a b : Nat) : nI a &&& nI b = nI (a &&& b) := Int32.toBitVec_inj.mp (BitVec.ofNat_and (w := 32) (x := a) (y := b)).symm
theorem nI_or (a b : Nat) : nI a ||| nI b = nI (a ||| b) := Int32.toBitVec_inj.mp (BitVec.ofNat_or (w := 32) (x := a) (y := b)).symm
theorem nI_shl1 : ∀ i, i < 31 → (1 : Int32) <<< (nI i &&& 31) = nI (2 ^ i) := by decide +kernel
theorem nI_bit {s i : Nat} (hs : s < 2 ^ 24) (hi : i < 24) : (nI s &&& (1 : Int32) <<< (nI i &&& 31) = 0) ↔ s.testBit i = false := by
  rw [nI_shl1 i (by omega), nI_and]
  have hlt : s &&& 2 ^ i < 2 ^ 24 := Nat.lt_of_le_of_lt Nat.and_le_left hs
  constructor
  · intro z
    have h0 : s &&& 2 ^ i = 0 := (nI_eq (by omega) (by decide)).mp (z.trans nI_0.symm)
    have h1 := congrArg (fun n => Nat.testBit n i) h0
    simpa [Nat.testBit_and, Nat.testBit_two_pow_self] using h1
  · intro z
    have h0 : s &&& 2 ^ i = 0 := by
      apply Nat.eq_of_testBit_eq
      intro j
      rw [Nat.testBit_and, Nat.testBit_two_pow, Nat.zero_testBit]
      by_cases hij : i = j
      · subst hij; rw [z]; rfl
      · simp [hij]
    rw [h0, nI_0]
theorem nI_set {s q : Nat} (hs : s < 2 ^ 24) (hq : q < 24) : nI s ||| (1 : Int32) <<< (nI q &&& 31) = nI (s ||| 2 ^ q) ∧ s ||| 2 ^ q < 2 ^ 24 := by
  rw [nI_shl1 q (by omega), nI_or]
  exact ⟨rfl, Nat.or_lt_two_pow hs (Nat.pow_lt_pow_right (by decide) hq)⟩
/-- the longest piece like p that is not used yet, of the first k -/
noncomputable def sp_ll (N U : Nat → Int32) (p : Nat) : Nat → Int32
  | 0 => -6
  | k + 1 => @ite _ ((U k = 0 ∧ sp_lk N k p) ∧ (sp_ll N U p k < 0 ∨ N (50 + 7 * (sp_ll N U p k).toNatClampNeg + 3) < N (50 + 7 * k + 3))) (Classical.propDecidable _) (nI k) (sp_ll N U p k)
theorem sp_ll_in {U : Nat → Int32} {p : Nat} (hp : N 4 < N (50 + 7 * p + 3)) : ∀ k, k ≤ 24 → (sp_ll N U p k = -6 ∧ sp_nx N U p k = -6) ∨ ∃ q, q < k ∧ sp_ll N U p k = nI q ∧ U q = 0 ∧ (N 4 < N (50 + 7 * q + 3) → sp_nx N U p k = nI q) ∧ (¬ N 4 < N (50 + 7 * q + 3) → sp_nx N U p k = -6) := by
  intro k
  induction k with
  | zero => intro _; exact Or.inl ⟨rfl, rfl⟩
  | succ k ih =>
    intro hk
    have n6 : (-6 : Int32) < 0 := rk_n6
    by_cases h1 : U k = 0 ∧ sp_lk N k p
    · have hcan : N 4 < N (50 + 7 * k + 3) → sp_can2 N U p k := fun z => ⟨h1.1, z, hp, h1.2.1, h1.2.2.1, h1.2.2.2⟩
      rcases ih (by omega) with ⟨e1, e2⟩ | ⟨q, hq, e1, hu, e2, e3⟩
      · refine Or.inr ⟨k, by omega, if_pos ⟨h1, Or.inl (by rw [e1]; exact n6)⟩, h1.1, fun z => if_pos ⟨hcan z, Or.inl (by rw [e2]; exact n6)⟩, fun z => (if_neg (fun y => z y.1.2.1)).trans e2⟩
      · have hcq : (sp_ll N U p k).toNatClampNeg = q := by rw [e1]; exact nI_clamp (by omega)
        have hnn : ¬ sp_ll N U p k < 0 := by rw [e1]; exact nI_pos (by omega)
        by_cases h2 : N (50 + 7 * q + 3) < N (50 + 7 * k + 3)
        · refine Or.inr ⟨k, by omega, if_pos ⟨h1, Or.inr (by rw [hcq]; exact h2)⟩, h1.1, fun z => ?_, fun z => ?_⟩
          · refine if_pos ⟨hcan z, ?_⟩
            by_cases h3 : N 4 < N (50 + 7 * q + 3)
            · refine Or.inr ?_
              rw [e2 h3, nI_clamp (by omega)]; exact h2
            · exact Or.inl (by rw [e3 h3]; exact n6)
          · refine (if_neg (fun y => z y.1.2.1)).trans (e3 (fun y => z (Int32.lt_trans y h2)))
        · refine Or.inr ⟨q, by omega, (if_neg (fun z => z.2.elim hnn (fun y => h2 (by rw [hcq] at y; exact y)))).trans e1, hu, fun z => ?_, fun z => ?_⟩
          · refine (if_neg (fun y => ?_)).trans (e2 z)
            have y2 := y.2
            rw [e2 z, nI_clamp (by omega)] at y2
            exact y2.elim (nI_pos (by omega)) h2
          · refine (if_neg (fun y => ?_)).trans (e3 z)
            exact z (Int32.lt_of_lt_of_le y.1.2.1 (Int32.not_lt.mp h2))
    · rcases ih (by omega) with ⟨e1, e2⟩ | ⟨q, hq, e1, hu, e2, e3⟩
      · exact Or.inl ⟨(if_neg (fun z => h1 z.1)).trans e1, (if_neg (fun z => h1 ⟨z.1.1, z.1.2.2.2⟩)).trans e2⟩
      · exact Or.inr ⟨q, by omega, (if_neg (fun z => h1 z.1)).trans e1, hu, fun z => (if_neg (fun y => h1 ⟨y.1.1, y.1.2.2.2⟩)).trans (e2 z), fun z => (if_neg (fun y => h1 ⟨y.1.1, y.1.2.2.2⟩)).trans (e3 z)⟩
theorem sp_z_all {U : Nat → Int32} {p : Nat} : ∀ k, sp_z U k = 0 → sp_nx N U p k = -6 := by
  intro k
  induction k with
  | zero => intro _; rfl
  | succ k ih =>
    intro h
    simp only [sp_z] at h
    have hk : ¬ U k = 0 := fun z => by rw [if_pos z] at h; omega
    exact (if_neg (fun y => hk y.1.1)).trans (ih (by omega))
theorem cX7_longestLike_l {q p c s : Nat} {U : Nat → Int32} (hsp : cl_sp I R q N) (hc : N 12 = nI c) (hc2 : c ≤ 24) (hp : p < c) (h4 : N 4 < N (50 + 7 * p + 3)) (hs : s < 2 ^ 24) (hU : ∀ k, k < 24 → (U k = 0 ↔ s.testBit k = false)) : ∀ n k : Nat, k + n = c → rk_Wp w l rk_mX7_longestLike 2 0 0 (rk_GP w Sh I R (sp_ll N U p c)) 6 [(0, rk_a 8 q), (1, rk_a 5 (R 20 (R 8 q 0) p)), (2, rk_i (nI s)), (3, rk_i (sp_ll N U p k)), (4, rk_i (nI k))] [] (Sh, 0, 0) I R := by
  have hcc : sp_c N 12 = c := sp_cN hc (by omega)
  have h8 : I 8 q 1 = nI c := hsp.1.trans hc
  intro n
  induction n with
  | zero =>
    intro k hk
    obtain rfl : k = c := by omega
    refine rk_iload dX7_longestLike_6 rfl ?_
    refine rk_aload_n 0 dX7_longestLike_8 rfl rfl ?_
    refine rk_g8_1 rk_kX7_23 dX7_longestLike_9 ?_
    rw [h8]
    refine rk_icmp_ge 85 dX7_longestLike_12 (by decide) (fun qz12 => ?_) (fun qz12 => ?_)
    · skip
      refine rk_iload_n 3 dX7_longestLike_85 rfl rfl ?_
      refine rk_iretP dX7_longestLike_86 rfl rfl ?_
      rfl
    · skip
      exact absurd (nI_le (Nat.le_refl k) (by omega)) qz12
  | succ n ih =>
    intro k hk
    have hnge : ¬ nI c ≤ nI k := nI_ge (by omega) (by omega)
    have hPk := hsp.2 k (by omega)
    have hPp := hsp.2 p (by omega)
    have hfree := (nI_bit hs (show k < 24 by omega)).trans (hU k (by omega)).symm
    have hlk : rk_P w l rk_mX4_isLike 1 [rk_a 5 (R 20 (R 8 q 0) k), rk_a 5 (R 20 (R 8 q 0) p)] Sh I R (sp_b (sp_lk N k p)) := by
      have g := cX4_isLike_s (w := w) (l := l) (Sh := Sh) (I := I) (R := R) (R 20 (R 8 q 0) k) (R 20 (R 8 q 0) p)
      rw [hPk 0 (by decide), hPk 1 (by decide), hPk 2 (by decide), hPp 0 (by decide), hPp 1 (by decide), hPp 2 (by decide)] at g
      exact g
    have hno : ¬ (U k = 0 ∧ sp_lk N k p) → sp_ll N U p (k + 1) = sp_ll N U p k := fun z => if_neg (fun y => z y.1)
    rcases sp_ll_in (N := N) (U := U) (p := p) h4 k (by omega) with ⟨hb, -⟩ | ⟨b, hbk, hb, -⟩
    · have hlt : sp_ll N U p k < 0 := by rw [hb]; exact rk_n6
      have hyes : (U k = 0 ∧ sp_lk N k p) → sp_ll N U p (k + 1) = nI k := fun z => if_pos ⟨z, Or.inl hlt⟩
      refine rk_iload dX7_longestLike_6 rfl ?_
      refine rk_aload_n 0 dX7_longestLike_8 rfl rfl ?_
      refine rk_g8_1 rk_kX7_23 dX7_longestLike_9 ?_
      rw [h8]
      refine rk_icmp_ge 85 dX7_longestLike_12 (by decide) (fun qz12 => ?_) (fun qz12 => ?_)
      · skip
        exact absurd qz12 hnge
      · skip
        refine rk_iload_n 2 dX7_longestLike_15 rfl rfl ?_
        refine rk_iconst 1 dX7_longestLike_16 (by decide) ?_
        refine rk_iload dX7_longestLike_17 rfl ?_
        refine rk_pc (pc' := 19) rfl ?_
        refine rk_ishl dX7_longestLike_19 ?_
        refine rk_iand dX7_longestLike_20 ?_
        refine rk_if_ne 28 dX7_longestLike_21 (by decide) (fun qz21 => ?_) (fun qz21 => ?_)
        · skip
          refine rk_iconst 0 dX7_longestLike_28 (by decide) ?_
          refine rk_istore (ls' := [(5, _), (0, _), (1, _), (2, _), (3, _), (4, _)]) dX7_longestLike_29 (by decide) rfl ?_
          refine rk_iload dX7_longestLike_31 rfl ?_
          refine rk_if_eq 79 dX7_longestLike_33 (by decide) (fun qz33 => ?_) (fun qz33 => ?_)
          · skip
            refine rk_iinc 1 (ls' := [(4, _), (5, _), (0, _), (1, _), (2, _), (3, _)]) dX7_longestLike_79 (by decide) rfl (by decide) rfl ?_
            refine rk_pc (pc' := 82) rfl ?_
            refine rk_goto 6 dX7_longestLike_82 (by decide) ?_
            refine rk_ord [0, 1, 2, 3, 4] (ls' := [(0, _), (1, _), (2, _), (3, _), (4, _)]) rfl ?_
            rw [nI_1]
            first | (rw [← hyes ⟨hfree.mp (Classical.byContradiction qz21), sp_bt qz47⟩]; exact ih (k + 1) (by omega)) | (rw [← hyes ⟨hfree.mp qz21, sp_bt qz47⟩]; exact ih (k + 1) (by omega)) | (rw [← hno (fun z => sp_bf qz47 z.2)]; exact ih (k + 1) (by omega)) | (rw [← hno (fun z => qz21 (hfree.mpr z.1))]; exact ih (k + 1) (by omega))
          · skip
            exact absurd qz33 (by decide)
        · skip
          refine rk_iconst 1 dX7_longestLike_24 (by decide) ?_
          refine rk_goto 29 dX7_longestLike_25 (by decide) ?_
          refine rk_istore (ls' := [(5, _), (0, _), (1, _), (2, _), (3, _), (4, _)]) dX7_longestLike_29 (by decide) rfl ?_
          refine rk_iload dX7_longestLike_31 rfl ?_
          refine rk_if_eq 79 dX7_longestLike_33 (by decide) (fun qz33 => ?_) (fun qz33 => ?_)
          · skip
            exact absurd qz33 (by decide)
          · skip
            refine rk_aload_n 0 dX7_longestLike_36 rfl rfl ?_
            refine rk_pc (pc' := 37) rfl ?_
            refine rk_g8_0 rk_kX7_11 dX7_longestLike_37 ?_
            refine rk_iload dX7_longestLike_40 rfl ?_
            refine rk_rn20 (k) dX7_longestLike_42 (by first | rfl | decide | assumption | (simp only [rk_lit, nI_add, pk_mul, nI_1]; done) | (simp only [rk_lit, nI_add, pk_mul, nI_1]; congr 1; omega)) (by first | decide | assumption | omega) ?_
            refine rk_aload_n 1 dX7_longestLike_43 rfl rfl ?_
            refine rk_cVp (hlk) rk_eX4_isLike rfl ⟨rfl, rfl⟩ rk_kX7_117 dX7_longestLike_44 rfl (by decide) (Nat.le_of_ble_eq_true rfl) ⟨Nat.le_refl _, Nat.le_refl _⟩ ?_
            refine rk_if_eq 79 dX7_longestLike_47 (by decide) (fun qz47 => ?_) (fun qz47 => ?_)
            · skip
              refine rk_iinc 1 (ls' := [(4, _), (5, _), (0, _), (1, _), (2, _), (3, _)]) dX7_longestLike_79 (by decide) rfl (by decide) rfl ?_
              refine rk_pc (pc' := 82) rfl ?_
              refine rk_goto 6 dX7_longestLike_82 (by decide) ?_
              refine rk_ord [0, 1, 2, 3, 4] (ls' := [(0, _), (1, _), (2, _), (3, _), (4, _)]) rfl ?_
              rw [nI_1]
              first | (rw [← hyes ⟨hfree.mp (Classical.byContradiction qz21), sp_bt qz47⟩]; exact ih (k + 1) (by omega)) | (rw [← hyes ⟨hfree.mp qz21, sp_bt qz47⟩]; exact ih (k + 1) (by omega)) | (rw [← hno (fun z => sp_bf qz47 z.2)]; exact ih (k + 1) (by omega)) | (rw [← hno (fun z => qz21 (hfree.mpr z.1))]; exact ih (k + 1) (by omega))
            · skip
              refine rk_iload_n 3 dX7_longestLike_50 rfl rfl ?_
              refine rk_if_lt 76 dX7_longestLike_51 (by decide) (fun qz51 => ?_) (fun qz51 => ?_)
              · skip
                refine rk_iload dX7_longestLike_76 rfl ?_
                refine rk_istore_n 3 (ls' := [(3, _), (5, _), (0, _), (1, _), (2, _), (4, _)]) dX7_longestLike_78 rfl (by decide) rfl ?_
                refine rk_iinc 1 (ls' := [(4, _), (3, _), (5, _), (0, _), (1, _), (2, _)]) dX7_longestLike_79 (by decide) rfl (by decide) rfl ?_
                refine rk_goto 6 dX7_longestLike_82 (by decide) ?_
                refine rk_pc (pc' := 6) rfl ?_
                refine rk_ord [0, 1, 2, 3, 4] (ls' := [(0, _), (1, _), (2, _), (3, _), (4, _)]) rfl ?_
                rw [nI_1]
                first | (rw [← hyes ⟨hfree.mp (Classical.byContradiction qz21), sp_bt qz47⟩]; exact ih (k + 1) (by omega)) | (rw [← hyes ⟨hfree.mp qz21, sp_bt qz47⟩]; exact ih (k + 1) (by omega)) | (rw [← hno (fun z => sp_bf qz47 z.2)]; exact ih (k + 1) (by omega)) | (rw [← hno (fun z => qz21 (hfree.mpr z.1))]; exact ih (k + 1) (by omega))
              · skip
                exact absurd hlt qz51
    · have hcl : (sp_ll N U p k).toNatClampNeg = b := by rw [hb]; exact nI_clamp (by omega)
      have hnl : ¬ sp_ll N U p k < 0 := by rw [hb]; exact nI_pos (by omega)
      have hPb := hsp.2 b (by omega)
      have hyes : (U k = 0 ∧ sp_lk N k p) → N (50 + 7 * b + 3) < N (50 + 7 * k + 3) → sp_ll N U p (k + 1) = nI k := fun z z2 => if_pos ⟨z, Or.inr (by rw [hcl]; exact z2)⟩
      have hno2 : ¬ N (50 + 7 * b + 3) < N (50 + 7 * k + 3) → sp_ll N U p (k + 1) = sp_ll N U p k := fun z => if_neg (fun y => y.2.elim hnl (fun y => z (by rw [hcl] at y; exact y)))
      refine rk_iload dX7_longestLike_6 rfl ?_
      refine rk_aload_n 0 dX7_longestLike_8 rfl rfl ?_
      refine rk_g8_1 rk_kX7_23 dX7_longestLike_9 ?_
      rw [h8]
      refine rk_icmp_ge 85 dX7_longestLike_12 (by decide) (fun qz12 => ?_) (fun qz12 => ?_)
      · skip
        exact absurd qz12 hnge
      · skip
        refine rk_iload_n 2 dX7_longestLike_15 rfl rfl ?_
        refine rk_iconst 1 dX7_longestLike_16 (by decide) ?_
        refine rk_iload dX7_longestLike_17 rfl ?_
        refine rk_pc (pc' := 19) rfl ?_
        refine rk_ishl dX7_longestLike_19 ?_
        refine rk_iand dX7_longestLike_20 ?_
        refine rk_if_ne 28 dX7_longestLike_21 (by decide) (fun qz21 => ?_) (fun qz21 => ?_)
        · skip
          refine rk_iconst 0 dX7_longestLike_28 (by decide) ?_
          refine rk_istore (ls' := [(5, _), (0, _), (1, _), (2, _), (3, _), (4, _)]) dX7_longestLike_29 (by decide) rfl ?_
          refine rk_iload dX7_longestLike_31 rfl ?_
          refine rk_if_eq 79 dX7_longestLike_33 (by decide) (fun qz33 => ?_) (fun qz33 => ?_)
          · skip
            refine rk_iinc 1 (ls' := [(4, _), (5, _), (0, _), (1, _), (2, _), (3, _)]) dX7_longestLike_79 (by decide) rfl (by decide) rfl ?_
            refine rk_pc (pc' := 82) rfl ?_
            refine rk_goto 6 dX7_longestLike_82 (by decide) ?_
            refine rk_ord [0, 1, 2, 3, 4] (ls' := [(0, _), (1, _), (2, _), (3, _), (4, _)]) rfl ?_
            rw [nI_1]
            first | (rw [← hyes ⟨hfree.mp qz21, sp_bt qz47⟩ (Int32.not_le.mp qz73)]; exact ih (k + 1) (by omega)) | (rw [← hno2 (Int32.not_lt.mpr qz73)]; exact ih (k + 1) (by omega)) | (rw [← hno (fun z => sp_bf qz47 z.2)]; exact ih (k + 1) (by omega)) | (rw [← hno (fun z => qz21 (hfree.mpr z.1))]; exact ih (k + 1) (by omega))
          · skip
            exact absurd qz33 (by decide)
        · skip
          refine rk_iconst 1 dX7_longestLike_24 (by decide) ?_
          refine rk_goto 29 dX7_longestLike_25 (by decide) ?_
          refine rk_istore (ls' := [(5, _), (0, _), (1, _), (2, _), (3, _), (4, _)]) dX7_longestLike_29 (by decide) rfl ?_
          refine rk_iload dX7_longestLike_31 rfl ?_
          refine rk_if_eq 79 dX7_longestLike_33 (by decide) (fun qz33 => ?_) (fun qz33 => ?_)
          · skip
            exact absurd qz33 (by decide)
          · skip
            refine rk_aload_n 0 dX7_longestLike_36 rfl rfl ?_
            refine rk_pc (pc' := 37) rfl ?_
            refine rk_g8_0 rk_kX7_11 dX7_longestLike_37 ?_
            refine rk_iload dX7_longestLike_40 rfl ?_
            refine rk_rn20 (k) dX7_longestLike_42 (by first | rfl | decide | assumption | (simp only [rk_lit, nI_add, pk_mul, nI_1]; done) | (simp only [rk_lit, nI_add, pk_mul, nI_1]; congr 1; omega)) (by first | decide | assumption | omega) ?_
            refine rk_aload_n 1 dX7_longestLike_43 rfl rfl ?_
            refine rk_cVp (hlk) rk_eX4_isLike rfl ⟨rfl, rfl⟩ rk_kX7_117 dX7_longestLike_44 rfl (by decide) (Nat.le_of_ble_eq_true rfl) ⟨Nat.le_refl _, Nat.le_refl _⟩ ?_
            refine rk_if_eq 79 dX7_longestLike_47 (by decide) (fun qz47 => ?_) (fun qz47 => ?_)
            · skip
              refine rk_iinc 1 (ls' := [(4, _), (5, _), (0, _), (1, _), (2, _), (3, _)]) dX7_longestLike_79 (by decide) rfl (by decide) rfl ?_
              refine rk_pc (pc' := 82) rfl ?_
              refine rk_goto 6 dX7_longestLike_82 (by decide) ?_
              refine rk_ord [0, 1, 2, 3, 4] (ls' := [(0, _), (1, _), (2, _), (3, _), (4, _)]) rfl ?_
              rw [nI_1]
              first | (rw [← hyes ⟨hfree.mp qz21, sp_bt qz47⟩ (Int32.not_le.mp qz73)]; exact ih (k + 1) (by omega)) | (rw [← hno2 (Int32.not_lt.mpr qz73)]; exact ih (k + 1) (by omega)) | (rw [← hno (fun z => sp_bf qz47 z.2)]; exact ih (k + 1) (by omega)) | (rw [← hno (fun z => qz21 (hfree.mpr z.1))]; exact ih (k + 1) (by omega))
            · skip
              refine rk_iload_n 3 dX7_longestLike_50 rfl rfl ?_
              refine rk_if_lt 76 dX7_longestLike_51 (by decide) (fun qz51 => ?_) (fun qz51 => ?_)
              · skip
                exact absurd qz51 hnl
              · skip
                refine rk_aload_n 0 dX7_longestLike_54 rfl rfl ?_
                refine rk_g8_0 rk_kX7_11 dX7_longestLike_55 ?_
                refine rk_iload dX7_longestLike_58 rfl ?_
                refine rk_rn20 (k) dX7_longestLike_60 (by first | rfl | decide | assumption | (simp only [rk_lit, nI_add, pk_mul, nI_1]; done) | (simp only [rk_lit, nI_add, pk_mul, nI_1]; congr 1; omega)) (by first | decide | assumption | omega) ?_
                refine rk_pc (pc' := 61) rfl ?_
                refine rk_g5_3 rk_kX7_50 dX7_longestLike_61 ?_
                rw [hPk 3 (by decide)]
                refine rk_aload_n 0 dX7_longestLike_64 rfl rfl ?_
                refine rk_g8_0 rk_kX7_11 dX7_longestLike_65 ?_
                refine rk_iload_n 3 dX7_longestLike_68 rfl rfl ?_
                refine rk_rn20 (b) dX7_longestLike_69 (by first | rfl | decide | assumption | (simp only [rk_lit, nI_add, pk_mul, nI_1]; done) | (simp only [rk_lit, nI_add, pk_mul, nI_1]; congr 1; omega)) (by first | decide | assumption | omega) ?_
                refine rk_g5_3 rk_kX7_50 dX7_longestLike_70 ?_
                rw [hPb 3 (by decide)]
                refine rk_pc (pc' := 73) rfl ?_
                refine rk_icmp_le 79 dX7_longestLike_73 (by decide) (fun qz73 => ?_) (fun qz73 => ?_)
                · skip
                  refine rk_iinc 1 (ls' := [(4, _), (5, _), (0, _), (1, _), (2, _), (3, _)]) dX7_longestLike_79 (by decide) rfl (by decide) rfl ?_
                  refine rk_goto 6 dX7_longestLike_82 (by decide) ?_
                  refine rk_ord [0, 1, 2, 3, 4] (ls' := [(0, _), (1, _), (2, _), (3, _), (4, _)]) rfl ?_
                  rw [nI_1]
                  first | (rw [← hyes ⟨hfree.mp qz21, sp_bt qz47⟩ (Int32.not_le.mp qz73)]; exact ih (k + 1) (by omega)) | (rw [← hno2 (Int32.not_lt.mpr qz73)]; exact ih (k + 1) (by omega)) | (rw [← hno (fun z => sp_bf qz47 z.2)]; exact ih (k + 1) (by omega)) | (rw [← hno (fun z => qz21 (hfree.mpr z.1))]; exact ih (k + 1) (by omega))
                · skip
                  refine rk_iload dX7_longestLike_76 rfl ?_
                  refine rk_istore_n 3 (ls' := [(3, _), (5, _), (0, _), (1, _), (2, _), (4, _)]) dX7_longestLike_78 rfl (by decide) rfl ?_
                  refine rk_iinc 1 (ls' := [(4, _), (3, _), (5, _), (0, _), (1, _), (2, _)]) dX7_longestLike_79 (by decide) rfl (by decide) rfl ?_
                  refine rk_goto 6 dX7_longestLike_82 (by decide) ?_
                  refine rk_pc (pc' := 6) rfl ?_
                  refine rk_ord [0, 1, 2, 3, 4] (ls' := [(0, _), (1, _), (2, _), (3, _), (4, _)]) rfl ?_
                  rw [nI_1]
                  first | (rw [← hyes ⟨hfree.mp qz21, sp_bt qz47⟩ (Int32.not_le.mp qz73)]; exact ih (k + 1) (by omega)) | (rw [← hno2 (Int32.not_lt.mpr qz73)]; exact ih (k + 1) (by omega)) | (rw [← hno (fun z => sp_bf qz47 z.2)]; exact ih (k + 1) (by omega)) | (rw [← hno (fun z => qz21 (hfree.mpr z.1))]; exact ih (k + 1) (by omega))
theorem cX7_longestLike_s {q p c s : Nat} {U : Nat → Int32} (hsp : cl_sp I R q N) (hc : N 12 = nI c) (hc2 : c ≤ 24) (hp : p < c) (h4 : N 4 < N (50 + 7 * p + 3)) (hs : s < 2 ^ 24) (hU : ∀ k, k < 24 → (U k = 0 ↔ s.testBit k = false)) : rk_P w l rk_mX7_longestLike 2 [rk_a 8 q, rk_a 5 (R 20 (R 8 q 0) p), rk_i (nI s)] Sh I R (sp_ll N U p c) := by
  refine rk_bP (ls := [(0, _), (1, _), (2, _)]) (by decide) rfl (Nat.le_of_ble_eq_true rfl) ?_
  refine rk_bipush (-6) dX7_longestLike_0 (by decide) ?_
  refine rk_istore_n 3 (ls' := [(3, _), (0, _), (1, _), (2, _)]) dX7_longestLike_2 rfl (by decide) rfl ?_
  refine rk_iconst 0 dX7_longestLike_3 (by decide) ?_
  refine rk_istore (ls' := [(4, _), (3, _), (0, _), (1, _), (2, _)]) dX7_longestLike_4 (by decide) rfl ?_
  refine rk_ord [0, 1, 2, 3, 4] (ls' := [(0, _), (1, _), (2, _), (3, _), (4, _)]) rfl ?_
  exact cX7_longestLike_l hsp hc hc2 hp h4 hs hU c 0 (by omega)
end CX

