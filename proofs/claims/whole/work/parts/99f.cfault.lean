section DN
variable {w : rk_W} {l : Launch} {Sh : rk_Sh} {I : rk_Mm} {R : rk_Rm}
/-- the next job from a place on -/
noncomputable def cj (P : Nat → Int32) (L t mn : Nat) (J : Nat → Int32) : (Nat × Bool) × Nat × (Nat → Int32) := if t = 0 then pr P L 0 mn J else if (pn P L 59 (t, false)).2 = true then (pn P L 59 (t, false), mn, J) else pr P L (pn P L 59 (t, false)).1 mn J
def cr_j (I : rk_Mm) (r a mn : Nat) (X : (Nat × Bool) × Nat × (Nat → Int32)) (x : Int32) (I' : rk_Mm) : Prop := ∃ kd fd A, x = (if X.1.2 = true then 0 else 1) ∧ I' = rd_st I r a (nI X.1.1) kd fd A ∧ (X.1.2 = false → pk6 kd ∧ X.2.2 (5 * mn) = kd ∧ ∀ j, j < cr_n (cr_tx kd) → A j = X.2.2 (5 * mn + 1 + j))
theorem cX5_nextJob_s {r t L : Nat} {kd fd : Int32} {A : Nat → Int32} (hl : I 4 (R 6 r 0) 1 = nI L) (hL : L ≤ 80) (ht : t ≤ L) (mn : Nat) (J : Nat → Int32) : rk_J w l rk_mX5_nextJob 5 [rk_a 6 r] Sh (rd_st I r (R 6 r 3) (nI t) kd fd A) R (fun x I' R' => R' = R ∧ cr_j I r (R 6 r 3) mn (cj (I 15 (R 4 (R 6 r 0) 0)) L t mn J) x I') := by
  have h4 : rd_st I r (R 6 r 3) (nI t) kd fd A 4 (R 6 r 0) 1 = nI L := by rw [rd_rc (by decide) (by decide)]; exact hl
  have h15 : rd_st I r (R 6 r 3) (nI t) kd fd A 15 (R 4 (R 6 r 0) 0) = I 15 (R 4 (R 6 r 0) 0) := rd_rc (by decide) (by decide)
  by_cases h0 : t = 0
  · subst h0
    rw [show cj (I 15 (R 4 (R 6 r 0) 0)) L 0 mn J = pr (I 15 (R 4 (R 6 r 0) 0)) L 0 mn J from if_pos rfl]
    refine rk_bJ (ls := [(0, _)]) (by decide) rfl (Nat.le_of_ble_eq_true rfl) ?_
    refine rk_aload_n 0 dX5_nextJob_0 rfl rfl ?_
    refine rk_g6_1 rk_kX5_22 dX5_nextJob_1 ?_
    rw [rd_r1]
    refine rk_if_le 18 dX5_nextJob_4 (by decide) (fun qz4 => ?_) (fun qz4 => ?_)
    · skip
      exact cX5_nextJob_m hl hL (Nat.zero_le _) (fun kd' fd' A' h => ⟨rfl, kd', fd', A', rfl, rfl, h⟩)
    · skip
      exact absurd (Int32.le_refl _) qz4
  · have hnp : ¬ nI t ≤ 0 := fun z => h0 (Nat.le_zero.mp ((nI_leI (b := 0) (by omega) (by decide)).mp z))
    have e1 : pg (I 15 (R 4 (R 6 r 0) 0)) L t = 59 → cj (I 15 (R 4 (R 6 r 0) 0)) L t mn J = pr (I 15 (R 4 (R 6 r 0) 0)) L (t + 1) mn J := fun h => by
      have e : pn (I 15 (R 4 (R 6 r 0) 0)) L 59 (t, false) = (t + 1, false) := if_pos ⟨rfl, h⟩
      unfold cj
      rw [if_neg h0, e, if_neg (by show ¬ false = true; decide)]
    have e2 : ¬ pg (I 15 (R 4 (R 6 r 0) 0)) L t = 59 → cj (I 15 (R 4 (R 6 r 0) 0)) L t mn J = ((t, true), mn, J) := fun h => by
      have e : pn (I 15 (R 4 (R 6 r 0) 0)) L 59 (t, false) = (t, true) := if_neg (fun z => h z.2)
      unfold cj
      rw [if_neg h0, e, if_pos (by rfl)]
    refine rk_bJ (ls := [(0, _)]) (by decide) rfl (Nat.le_of_ble_eq_true rfl) ?_
    refine rk_aload_n 0 dX5_nextJob_0 rfl rfl ?_
    refine rk_g6_1 rk_kX5_22 dX5_nextJob_1 ?_
    rw [rd_r1]
    refine rk_if_le 18 dX5_nextJob_4 (by decide) (fun qz4 => ?_) (fun qz4 => ?_)
    · skip
      exact absurd qz4 hnp
    · skip
      refine rk_aload_n 0 dX5_nextJob_7 rfl rfl ?_
      refine rk_bipush 59 dX5_nextJob_8 (by decide) ?_
      refine rk_cVi (cX5_readSign_s rd_r1 h4 ht hL _) rk_eX5_readSign rfl ⟨rfl, rfl⟩ rk_kX5_36 dX5_nextJob_10 rfl (by decide) (Nat.le_of_ble_eq_true rfl) ⟨Nat.le_refl _, Nat.le_refl _⟩ (fun xz1 Iz1 Rz1 hz1 => ?_)
      rw [h15] at hz1
      obtain ⟨qhz1, hs⟩ := hz1
      obtain rfl := qhz1.symm
      refine rk_if_ne 18 dX5_nextJob_13 (by decide) (fun qz13 => ?_) (fun qz13 => ?_)
      · skip
        rcases hs with ⟨g1, g2, g3⟩ | ⟨g1, g2, g3⟩
        · rw [e1 g1]
          rw [rd_u1] at g3
          subst g3
          exact cX5_nextJob_m hl hL (pg_in (P := I 15 (R 4 (R 6 r 0) 0)) (fun z => by rw [z] at g1; exact absurd g1 (by decide))) (fun kd' fd' A' h => ⟨rfl, kd', fd', A', rfl, rfl, h⟩)
        · exact absurd g2 qz13
      · skip
        refine rk_iconst 0 dX5_nextJob_16 (by decide) ?_
        refine rk_pc (pc' := 17) rfl ?_
        refine rk_iretJ dX5_nextJob_17 rfl (by decide) ?_
        rcases hs with ⟨g1, g2, g3⟩ | ⟨g1, g2, g3⟩
        · rw [g2] at qz13; exact absurd qz13 (by decide)
        · rw [e2 g1]
          subst g3
          exact ⟨rfl, kd, fd, A, rfl, rfl, fun z => by cases z⟩
/-- where a reading of the whole text stands: the end S, the place, how many jobs, the jobs -/
def cr_T (P : Nat → Int32) (L : Nat) (S : (Nat × Bool) × Nat × (Nat → Int32)) (t k : Nat) (J : Nat → Int32) : Prop := (t = 0 ∧ k = 0 ∧ S = pfo P L J) ∨ (2 ≤ t ∧ ∃ g, L ≤ t + g ∧ S = pf P L g ((t, false), k, J))
theorem cr_Ts {P : Nat → Int32} {L t k : Nat} {S : (Nat × Bool) × Nat × (Nat → Int32)} {J : Nat → Int32} (hL : L ≤ 80) (h : cr_T P L S t k J) (ht : t = 0 ∨ t < L) : ((cj P L t k J).1.2 = true → S = cj P L t k J) ∧ ((cj P L t k J).1.2 = false → cr_T P L S (cj P L t k J).1.1 (cj P L t k J).2.1 (cj P L t k J).2.2 ∧ (cj P L t k J).2.1 = k + 1 ∧ t + 2 ≤ (cj P L t k J).1.1 ∧ (cj P L t k J).1.1 ≤ L) := by
  have eta : ∀ X : (Nat × Bool) × Nat × (Nat → Int32), X.1.2 = false → X = ((X.1.1, false), X.2.1, X.2.2) := fun X z => by rw [← z]
  rcases h with ⟨h1, h2, hS⟩ | ⟨h2, g, hg, hS⟩
  · subst h1
    subst h2
    rw [show cj P L 0 0 J = pr P L 0 0 J from if_pos rfl]
    have hp := pr_in (P := P) (L := L) (t := 0) (mn := 0) (J := J) (Nat.zero_le L)
    refine ⟨fun z => ?_, fun z => ?_⟩
    · rw [hS, pfo, pf_end _ _ (fun y => by rw [z] at y; cases y.1)]
    · obtain ⟨p1, p2⟩ := hp.2 z
      refine ⟨Or.inr ⟨by omega, 81, by omega, ?_⟩, p2, p1, hp.1⟩
      rw [← eta _ z]
      exact hS
  · have hlt : t < L := by omega
    obtain ⟨g', rfl⟩ : ∃ g', g = g' + 1 := ⟨g - 1, by omega⟩
    have e0 : pf P L (g' + 1) ((t, false), k, J) = if (pn P L 59 (t, false)).2 = true then (pn P L 59 (t, false), k, J) else pf P L g' (pr P L (pn P L 59 (t, false)).1 k J) := if_pos ⟨rfl, hlt⟩
    have ec : cj P L t k J = if (pn P L 59 (t, false)).2 = true then (pn P L 59 (t, false), k, J) else pr P L (pn P L 59 (t, false)).1 k J := if_neg (by omega)
    by_cases hw : (pn P L 59 (t, false)).2 = true
    · rw [if_pos hw] at e0 ec
      rw [ec]
      refine ⟨fun _ => by rw [hS, e0], fun z => ?_⟩
      rw [show ((pn P L 59 (t, false), k, J) : (Nat × Bool) × Nat × (Nat → Int32)).1.2 = (pn P L 59 (t, false)).2 from rfl, hw] at z
      cases z
    · rw [if_neg hw] at e0 ec
      rw [ec]
      have hle : (pn P L 59 (t, false)).1 ≤ L := ple_n (by decide) (Nat.le_of_lt hlt)
      have hp := pr_in (P := P) (mn := k) (J := J) hle
      have e1 : (pn P L 59 (t, false)).1 = t + 1 := pn_ok (by cases hh : (pn P L 59 (t, false)).2 with | false => rfl | true => exact absurd hh hw)
      refine ⟨fun z => ?_, fun z => ?_⟩
      · rw [hS, e0, pf_end _ _ (fun y => by rw [z] at y; cases y.1)]
      · obtain ⟨p1, p2⟩ := hp.2 z
        refine ⟨Or.inr ⟨by omega, g', by omega, ?_⟩, p2, by omega, hp.1⟩
        rw [← eta _ z, hS, e0]
theorem cr_Te {P : Nat → Int32} {L t k : Nat} {S : (Nat × Bool) × Nat × (Nat → Int32)} {J : Nat → Int32} (h : cr_T P L S t k J) (h0 : 0 < t) (ht : L ≤ t) : S = ((t, false), k, J) := by
  rcases h with ⟨h1, h2, hS⟩ | ⟨h2, g, hg, hS⟩
  · omega
  · rw [hS, pf_end _ _ (fun y => by have := y.2; simp only at this; omega)]
theorem pr_k {P : Nat → Int32} {L t mn : Nat} {J : Nat → Int32} : mn ≤ (pr P L t mn J).2.1 ∧ ∀ j, j < 5 * mn → (pr P L t mn J).2.2 j = J j := by
  have n1 : ∀ j k v K, j ≠ k → sp_u K k v j = K j := fun j k v K h => sp_un h
  unfold pr
  split
  · refine ⟨Nat.le_succ _, fun j hj => ?_⟩
    refine Eq.trans ?_ (n1 j (5 * mn) (pg P L t) J (by omega))
    show (po P L (pg P L t) (t + 1, false) (sp_u J (5 * mn) (pg P L t)) (5 * mn)).2 j = _
    generalize sp_u J (5 * mn) (pg P L t) = K
    unfold po
    split
    · exact (n1 _ _ _ _ (by omega)).trans (n1 _ _ _ _ (by omega))
    · split
      · exact (n1 _ _ _ _ (by omega)).trans ((n1 _ _ _ _ (by omega)).trans ((n1 _ _ _ _ (by omega)).trans (n1 _ _ _ _ (by omega))))
      · split
        · exact (n1 _ _ _ _ (by omega)).trans (n1 _ _ _ _ (by omega))
        · exact n1 _ _ _ _ (by omega)
  · exact ⟨Nat.le_refl _, fun j hj => n1 _ _ _ _ (by omega)⟩
theorem pf_k {P : Nat → Int32} {L : Nat} : ∀ (g : Nat) (s : (Nat × Bool) × Nat × (Nat → Int32)), s.2.1 ≤ (pf P L g s).2.1 ∧ ∀ j, j < 5 * s.2.1 → (pf P L g s).2.2 j = s.2.2 j := by
  intro g
  induction g with
  | zero => intro s; exact ⟨Nat.le_refl _, fun j _ => rfl⟩
  | succ g ih =>
    intro s
    simp only [pf]
    split
    · split
      · exact ⟨Nat.le_refl _, fun j _ => rfl⟩
      · have a := ih (pr P L (pn P L 59 s.1).1 s.2.1 s.2.2)
        have b := pr_k (P := P) (L := L) (t := (pn P L 59 s.1).1) (mn := s.2.1) (J := s.2.2)
        exact ⟨Nat.le_trans b.1 a.1, fun j hj => (a.2 j (by have := b.1; omega)).trans (b.2 j hj)⟩
    · exact ⟨Nat.le_refl _, fun j _ => rfl⟩
theorem cr_Tm {P : Nat → Int32} {L t k : Nat} {S : (Nat × Bool) × Nat × (Nat → Int32)} {J : Nat → Int32} (h : cr_T P L S t k J) : k ≤ S.2.1 ∧ ∀ j, j < 5 * k → S.2.2 j = J j := by
  rcases h with ⟨h1, h2, hS⟩ | ⟨h2, g, hg, hS⟩
  · subst h2; exact ⟨Nat.zero_le _, fun j hj => by omega⟩
  · rw [hS]; exact pf_k g ((t, false), k, J)
theorem cX5_firstFault_l {r L : Nat} (hl : I 4 (R 6 r 0) 1 = nI L) (hL : L ≤ 80) (S : (Nat × Bool) × Nat × (Nat → Int32)) {Q : Int32 → rk_Mm → rk_Rm → Prop} (hQ : ∀ kd fd A, Q (if S.1.2 = true then nI S.1.1 else -6) (rd_st I r (R 6 r 3) (nI S.1.1) kd fd A) R) : ∀ (n j t k : Nat) (kd fd : Int32) (A J : Nat → Int32), L + 1 ≤ t + n → t ≤ L → (t = 0 ∨ t < L) → 2 * j ≤ t → cr_T (I 15 (R 4 (R 6 r 0) 0)) L S t k J → rk_Wp w l rk_mX5_firstFault 6 0 0 (rk_GJ w Sh Q) 6 [(0, rk_a 6 r), (1, rk_i (nI j))] [] (Sh, 0, 0) (rd_st I r (R 6 r 3) (nI t) kd fd A) R := by
  intro n
  induction n with
  | zero => intro j t k kd fd A J h1 h2; omega
  | succ n ih =>
    intro j t k kd fd A J h1 h2 h3 h4 hT
    have hlt : ¬ (80 : Int32) ≤ nI j := nI_ge (b := 80) (by omega) (by decide)
    obtain ⟨s1, s2⟩ := cr_Ts hL hT h3
    have hnj := cX5_nextJob_s (w := w) (l := l) (Sh := Sh) (kd := kd) (fd := fd) (A := A) hl hL h2 k J
    generalize cj (I 15 (R 4 (R 6 r 0) 0)) L t k J = X at hnj s1 s2
    refine rk_iload_n 1 dX5_firstFault_6 rfl rfl ?_
    refine rk_bipush 80 dX5_firstFault_7 (by decide) ?_
    refine rk_icmp_ge 47 dX5_firstFault_9 (by decide) (fun qz9 => ?_) (fun qz9 => ?_)
    · skip
      exact absurd qz9 hlt
    · skip
      refine rk_aload_n 0 dX5_firstFault_12 rfl rfl ?_
      refine rk_cVi (hnj) rk_eX5_nextJob rfl ⟨rfl, rfl⟩ rk_kX5_29 dX5_firstFault_13 rfl (by decide) (Nat.le_of_ble_eq_true rfl) ⟨Nat.le_refl _, Nat.le_refl _⟩ (fun xz1 Iz1 Rz1 hz1 => ?_)
      obtain ⟨qhz1, kd', fd', A', e1, e2, e3⟩ := hz1
      obtain rfl := qhz1.symm
      subst e1
      subst e2
      refine rk_if_ne 24 dX5_firstFault_16 (by decide) (fun qz16 => ?_) (fun qz16 => ?_)
      · skip
        have hw : X.1.2 = false := by
          cases hh : X.1.2 with
          | false => rfl
          | true => rw [if_pos hh] at qz16; exact absurd rfl qz16
        obtain ⟨p1, p2, p3, p4⟩ := s2 hw
        refine rk_aload_n 0 dX5_firstFault_24 rfl rfl ?_
        refine rk_g6_1 rk_kX5_22 dX5_firstFault_25 ?_
        rw [rd_r1]
        refine rk_pc (pc' := 28) rfl ?_
        refine rk_aload_n 0 dX5_firstFault_28 rfl rfl ?_
        refine rk_g6_0 rk_kX5_12 dX5_firstFault_29 ?_
        refine rk_g4_1 rk_kX5_33 dX5_firstFault_32 ?_
        rw [rd_rc (by decide) (by decide), hl]
        refine rk_icmp_lt 41 dX5_firstFault_35 (by decide) (fun qz35 => ?_) (fun qz35 => ?_)
        · skip
          refine rk_iinc 1 (ls' := [(1, _), (0, _)]) dX5_firstFault_41 (by decide) rfl (by decide) rfl ?_
          refine rk_goto 6 dX5_firstFault_44 (by decide) ?_
          refine rk_ord [0, 1] (ls' := [(0, _), (1, _)]) rfl ?_
          rw [nI_1]
          exact ih (j + 1) X.1.1 X.2.1 kd' fd' A' X.2.2 (by omega) p4 (Or.inr ((nI_ltI (by omega) (by omega)).mp qz35)) (by omega) p1
        · skip
          refine rk_bipush (-6) dX5_firstFault_38 (by decide) ?_
          refine rk_pc (pc' := 40) rfl ?_
          refine rk_iretJ dX5_firstFault_40 rfl rfl ?_
          have e := cr_Te p1 (by omega) (Nat.le_of_not_lt (fun z => qz35 (nI_lt z (by omega))))
          have g := hQ kd' fd' A'
          rw [e, if_neg (show ¬ false = true from Bool.false_ne_true)] at g
          exact g
      · skip
        refine rk_aload_n 0 dX5_firstFault_19 rfl rfl ?_
        refine rk_g6_1 rk_kX5_22 dX5_firstFault_20 ?_
        rw [rd_r1]
        refine rk_iretJ dX5_firstFault_23 rfl rfl ?_
        have hw : X.1.2 = true := Classical.byContradiction fun z => by rw [if_neg z] at qz16; exact absurd qz16 (by decide)
        have e := s1 hw
        subst e
        have g := hQ kd' fd' A'
        rw [if_pos hw] at g
        exact g
theorem cX5_firstFault_s {r L : Nat} (hl : I 4 (R 6 r 0) 1 = nI L) (hL : L ≤ 80) (J : Nat → Int32) : rk_J w l rk_mX5_firstFault 6 [rk_a 6 r] Sh I R (fun x I' R' => R' = R ∧ x = (if (pfo (I 15 (R 4 (R 6 r 0) 0)) L J).1.2 = true then nI (pfo (I 15 (R 4 (R 6 r 0) 0)) L J).1.1 else -6) ∧ ∃ t kd fd A, I' = rd_st I r (R 6 r 3) t kd fd A) := by
  refine rk_bJ (ls := [(0, _)]) (by decide) rfl (Nat.le_of_ble_eq_true rfl) ?_
  refine rk_aload_n 0 dX5_firstFault_0 rfl rfl ?_
  refine rk_cVv (cX5_rewind_s) rk_eX5_rewind rfl ⟨rfl, rfl⟩ rk_kX5_26 dX5_firstFault_1 rfl (by decide) (Nat.le_of_ble_eq_true rfl) ⟨Nat.le_refl _, Nat.le_refl _⟩ (fun Iz1 Rz1 hz1 => ?_)
  obtain ⟨qhz1, eIz1⟩ := hz1
  obtain rfl := qhz1.symm
  rw [rd_i1 (a := R 6 r 3)] at eIz1
  obtain rfl := eIz1.symm
  refine rk_iconst 0 dX5_firstFault_4 (by decide) ?_
  refine rk_istore_n 1 (ls' := [(1, _), (0, _)]) dX5_firstFault_5 rfl (by decide) rfl ?_
  refine rk_ord [0, 1] (ls' := [(0, _), (1, _)]) rfl ?_
  exact cX5_firstFault_l hl hL (pfo (I 15 (R 4 (R 6 r 0) 0)) L J) (fun kd fd A => ⟨rfl, rfl, _, kd, fd, A, rfl⟩) (L + 1) 0 0 0 _ _ _ J (by omega) (Nat.zero_le _) (Or.inl rfl) (by omega) (Or.inl ⟨rfl, rfl, rfl⟩)
end DN

