section MC
variable {w : rk_W} {l : Launch} {Sh : rk_Sh} {I : rk_Mm} {R : rk_Rm}
theorem pn_ok {P : Nat → Int32} {L : Nat} {c : Int32} {s : Nat × Bool} (h : (pn P L c s).2 = false) : (pn P L c s).1 = s.1 + 1 := by
  revert h
  unfold pn
  split
  · intro _; rfl
  · intro h; cases h
theorem pf_in {P : Nat → Int32} {L : Nat} : ∀ (f : Nat) (s : (Nat × Bool) × Nat × (Nat → Int32)), s.1.1 ≤ L → (s.1.2 = false → 3 * s.2.1 ≤ s.1.1 + 1) → (pf P L f s).1.1 ≤ L ∧ ((pf P L f s).1.2 = false → 3 * (pf P L f s).2.1 ≤ (pf P L f s).1.1 + 1) := by
  intro f
  induction f with
  | zero => intro s h1 h2; exact ⟨h1, h2⟩
  | succ f ih =>
    intro s h1 h2
    simp only [pf]
    split
    · next hc =>
      have hle : (pn P L 59 s.1).1 ≤ L := ple_n (by decide) h1
      split
      · next hw => exact ⟨hle, fun z => by rw [show (pn P L 59 s.1).2 = false from z] at hw; cases hw⟩
      · next hw =>
        have hf : (pn P L 59 s.1).2 = false := by cases hh : (pn P L 59 s.1).2 with | false => rfl | true => exact absurd hh hw
        have e := pn_ok hf
        have g := pr_in (P := P) (mn := s.2.1) (J := s.2.2) hle
        have h3 := h2 hc.1
        exact ih _ g.1 (fun z => by have := g.2 z; omega)
    · exact ⟨h1, h2⟩
theorem pfo_in {P : Nat → Int32} {L : Nat} {J : Nat → Int32} : (pfo P L J).1.1 ≤ L ∧ ((pfo P L J).1.2 = false → 3 * (pfo P L J).2.1 ≤ (pfo P L J).1.1 + 1) := by
  have g := pr_in (P := P) (L := L) (t := 0) (mn := 0) (J := J) (Nat.zero_le L)
  exact pf_in 81 _ g.1 (fun z => by have := g.2 z; omega)
noncomputable def sp_ca (J : Nat → Int32) (k : Nat) (N : Nat → Int32) : sp_R := sp_carry N (J (5 * k)) (J (5 * k + 1)) (J (5 * k + 2)) (J (5 * k + 3)) (J (5 * k + 4))
/-- jobs k, k + 1 .. are done till one fails: the row then, and how many jobs -/
noncomputable def sp_ro (J : Nat → Int32) : Nat → Nat → (Nat → Int32) → (Nat → Int32) × Nat
  | 0, k, N => (N, k)
  | f + 1, k, N => @ite _ ((sp_ca J k N).1 < 0) (Classical.propDecidable _) ((sp_ca J k N).2.getD N, k) (sp_ro J f (k + 1) ((sp_ca J k N).2.getD N))
theorem md_ap_t {m : Nat} {o : Option (Nat → Int32)} (h : ¬ I 12 m 8 = 0) : md_ap I R m o = md_a I 26 (R 12 m 0) (o.getD (I 26 (R 12 m 0))) := by
  cases o with
  | none => exact md_self.symm
  | some F => show md_a (md_rec I R m) 26 (R 12 m 0) F = _; rw [md_rec, if_neg h]; rfl
theorem cX11_carryOut_l {m u mn : Nat} {A : rk_Mm} (hu : A 12 m 3 = nI u) (hu6 : u ≤ 6) (h8 : A 12 m 8 = 1) (h11 : A 12 m 11 = nI mn) (hmn : mn ≤ 39) (X : (Nat → Int32) × Nat) {Q : Int32 → rk_Mm → rk_Rm → Prop} (hQ : Q (nI X.2) (rk_uI (rk_uI (md_a A 26 (R 12 m 0) X.1) 12 m 8 0) 12 m 7 0) R) : ∀ (f k : Nat) (N : Nat → Int32) (T : Int) (J : rk_Mm), k + f = mn → T + f ≤ 1000000 → sp_iv T N → J = md_a A 26 (R 12 m 0) N → X = sp_ro (A 33 (R 12 m 10)) f k N → rk_Wp w l rk_mX11_carryOut 8 0 0 (rk_GJ w Sh Q) 23 [(0, rk_a 12 m), (1, rk_i (nI k))] [] (Sh, 0, 0) J R := by
  have fin : ∀ (k : Nat) (J : rk_Mm), J = md_a A 26 (R 12 m 0) X.1 → k = X.2 → rk_Wp w l rk_mX11_carryOut 8 0 0 (rk_GJ w Sh Q) 47 [(0, rk_a 12 m), (1, rk_i (nI k))] [] (Sh, 0, 0) J R := by
    intro k J hJ hk
    refine rk_aload_n 0 dX11_carryOut_47 rfl rfl ?_
    refine rk_iconst 0 dX11_carryOut_48 (by decide) ?_
    refine rk_p12_8 rk_kX11_35 (by decide) dX11_carryOut_49 (fun Iz1 eIz1 => ?_)
    refine rk_aload_n 0 dX11_carryOut_52 rfl rfl ?_
    refine rk_iconst 0 dX11_carryOut_53 (by decide) ?_
    refine rk_p12_7 rk_kX11_133 dX11_carryOut_54 (fun Iz2 eIz2 => ?_)
    refine rk_pc (pc' := 57) rfl ?_
    refine rk_iload_n 1 dX11_carryOut_57 rfl rfl ?_
    refine rk_iretJ dX11_carryOut_58 rfl rfl ?_
    subst hk
    subst hJ
    rw [show Iz2 = rk_uI (rk_uI (md_a A 26 (R 12 m 0) X.1) 12 m 8 0) 12 m 7 0 by rw [eIz2, eIz1]]
    exact hQ
  intro f
  induction f with
  | zero =>
    intro k N T J hk hT hv hJ hX
    have hJ11 : J 12 m 11 = nI mn := by rw [hJ, md_ac (by decide)]; exact h11
    obtain rfl : k = mn := by omega
    refine rk_iload_n 1 dX11_carryOut_23 rfl rfl ?_
    refine rk_aload_n 0 dX11_carryOut_24 rfl rfl ?_
    refine rk_g12_11 rk_kX11_159 dX11_carryOut_25 ?_
    rw [hJ11]
    refine rk_icmp_ge 47 dX11_carryOut_28 (by decide) (fun qz28 => ?_) (fun qz28 => ?_)
    · skip
      subst hX; exact fin k J hJ rfl
    · skip
      exact absurd (nI_le (Nat.le_refl k) (by omega)) qz28
  | succ f ih =>
    intro k N T J hk hT hv hJ hX
    have hJ11 : J 12 m 11 = nI mn := by rw [hJ, md_ac (by decide)]; exact h11
    have hJ3 : J 12 m 3 = nI u := by rw [hJ, md_ac (by decide)]; exact hu
    have hJ8 : ¬ J 12 m 8 = 0 := by rw [hJ, md_ac (by decide), h8]; decide
    have hJa : J 26 (R 12 m 0) = N := by rw [hJ, md_as]
    have hJj : J 33 (R 12 m 10) = A 33 (R 12 m 10) := by rw [hJ, md_ac (by decide)]
    have h5 : (5 : Int32) * nI k = nI (5 * k) := by rw [show (5 : Int32) = nI 5 from rfl, pk_mul]
    have hlt : ¬ nI mn ≤ nI k := nI_ge (by omega) (by omega)
    have hiv := sp_iv_carry (k := A 33 (R 12 m 10) (5 * k)) (a := A 33 (R 12 m 10) (5 * k + 1)) (b := A 33 (R 12 m 10) (5 * k + 2)) (c := A 33 (R 12 m 10) (5 * k + 3)) (d := A 33 (R 12 m 10) (5 * k + 4)) (by omega) hv
    refine rk_iload_n 1 dX11_carryOut_23 rfl rfl ?_
    refine rk_aload_n 0 dX11_carryOut_24 rfl rfl ?_
    refine rk_g12_11 rk_kX11_159 dX11_carryOut_25 ?_
    rw [hJ11]
    refine rk_icmp_ge 47 dX11_carryOut_28 (by decide) (fun qz28 => ?_) (fun qz28 => ?_)
    · skip
      exact absurd qz28 hlt
    · skip
      refine rk_aload_n 0 dX11_carryOut_31 rfl rfl ?_
      refine rk_iconst 5 dX11_carryOut_32 (by decide) ?_
      refine rk_iload_n 1 dX11_carryOut_33 rfl rfl ?_
      refine rk_pc (pc' := 34) rfl ?_
      refine rk_imul dX11_carryOut_34 ?_
      rw [h5]
      refine rk_cVi (cX11_carry_s (T := T) hJ3 hu6 (by rw [hJa]; exact hv) (by omega)) rk_eX11_carry rfl ⟨rfl, rfl⟩ rk_kX11_195 dX11_carryOut_35 rfl (by decide) (Nat.le_of_ble_eq_true rfl) ⟨Nat.le_refl _, Nat.le_refl _⟩ (fun xz1 Iz1 Rz1 hz1 => ?_)
      rw [hJa, hJj] at hz1
      obtain ⟨rfl, qhz1, eIz1⟩ := hz1
      obtain rfl := qhz1.symm
      rw [md_ap_t hJ8, hJa, hJ, md_aa] at eIz1
      refine rk_if_lt 47 dX11_carryOut_38 (by decide) (fun qz38 => ?_) (fun qz38 => ?_)
      · skip
        exact fin k _ (by rw [hX]; simp only [sp_ro]; rw [if_pos (show (sp_ca (A 33 (R 12 m 10)) k N).1 < 0 from qz38)]; exact eIz1) (by rw [hX]; simp only [sp_ro]; rw [if_pos (show (sp_ca (A 33 (R 12 m 10)) k N).1 < 0 from qz38)])
      · skip
        refine rk_iinc 1 (ls' := [(1, _), (0, _)]) dX11_carryOut_41 (by decide) rfl (by decide) rfl ?_
        refine rk_goto 23 dX11_carryOut_44 (by decide) ?_
        refine rk_ord [0, 1] (ls' := [(0, _), (1, _)]) rfl ?_
        rw [nI_1]
        exact ih (k + 1) _ (T + 1) _ (by omega) (by omega) hiv eIz1 (hX.trans (if_neg (show ¬ (sp_ca (A 33 (R 12 m 10)) k N).1 < 0 from qz38)))
theorem md_rec_3 {m u : Nat} (hu : I 12 m 3 = nI u) (hu6 : u ≤ 6) (h8 : I 12 m 8 = 0) : md_rec I R m 12 m 3 = nI (if u = 6 then 6 else u + 1) := by
  unfold md_rec
  rw [if_pos h8]
  by_cases h : u = 6
  · subst h
    rw [if_pos (show I 12 m 3 = 6 from hu), if_pos rfl, md_u1, md_as, sp_us]
    rfl
  · by_cases h6 : I 12 m 3 = 6
    · rw [if_pos h6, md_u1, md_as, sp_us, if_neg h]
      exact absurd ((nI_eq (a := u) (b := 6) (by omega) (by decide)).mp (hu.symm.trans h6)) h
    · rw [if_neg h6, md_u1, md_as, sp_us, if_neg h, hu, nI_1]
/-- what carryOut leaves of the row of numbers -/
noncomputable def md_co (I : rk_Mm) (R : rk_Rm) (m mn : Nat) (J : Nat → Int32) : rk_Mm := rk_uI (rk_uI (md_a (rk_uI (md_rec I R m) 12 m 8 1) 26 (R 12 m 0) (sp_ro J mn 0 (I 26 (R 12 m 0))).1) 12 m 8 0) 12 m 7 0
theorem cX11_carryOut_s {m u L : Nat} {T : Int} (hu : I 12 m 3 = nI u) (hu6 : u ≤ 6) (h8 : I 12 m 8 = 0) (h7 : I 12 m 7 = nI L) (hL : L ≤ 80) (hv : sp_iv T (I 26 (R 12 m 0))) (hT : T + 39 ≤ 1000000) : rk_J w l rk_mX11_carryOut 8 [rk_a 12 m] Sh I R (fun r I' R' => R' = R ∧ ∃ S, S = pfo (I 31 (R 12 m 6)) L (I 33 (R 12 m 10)) ∧ ((S.1.2 = true ∧ r = -3 ∧ I' = pm_st I m (R 12 m 10) (nI S.1.1) (wi S.1.2) (nI S.2.1) S.2.2) ∨ (S.1.2 = false ∧ r = nI (sp_ro S.2.2 S.2.1 0 (I 26 (R 12 m 0))).2 ∧ I' = md_co (pm_st I m (R 12 m 10) (nI S.1.1) (wi S.1.2) (nI S.2.1) S.2.2) R m S.2.1 S.2.2))) := by
  have hin := pfo_in (P := I 31 (R 12 m 6)) (L := L) (J := I 33 (R 12 m 10))
  generalize hS : pfo (I 31 (R 12 m 6)) L (I 33 (R 12 m 10)) = S at hin
  have hfo := cX11_faultOf_s (w := w) (l := l) (Sh := Sh) (R := R) h7 hL
  rw [hS] at hfo
  have hA26 : ∀ b, pm_st I m (R 12 m 10) (nI S.1.1) (wi S.1.2) (nI S.2.1) S.2.2 26 b = I 26 b := fun b => by rw [pm_st, md_ac (by decide), md_ac (by decide)]
  have hA3 : pm_st I m (R 12 m 10) (nI S.1.1) (wi S.1.2) (nI S.2.1) S.2.2 12 m 3 = nI u := by rw [pm_st, md_as, sp_un (by decide), sp_un (by decide), sp_un (by decide)]; exact hu
  have hA8 : pm_st I m (R 12 m 10) (nI S.1.1) (wi S.1.2) (nI S.2.1) S.2.2 12 m 8 = 0 := by rw [pm_st, md_as, sp_un (by decide), sp_un (by decide), sp_un (by decide)]; exact h8
  refine rk_bJ (ls := [(0, _)]) (by decide) rfl (Nat.le_of_ble_eq_true rfl) ?_
  refine rk_aload_n 0 dX11_carryOut_0 rfl rfl ?_
  refine rk_cVi (hfo) rk_eX11_faultOf rfl ⟨rfl, rfl⟩ rk_kX11_173 dX11_carryOut_1 rfl (by decide) (Nat.le_of_ble_eq_true rfl) ⟨Nat.le_refl _, Nat.le_refl _⟩ (fun xz1 Iz1 Rz1 hz1 => ?_)
  obtain ⟨rfl, qhz1, eIz1⟩ := hz1
  obtain rfl := qhz1.symm
  obtain rfl := eIz1.symm
  refine rk_bipush (-6) dX11_carryOut_4 (by decide) ?_
  refine rk_icmp_eq 12 dX11_carryOut_6 (by decide) (fun qz6 => ?_) (fun qz6 => ?_)
  · skip
    refine rk_aload_n 0 dX11_carryOut_12 rfl rfl ?_
    refine rk_cVv (cX11_record_s hA3 hu6) rk_eX11_record rfl ⟨rfl, rfl⟩ rk_kX11_54 dX11_carryOut_13 rfl (by decide) (Nat.le_of_ble_eq_true rfl) ⟨Nat.le_refl _, Nat.le_refl _⟩ (fun Iz2 Rz2 hz2 => ?_)
    obtain ⟨qhz2, eIz2⟩ := hz2
    obtain rfl := qhz2.symm
    have hf : S.1.2 = false := by
      cases hh : S.1.2 with
      | false => rfl
      | true =>
        rw [if_pos hh] at qz6
        exact absurd qz6 (fun z => by
          have z2 := congrArg Int32.toInt z
          rw [nI_toInt (by omega)] at z2
          have : (-6 : Int32).toInt = -6 := rfl
          omega)
    have hmn := hin.2 hf
    refine rk_aload_n 0 dX11_carryOut_16 rfl rfl ?_
    refine rk_pc (pc' := 17) rfl ?_
    refine rk_iconst 1 dX11_carryOut_17 (by decide) ?_
    refine rk_p12_8 rk_kX11_35 (by decide) dX11_carryOut_18 (fun Iz3 eIz3 => ?_)
    refine rk_iconst 0 dX11_carryOut_21 (by decide) ?_
    refine rk_istore_n 1 (ls' := [(1, _), (0, _)]) dX11_carryOut_22 rfl (by decide) rfl ?_
    refine rk_ord [0, 1] (ls' := [(0, _), (1, _)]) rfl ?_
    have a3 : Iz3 12 m 3 = nI (if u = 6 then 6 else u + 1) := by rw [eIz3, md_uf (by decide), eIz2]; exact md_rec_3 hA3 hu6 hA8
    have a8 : Iz3 12 m 8 = 1 := by rw [eIz3, md_u1, md_as, sp_us]
    have a11 : Iz3 12 m 11 = nI S.2.1 := by rw [eIz3, md_uf (by decide), eIz2, md_rec_f (by decide), pm_r11]
    have a33 : Iz3 33 (R 12 m 10) = S.2.2 := by rw [eIz3, md_uc (by decide), eIz2, md_rec_c (by decide) (by decide), pm_r33]
    have a26 : Iz3 26 (R 12 m 0) = I 26 (R 12 m 0) := by rw [eIz3, md_uc (by decide), eIz2, md_rec_c (by decide) (by decide), hA26]
    refine cX11_carryOut_l a3 (by split <;> omega) a8 a11 (by omega) (sp_ro S.2.2 S.2.1 0 (I 26 (R 12 m 0))) ?_ S.2.1 0 (I 26 (R 12 m 0)) T Iz3 (by omega) (by omega) hv (by rw [← a26, md_self]) (by rw [a33])
    exact ⟨rfl, S, rfl, Or.inr ⟨hf, rfl, by rw [eIz3, eIz2]; simp only [md_co, hA26]⟩⟩
  · skip
    refine rk_bipush (-3) dX11_carryOut_9 (by decide) ?_
    refine rk_iretJ dX11_carryOut_11 rfl rfl ?_
    have hw : S.1.2 = true := by
      cases hh : S.1.2 with
      | true => rfl
      | false => rw [if_neg (by rw [hh]; decide)] at qz6; exact absurd rfl qz6
    exact ⟨rfl, S, rfl, Or.inl ⟨hw, rfl, rfl⟩⟩
end MC

