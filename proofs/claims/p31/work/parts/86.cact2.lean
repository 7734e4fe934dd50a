section CT
variable {w : rk_W} {l : Launch} {Sh : rk_Sh} {rg : Nat → Nat} {I : rk_Mm} {R : rk_Rm} {y t : Nat} {N : Nat → Int32} {T : Int}
theorem sp_ispc_n {x : Int32} {c : Nat} (h : sp_ispc N x) (hc : N 12 = nI c) (hc2 : c ≤ 24) : ∃ i, i < c ∧ x = nI i := by
  obtain ⟨h1, h2⟩ := h
  rw [hc] at h2
  rcases Nat.eq_zero_or_pos c with hz | hz
  · subst hz
    exact absurd (Int32.le_trans h1 h2) (by decide)
  · rw [rk_pred hz] at h2
    obtain ⟨k, hk, e⟩ := rk_nat (m := c - 1) (by omega) h1 h2
    exact ⟨k, by omega, e⟩
theorem sp_isor_n {x : Int32} {c : Nat} (h : sp_isor N x) (hc : N 13 = nI c) (hc2 : c ≤ 16) : ∃ i, i < c ∧ x = nI i := by
  obtain ⟨h1, h2⟩ := h
  rw [hc] at h2
  rcases Nat.eq_zero_or_pos c with hz | hz
  · subst hz
    exact absurd (Int32.le_trans h1 h2) (by decide)
  · rw [rk_pred hz] at h2
    obtain ⟨k, hk, e⟩ := rk_nat (m := c - 1) (by omega) h1 h2
    exact ⟨k, by omega, e⟩
theorem cX7_has_n {q : Nat} {x : Int32} (h : I 8 q 1 = N 12) : rk_P w l rk_mX7_has 2 [rk_a 8 q, rk_i x] Sh I R (sp_b (sp_ispc N x)) := by
  have g := cX7_has_s (w := w) (l := l) (Sh := Sh) (I := I) (R := R) (q := q) (x := x)
  rw [h] at g
  exact g
theorem cX0_has_n {q : Nat} {x : Int32} (h : I 1 q 1 = N 13) : rk_P w l rk_mX0_has 2 [rk_a 1 q, rk_i x] Sh I R (sp_b (sp_isor N x)) := by
  have g := cX0_has_s (w := w) (l := l) (Sh := Sh) (I := I) (R := R) (q := q) (x := x)
  rw [h] at g
  exact g
theorem cX9_joinPieces_s (hv : sp_iv T N) (h : cl_y rg I R y t N) (p q : Int32) : rk_J w l rk_mX9_joinPieces 3 [rk_a 10 y, rk_i p, rk_i q] Sh I R (cl_Q rg I R y t N (sp_join N p q)) := by
  obtain ⟨c, hc2, hc⟩ := hv.c12
  have hcc : sp_c N 12 = c := sp_cN hc (by omega)
  have h8 : I 8 (R 10 y 1) 1 = N 12 := h.2.2.1.2.1.1
  by_cases hp : sp_ispc N p ∧ sp_ispc N q ∧ p ≠ q
  · obtain ⟨i, hi, rfl⟩ := sp_ispc_n hp.1 hc hc2
    obtain ⟨j, hj, rfl⟩ := sp_ispc_n hp.2.1 hc hc2
    have hij : i ≠ j := fun z => hp.2.2 (by rw [z])
    have ci : (nI i).toNatClampNeg = i := nI_clamp (by omega)
    have cj : (nI j).toNatClampNeg = j := nI_clamp (by omega)
    have hP := h.2.2.1.2.1.2 i (by omega)
    have hQ := h.2.2.1.2.1.2 j (by omega)
    have hbad : ¬ (sp_lk N i j ∧ N 4 < N (50 + 7 * i + 3) ∧ N 4 < N (50 + 7 * j + 3)) → sp_join N (nI i) (nI j) = (-5, none) := fun z => by unfold sp_join; rw [if_pos hp, ci, cj, if_neg z]
    have hlk : rk_P w l rk_mX4_isLike 1 [rk_a 5 (R 20 (R 8 (R 10 y 1) 0) i), rk_a 5 (R 20 (R 8 (R 10 y 1) 0) j)] Sh I R (sp_b (sp_lk N i j)) := by
      have g := cX4_isLike_s (w := w) (l := l) (Sh := Sh) (I := I) (R := R) (R 20 (R 8 (R 10 y 1) 0) i) (R 20 (R 8 (R 10 y 1) 0) j)
      rw [hP 0 (by decide), hP 1 (by decide), hP 2 (by decide), hQ 0 (by decide), hQ 1 (by decide), hQ 2 (by decide)] at g
      exact g
    obtain ⟨pv, hpv⟩ := hv.1
    have hpc : pv = c := (nI_eq (by have := hpv.1; omega) (by omega)).mp (hpv.2.1.symm.trans hc)
    subst hpc
    obtain ⟨f, hf, hf0⟩ := hpv.2.2.1 i hi
    obtain ⟨lo, hi', hm, hlh, hh⟩ : ∃ lo hi', ((i = lo ∧ j = hi') ∨ (i = hi' ∧ j = lo)) ∧ lo < hi' ∧ hi' < pv := by
      by_cases hlt : i < j
      · exact ⟨i, j, Or.inl ⟨rfl, rfl⟩, hlt, hj⟩
      · exact ⟨j, i, Or.inr ⟨rfl, rfl⟩, by omega, hi⟩
    have hsame : sp_lk N i j → N (50 + 7 * lo) = nI f ∧ N (50 + 7 * hi') = nI f := fun z => by
      have e : N (50 + 7 * j + 0) = nI f := z.1.symm.trans hf0
      rcases hm with ⟨rfl, rfl⟩ | ⟨rfl, rfl⟩
      · exact ⟨hf0, e⟩
      · exact ⟨e, hf0⟩
    have hgood : (sp_lk N i j ∧ N 4 < N (50 + 7 * i + 3) ∧ N 4 < N (50 + 7 * j + 3)) → sp_join N (nI i) (nI j) = (nI lo, some (sp_gone (sp_joinN N lo hi') 12 50 hi')) := fun z => by
      unfold sp_join
      rw [if_pos hp, ci, cj, if_pos z]
      rcases hm with ⟨rfl, rfl⟩ | ⟨rfl, rfl⟩
      · rw [if_pos (nI_lt hlh (by omega))]
      · rw [if_neg (nI_nlt (by omega) (by omega))]
    refine rk_bJ (ls := [(0, _), (1, _), (2, _)]) (by decide) rfl (Nat.le_of_ble_eq_true rfl) ?_
    refine rk_aload_n 0 dX9_joinPieces_0 rfl rfl ?_
    refine rk_g10_1 rk_kX9_21 dX9_joinPieces_1 ?_
    refine rk_iload_n 1 dX9_joinPieces_4 rfl rfl ?_
    refine rk_cVp (cX7_has_n h8) rk_eX7_has rfl ⟨rfl, rfl⟩ rk_kX9_128 dX9_joinPieces_5 rfl (by decide) (Nat.le_of_ble_eq_true rfl) ⟨Nat.le_refl _, Nat.le_refl _⟩ ?_
    refine rk_if_eq 27 dX9_joinPieces_8 (by decide) (fun qz8 => ?_) (fun qz8 => ?_)
    · skip
      exact absurd hp.1 (sp_bf qz8)
    · skip
      refine rk_aload_n 0 dX9_joinPieces_11 rfl rfl ?_
      refine rk_g10_1 rk_kX9_21 dX9_joinPieces_12 ?_
      refine rk_pc (pc' := 15) rfl ?_
      refine rk_iload_n 2 dX9_joinPieces_15 rfl rfl ?_
      refine rk_cVp (cX7_has_n h8) rk_eX7_has rfl ⟨rfl, rfl⟩ rk_kX9_128 dX9_joinPieces_16 rfl (by decide) (Nat.le_of_ble_eq_true rfl) ⟨Nat.le_refl _, Nat.le_refl _⟩ ?_
      refine rk_if_eq 27 dX9_joinPieces_19 (by decide) (fun qz19 => ?_) (fun qz19 => ?_)
      · skip
        exact absurd hp.2.1 (sp_bf qz19)
      · skip
        refine rk_iload_n 1 dX9_joinPieces_22 rfl rfl ?_
        refine rk_iload_n 2 dX9_joinPieces_23 rfl rfl ?_
        refine rk_icmp_ne 29 dX9_joinPieces_24 (by decide) (fun qz24 => ?_) (fun qz24 => ?_)
        · skip
          refine rk_aload_n 0 dX9_joinPieces_29 rfl rfl ?_
          refine rk_g10_1 rk_kX9_21 dX9_joinPieces_30 ?_
          refine rk_pc (pc' := 33) rfl ?_
          refine rk_g8_0 rk_kX9_131 dX9_joinPieces_33 ?_
          refine rk_iload_n 1 dX9_joinPieces_36 rfl rfl ?_
          refine rk_rn20 (i) dX9_joinPieces_37 (by first | rfl | decide | assumption | (simp only [rk_lit, nI_add, pk_mul, nI_1]; done) | (simp only [rk_lit, nI_add, pk_mul, nI_1]; congr 1; omega)) (by first | decide | assumption | omega) ?_
          refine rk_astore_n 3 (ls' := [(3, _), (0, _), (1, _), (2, _)]) dX9_joinPieces_38 rfl (by decide) rfl ?_
          refine rk_aload_n 0 dX9_joinPieces_39 rfl rfl ?_
          refine rk_g10_1 rk_kX9_21 dX9_joinPieces_40 ?_
          refine rk_pc (pc' := 43) rfl ?_
          refine rk_g8_0 rk_kX9_131 dX9_joinPieces_43 ?_
          refine rk_iload_n 2 dX9_joinPieces_46 rfl rfl ?_
          refine rk_rn20 (j) dX9_joinPieces_47 (by first | rfl | decide | assumption | (simp only [rk_lit, nI_add, pk_mul, nI_1]; done) | (simp only [rk_lit, nI_add, pk_mul, nI_1]; congr 1; omega)) (by first | decide | assumption | omega) ?_
          refine rk_astore (ls' := [(4, _), (3, _), (0, _), (1, _), (2, _)]) dX9_joinPieces_48 (by decide) rfl ?_
          refine rk_aload_n 0 dX9_joinPieces_50 rfl rfl ?_
          refine rk_g10_0 rk_kX9_12 dX9_joinPieces_51 ?_
          refine rk_pc (pc' := 54) rfl ?_
          refine rk_g7_0 rk_kX9_69 dX9_joinPieces_54 ?_
          refine rk_iconst 4 dX9_joinPieces_57 (by decide) ?_
          refine rk_rn17 4 dX9_joinPieces_58 rfl (by first | decide | assumption | omega) ?_
          rw [h.2.1.1 4 (by decide)]
          refine rk_istore (ls' := [(5, _), (4, _), (3, _), (0, _), (1, _), (2, _)]) dX9_joinPieces_59 (by decide) rfl ?_
          refine rk_aload_n 3 dX9_joinPieces_61 rfl rfl ?_
          refine rk_aload dX9_joinPieces_62 rfl ?_
          refine rk_pc (pc' := 64) rfl ?_
          refine rk_cVp (hlk) rk_eX4_isLike rfl ⟨rfl, rfl⟩ rk_kX9_135 dX9_joinPieces_64 rfl (by decide) (Nat.le_of_ble_eq_true rfl) ⟨Nat.le_refl _, Nat.le_refl _⟩ ?_
          refine rk_if_eq 89 dX9_joinPieces_67 (by decide) (fun qz67 => ?_) (fun qz67 => ?_)
          · skip
            refine rk_bipush (-5) dX9_joinPieces_89 (by decide) ?_
            refine rk_iretJ dX9_joinPieces_91 rfl rfl ?_
            first | exact cl_Q0 h (hbad (fun z => sp_bf qz67 z.1)) | exact cl_Q0 h (hbad (fun z => Int32.not_lt.mpr qz76 z.2.1)) | exact cl_Q0 h (hbad (fun z => qz86 z.2.2))
          · skip
            refine rk_aload_n 3 dX9_joinPieces_70 rfl rfl ?_
            refine rk_g5_3 rk_kX9_141 dX9_joinPieces_71 ?_
            rw [hP 3 (by decide)]
            refine rk_iload dX9_joinPieces_74 rfl ?_
            refine rk_icmp_le 89 dX9_joinPieces_76 (by decide) (fun qz76 => ?_) (fun qz76 => ?_)
            · skip
              refine rk_bipush (-5) dX9_joinPieces_89 (by decide) ?_
              refine rk_pc (pc' := 91) rfl ?_
              refine rk_iretJ dX9_joinPieces_91 rfl rfl ?_
              first | exact cl_Q0 h (hbad (fun z => sp_bf qz67 z.1)) | exact cl_Q0 h (hbad (fun z => Int32.not_lt.mpr qz76 z.2.1)) | exact cl_Q0 h (hbad (fun z => qz86 z.2.2))
            · skip
              refine rk_aload dX9_joinPieces_79 rfl ?_
              refine rk_g5_3 rk_kX9_141 dX9_joinPieces_81 ?_
              rw [hQ 3 (by decide)]
              refine rk_iload dX9_joinPieces_84 rfl ?_
              refine rk_icmp_gt 92 dX9_joinPieces_86 (by decide) (fun qz86 => ?_) (fun qz86 => ?_)
              · skip
                refine rk_aload_n 0 dX9_joinPieces_92 rfl rfl ?_
                refine rk_g10_1 rk_kX9_21 dX9_joinPieces_93 ?_
                refine rk_iload_n 1 dX9_joinPieces_96 rfl rfl ?_
                refine rk_pc (pc' := 97) rfl ?_
                refine rk_iload_n 2 dX9_joinPieces_97 rfl rfl ?_
                refine rk_iload dX9_joinPieces_98 rfl ?_
                refine rk_cVi (cX7_splice_s h.2.2.1 hc hc2 hm hlh hh hf (hsame (sp_bt qz67)).1 (hsame (sp_bt qz67)).2) rk_eX7_splice rfl ⟨rfl, rfl⟩ rk_kX9_144 dX9_joinPieces_100 rfl (by decide) (Nat.le_of_ble_eq_true rfl) ⟨Nat.le_refl _, Nat.le_refl _⟩ (fun xz1 Iz1 Rz1 hz1 => ?_)
                refine rk_iretJ dX9_joinPieces_103 rfl rfl ?_
                obtain ⟨rfl, st1, fr1⟩ := hz1
                refine cl_Q1 (hgood ⟨sp_bt qz67, Int32.not_le.mp qz76, qz86⟩) (fr1.mo (fun z hz => by omega)) (h.st hv.c13 st1 fr1 (fun k hk => ?_))
                have j12 : sp_joinN N lo hi' 12 = nI pv := by rw [sp_joinN, sp_un (by omega), sp_un (by omega), sp_un (by omega), sp_un (by omega)]; exact hc
                rw [sp_gone_x j12 (by omega) (by omega) (by omega), sp_joinN, sp_un (by omega), sp_un (by omega), sp_un (by omega), sp_un (by omega)]
              · skip
                refine rk_bipush (-5) dX9_joinPieces_89 (by decide) ?_
                refine rk_iretJ dX9_joinPieces_91 rfl rfl ?_
                first | exact cl_Q0 h (hbad (fun z => sp_bf qz67 z.1)) | exact cl_Q0 h (hbad (fun z => Int32.not_lt.mpr qz76 z.2.1)) | exact cl_Q0 h (hbad (fun z => qz86 z.2.2))
        · skip
          exact absurd qz24 hp.2.2
  · have hno : sp_join N p q = (-1, none) := by unfold sp_join; rw [if_neg hp]
    refine rk_bJ (ls := [(0, _), (1, _), (2, _)]) (by decide) rfl (Nat.le_of_ble_eq_true rfl) ?_
    refine rk_aload_n 0 dX9_joinPieces_0 rfl rfl ?_
    refine rk_g10_1 rk_kX9_21 dX9_joinPieces_1 ?_
    refine rk_iload_n 1 dX9_joinPieces_4 rfl rfl ?_
    refine rk_cVp (cX7_has_n h8) rk_eX7_has rfl ⟨rfl, rfl⟩ rk_kX9_128 dX9_joinPieces_5 rfl (by decide) (Nat.le_of_ble_eq_true rfl) ⟨Nat.le_refl _, Nat.le_refl _⟩ ?_
    refine rk_if_eq 27 dX9_joinPieces_8 (by decide) (fun qz8 => ?_) (fun qz8 => ?_)
    · skip
      refine rk_iconst (-1) dX9_joinPieces_27 (by decide) ?_
      refine rk_iretJ dX9_joinPieces_28 rfl rfl ?_
      exact cl_Q0 h hno
    · skip
      refine rk_aload_n 0 dX9_joinPieces_11 rfl rfl ?_
      refine rk_pc (pc' := 12) rfl ?_
      refine rk_g10_1 rk_kX9_21 dX9_joinPieces_12 ?_
      refine rk_iload_n 2 dX9_joinPieces_15 rfl rfl ?_
      refine rk_cVp (cX7_has_n h8) rk_eX7_has rfl ⟨rfl, rfl⟩ rk_kX9_128 dX9_joinPieces_16 rfl (by decide) (Nat.le_of_ble_eq_true rfl) ⟨Nat.le_refl _, Nat.le_refl _⟩ ?_
      refine rk_if_eq 27 dX9_joinPieces_19 (by decide) (fun qz19 => ?_) (fun qz19 => ?_)
      · skip
        refine rk_iconst (-1) dX9_joinPieces_27 (by decide) ?_
        refine rk_iretJ dX9_joinPieces_28 rfl rfl ?_
        exact cl_Q0 h hno
      · skip
        refine rk_iload_n 1 dX9_joinPieces_22 rfl rfl ?_
        refine rk_iload_n 2 dX9_joinPieces_23 rfl rfl ?_
        refine rk_pc (pc' := 24) rfl ?_
        refine rk_icmp_ne 29 dX9_joinPieces_24 (by decide) (fun qz24 => ?_) (fun qz24 => ?_)
        · skip
          exact absurd ⟨sp_bt qz8, sp_bt qz19, qz24⟩ hp
        · skip
          refine rk_iconst (-1) dX9_joinPieces_27 (by decide) ?_
          refine rk_iretJ dX9_joinPieces_28 rfl rfl ?_
          exact cl_Q0 h hno
theorem cX9_testPiece_s (hv : sp_iv T N) (h : cl_y rg I R y t N) (p : Int32) : rk_J w l rk_mX9_testPiece 3 [rk_a 10 y, rk_i p] Sh I R (cl_Q rg I R y t N (sp_test N p)) := by
  obtain ⟨c, hpv⟩ := hv.1
  have hc := hpv.2.1
  have hc2 := hpv.1
  have hcc : sp_c N 12 = c := sp_cN hc (by omega)
  have h8 : I 8 (R 10 y 1) 1 = N 12 := h.2.2.1.2.1.1
  by_cases hp : sp_ispc N p
  · obtain ⟨i, hi, rfl⟩ := sp_ispc_n hp hc hc2
    have ci : (nI i).toNatClampNeg = i := nI_clamp (by omega)
    have hP := h.2.2.1.2.1.2 i (by omega)
    obtain ⟨f, hf, hf0⟩ := hpv.2.2.1 i hi
    have hsf : sp_c N (50 + 7 * i + 0) = f := sp_cN hf0 (by omega)
    have hbad : ¬ N 5 ≤ N (50 + 7 * i + 3) → sp_test N (nI i) = (-5, none) := fun z => by unfold sp_test; rw [if_pos hp, ci, if_neg z]
    have hgood : N 5 ≤ N (50 + 7 * i + 3) → sp_test N (nI i) = (sp_st N (sp_P N i), some (sp_testN N i)) := fun z => by unfold sp_test; rw [if_pos hp, ci, if_pos z]
    have h6 : 1 ≤ N 6 := (hv.2.2.2.1 6 (by decide)).1
    have hL : 0 < N (50 + 7 * i + 3) := Int32.lt_iff_toInt_lt.mpr (hpv.2.2.2.1 i hi).1
    refine rk_bJ (ls := [(0, _), (1, _)]) (by decide) rfl (Nat.le_of_ble_eq_true rfl) ?_
    refine rk_aload_n 0 dX9_testPiece_0 rfl rfl ?_
    refine rk_g10_1 rk_kX9_21 dX9_testPiece_1 ?_
    refine rk_iload_n 1 dX9_testPiece_4 rfl rfl ?_
    refine rk_cVp (cX7_has_n h8) rk_eX7_has rfl ⟨rfl, rfl⟩ rk_kX9_128 dX9_testPiece_5 rfl (by decide) (Nat.le_of_ble_eq_true rfl) ⟨Nat.le_refl _, Nat.le_refl _⟩ ?_
    refine rk_if_ne 13 dX9_testPiece_8 (by decide) (fun qz8 => ?_) (fun qz8 => ?_)
    · skip
      refine rk_aload_n 0 dX9_testPiece_13 rfl rfl ?_
      refine rk_g10_0 rk_kX9_12 dX9_testPiece_14 ?_
      refine rk_pc (pc' := 17) rfl ?_
      refine rk_g7_0 rk_kX9_69 dX9_testPiece_17 ?_
      refine rk_iconst 5 dX9_testPiece_20 (by decide) ?_
      refine rk_rn17 5 dX9_testPiece_21 rfl (by first | decide | assumption | omega) ?_
      rw [h.2.1.1 5 (by decide)]
      refine rk_istore_n 2 (ls' := [(2, _), (0, _), (1, _)]) dX9_testPiece_22 rfl (by decide) rfl ?_
      refine rk_aload_n 0 dX9_testPiece_23 rfl rfl ?_
      refine rk_g10_1 rk_kX9_21 dX9_testPiece_24 ?_
      refine rk_pc (pc' := 27) rfl ?_
      refine rk_g8_0 rk_kX9_131 dX9_testPiece_27 ?_
      refine rk_iload_n 1 dX9_testPiece_30 rfl rfl ?_
      refine rk_rn20 (i) dX9_testPiece_31 (by first | rfl | decide | assumption | (simp only [rk_lit, nI_add, pk_mul, nI_1]; done) | (simp only [rk_lit, nI_add, pk_mul, nI_1]; congr 1; omega)) (by first | decide | assumption | omega) ?_
      refine rk_g5_3 rk_kX9_141 dX9_testPiece_32 ?_
      rw [hP 3 (by decide)]
      refine rk_iload_n 2 dX9_testPiece_35 rfl rfl ?_
      refine rk_icmp_ge 42 dX9_testPiece_36 (by decide) (fun qz36 => ?_) (fun qz36 => ?_)
      · skip
        refine rk_aload_n 0 dX9_testPiece_42 rfl rfl ?_
        refine rk_pc (pc' := 43) rfl ?_
        refine rk_g10_0 rk_kX9_12 dX9_testPiece_43 ?_
        refine rk_aload_n 0 dX9_testPiece_46 rfl rfl ?_
        refine rk_g10_1 rk_kX9_21 dX9_testPiece_47 ?_
        refine rk_g8_0 rk_kX9_131 dX9_testPiece_50 ?_
        refine rk_iload_n 1 dX9_testPiece_53 rfl rfl ?_
        refine rk_rn20 (i) dX9_testPiece_54 (by first | rfl | decide | assumption | (simp only [rk_lit, nI_add, pk_mul, nI_1]; done) | (simp only [rk_lit, nI_add, pk_mul, nI_1]; congr 1; omega)) (by first | decide | assumption | omega) ?_
        refine rk_pc (pc' := 55) rfl ?_
        refine rk_cVp (cX6_strengthOf_s (P := sp_P N i) h.2.1 hP hf hf0) rk_eX6_strengthOf rfl ⟨rfl, rfl⟩ rk_kX9_147 dX9_testPiece_55 rfl (by decide) (Nat.le_of_ble_eq_true rfl) ⟨Nat.le_refl _, Nat.le_refl _⟩ ?_
        refine rk_istore_n 3 (ls' := [(3, _), (2, _), (0, _), (1, _)]) dX9_testPiece_58 rfl (by decide) rfl ?_
        refine rk_aload_n 0 dX9_testPiece_59 rfl rfl ?_
        refine rk_g10_1 rk_kX9_21 dX9_testPiece_60 ?_
        refine rk_iload_n 1 dX9_testPiece_63 rfl rfl ?_
        refine rk_iload_n 2 dX9_testPiece_64 rfl rfl ?_
        refine rk_pc (pc' := 65) rfl ?_
        refine rk_iconst 4 dX9_testPiece_65 (by decide) ?_
        refine rk_aload_n 0 dX9_testPiece_66 rfl rfl ?_
        refine rk_g10_0 rk_kX9_12 dX9_testPiece_67 ?_
        refine rk_g7_0 rk_kX9_69 dX9_testPiece_70 ?_
        refine rk_bipush 6 dX9_testPiece_73 (by decide) ?_
        refine rk_rn17 6 dX9_testPiece_75 rfl (by first | decide | assumption | omega) ?_
        rw [h.2.1.1 6 (by decide)]
        refine rk_pc (pc' := 76) rfl ?_
        refine rk_cVv (cX7_cut_s (ac := 4) (feet := N 5) h.2.2.1 hc hc2 hi hf hf0 hL h6 (Or.inr rfl)) rk_eX7_cut rfl ⟨rfl, rfl⟩ rk_kX9_151 dX9_testPiece_76 rfl (by decide) (Nat.le_of_ble_eq_true rfl) ⟨Nat.le_refl _, Nat.le_refl _⟩ (fun Iz1 Rz1 hz1 => ?_)
        refine rk_iload_n 3 dX9_testPiece_79 rfl rfl ?_
        refine rk_iretJ dX9_testPiece_80 rfl rfl ?_
        obtain ⟨st1, fr1⟩ := hz1
        have e : sp_testN N i = sp_u (sp_cut N i (N 5)) (30 + 4 * f + (4 - 2)) (N (30 + 4 * f + (4 - 2)) + sp_yin (N (50 + 7 * i + 4)) (N 5) (N (50 + 7 * i + 3))) := by unfold sp_testN; rw [hsf]
        refine cl_Q1 (hgood qz36) (fr1.mo (fun z hz => by omega)) (h.st hv.c13 (by rw [e]; exact st1) fr1 (fun k hk => ?_))
        rw [e, sp_un (by omega), sp_cut_x hc hc2 hi hf hf0 (by omega) (by omega) (by omega)]
      · skip
        refine rk_bipush (-5) dX9_testPiece_39 (by decide) ?_
        refine rk_iretJ dX9_testPiece_41 rfl rfl ?_
        exact cl_Q0 h (hbad qz36)
    · skip
      exact absurd hp (sp_bf qz8)
  · have hno : sp_test N p = (-1, none) := by unfold sp_test; rw [if_neg hp]
    refine rk_bJ (ls := [(0, _), (1, _)]) (by decide) rfl (Nat.le_of_ble_eq_true rfl) ?_
    refine rk_aload_n 0 dX9_testPiece_0 rfl rfl ?_
    refine rk_g10_1 rk_kX9_21 dX9_testPiece_1 ?_
    refine rk_iload_n 1 dX9_testPiece_4 rfl rfl ?_
    refine rk_cVp (cX7_has_n h8) rk_eX7_has rfl ⟨rfl, rfl⟩ rk_kX9_128 dX9_testPiece_5 rfl (by decide) (Nat.le_of_ble_eq_true rfl) ⟨Nat.le_refl _, Nat.le_refl _⟩ ?_
    refine rk_if_ne 13 dX9_testPiece_8 (by decide) (fun qz8 => ?_) (fun qz8 => ?_)
    · skip
      exact absurd (sp_bt qz8) hp
    · skip
      refine rk_iconst (-1) dX9_testPiece_11 (by decide) ?_
      refine rk_iretJ dX9_testPiece_12 rfl rfl ?_
      exact cl_Q0 h hno
theorem cX9_finesOver_s {dd : Nat} (hv : sp_iv T N) (h : cl_y rg I R y t N) (hd : dd ≤ 200) : rk_P w l rk_mX9_finesOver 2 [rk_a 10 y, rk_i (nI dd)] Sh I R (sp_fines N dd (sp_c N 13)) := by
  obtain ⟨oc, ho1, ho2, ho3⟩ := hv.2.1
  obtain ⟨td, ht1, ht2⟩ := hv.2.2.1
  have h10 : I 10 y 3 = nI td := h.2.2.2.2.1.trans ht2
  have hl := cX0_lateRopes_s (w := w) (l := l) (Sh := Sh) h.2.2.2.1 ho2 ho1 ht2 ht1 hd (fun o ho => (ho3 o ho).2.2)
  refine rk_bP (ls := [(0, _), (1, _)]) (by decide) rfl (Nat.le_of_ble_eq_true rfl) ?_
  refine rk_aload_n 0 dX9_finesOver_0 rfl rfl ?_
  refine rk_g10_0 rk_kX9_12 dX9_finesOver_1 ?_
  refine rk_g7_0 rk_kX9_69 dX9_finesOver_4 ?_
  refine rk_bipush 9 dX9_finesOver_7 (by decide) ?_
  refine rk_rn17 9 dX9_finesOver_9 rfl (by first | decide | assumption | omega) ?_
  rw [h.2.1.1 9 (by decide)]
  refine rk_aload_n 0 dX9_finesOver_10 rfl rfl ?_
  refine rk_pc (pc' := 11) rfl ?_
  refine rk_g10_2 rk_kX9_28 dX9_finesOver_11 ?_
  refine rk_aload_n 0 dX9_finesOver_14 rfl rfl ?_
  refine rk_g10_3 rk_kX9_42 dX9_finesOver_15 ?_
  rw [h10]
  refine rk_iload_n 1 dX9_finesOver_18 rfl rfl ?_
  refine rk_cVp (hl) rk_eX0_lateRopes rfl ⟨rfl, rfl⟩ rk_kX9_199 dX9_finesOver_19 rfl (by decide) (Nat.le_of_ble_eq_true rfl) ⟨Nat.le_refl _, Nat.le_refl _⟩ ?_
  refine rk_imul dX9_finesOver_22 ?_
  refine rk_pc (pc' := 23) rfl ?_
  refine rk_iretP dX9_finesOver_23 rfl rfl ?_
  rw [sp_cN ho2 (by omega)]
  exact sp_lt_f oc
theorem cX9_passDays_s (hv : sp_iv T N) (h : cl_y rg I R y t N) (d : Int32) : rk_J w l rk_mX9_passDays 3 [rk_a 10 y, rk_i d] Sh I R (cl_Q rg I R y t N (sp_pass N d)) := by
  have h3 : I 10 y 3 = N 10 := h.2.2.2.2.1
  have h7 : I 10 y 7 = N 16 := h.2.2.2.2.2.2.2.2.1
  by_cases h9 : 1 ≤ d ∧ d ≤ 60
  · obtain ⟨dd, hd, rfl⟩ := rk_nat (m := 60) (by decide) (Int32.le_trans (show (0 : Int32) ≤ 1 by decide) h9.1) h9.2
    have hcl : (nI dd).toNatClampNeg = dd := nI_clamp (by omega)
    have hbad : ¬ N 10 + nI dd ≤ 3000 → sp_pass N (nI dd) = (-5, none) := fun z => by unfold sp_pass; rw [if_pos h9, if_neg z]
    have hgood : N 10 + nI dd ≤ 3000 → sp_pass N (nI dd) = (N 10 + nI dd, some (sp_u (sp_u (sp_u N 16 (N 16 + sp_fines N dd (sp_c N 13))) 10 (N 10 + nI dd)) 11 0)) := fun z => by unfold sp_pass; rw [if_pos h9, if_pos z, hcl]
    refine rk_bJ (ls := [(0, _), (1, _)]) (by decide) rfl (Nat.le_of_ble_eq_true rfl) ?_
    refine rk_iload_n 1 dX9_passDays_0 rfl rfl ?_
    refine rk_iconst 1 dX9_passDays_1 (by decide) ?_
    refine rk_bipush 60 dX9_passDays_2 (by decide) ?_
    refine rk_cSNp (cX10_inRange_s _ _ _) rk_eX10_inRange rfl rk_nX9_58 dX9_passDays_4 rfl (by decide) (Nat.le_of_ble_eq_true rfl) ⟨Nat.le_refl _, Nat.le_refl _⟩ ?_
    refine rk_if_ne 13 dX9_passDays_7 (by decide) (fun qz7 => ?_) (fun qz7 => ?_)
    · skip
      refine rk_aload_n 0 dX9_passDays_13 rfl rfl ?_
      refine rk_g10_3 rk_kX9_42 dX9_passDays_14 ?_
      rw [h3]
      refine rk_pc (pc' := 17) rfl ?_
      refine rk_iload_n 1 dX9_passDays_17 rfl rfl ?_
      refine rk_iadd dX9_passDays_18 ?_
      refine rk_sipush 3000 dX9_passDays_19 (by decide) ?_
      refine rk_icmp_le 28 dX9_passDays_22 (by decide) (fun qz22 => ?_) (fun qz22 => ?_)
      · skip
        refine rk_aload_n 0 dX9_passDays_28 rfl rfl ?_
        refine rk_dup dX9_passDays_29 rfl ?_
        refine rk_g10_7 rk_kX9_55 dX9_passDays_30 ?_
        rw [h7]
        refine rk_pc (pc' := 33) rfl ?_
        refine rk_aload_n 0 dX9_passDays_33 rfl rfl ?_
        refine rk_iload_n 1 dX9_passDays_34 rfl rfl ?_
        refine rk_cVp (cX9_finesOver_s hv h (by omega)) rk_eX9_finesOver rfl ⟨rfl, rfl⟩ rk_kX9_196 dX9_passDays_35 rfl (by decide) (Nat.le_of_ble_eq_true rfl) ⟨Nat.le_refl _, Nat.le_refl _⟩ ?_
        refine rk_iadd dX9_passDays_38 ?_
        refine rk_p10_7 rk_kX9_55 dX9_passDays_39 (fun Iz1 eIz1 => ?_)
        refine rk_aload_n 0 dX9_passDays_42 rfl rfl ?_
        refine rk_pc (pc' := 43) rfl ?_
        refine rk_dup dX9_passDays_43 rfl ?_
        refine rk_g10_3 rk_kX9_42 dX9_passDays_44 ?_
        rw [rk_ufn eIz1 3 (by decide), h3]
        refine rk_iload_n 1 dX9_passDays_47 rfl rfl ?_
        refine rk_iadd dX9_passDays_48 ?_
        refine rk_p10_3 rk_kX9_42 dX9_passDays_49 (fun Iz2 eIz2 => ?_)
        refine rk_aload_n 0 dX9_passDays_52 rfl rfl ?_
        refine rk_pc (pc' := 53) rfl ?_
        refine rk_iconst 0 dX9_passDays_53 (by decide) ?_
        refine rk_p10_4 rk_kX9_46 dX9_passDays_54 (fun Iz3 eIz3 => ?_)
        refine rk_aload_n 0 dX9_passDays_57 rfl rfl ?_
        refine rk_g10_3 rk_kX9_42 dX9_passDays_58 ?_
        rw [rk_ufn eIz3 3 (by decide), rk_ufs eIz2]
        refine rk_iretJ dX9_passDays_61 rfl rfl ?_
        have y1 := h.u (j := 7) (m := 16) (v := N 16 + sp_fines N dd (sp_c N 13)) hv.c12 hv.c13 (by omega) (fun z => absurd z (by decide))
        rw [← eIz1] at y1
        have y2 := y1.u (j := 3) (m := 10) (v := N 10 + nI dd) (by rw [sp_un (by decide)]; exact hv.c12) (by rw [sp_un (by decide)]; exact hv.c13) (by omega) (fun z => absurd z (by decide))
        rw [← eIz2] at y2
        have y3 := y2.u (j := 4) (m := 11) (v := 0) (by rw [sp_un (by decide), sp_un (by decide)]; exact hv.c12) (by rw [sp_un (by decide), sp_un (by decide)]; exact hv.c13) (by omega) (fun _ => ⟨0, by decide, rfl⟩)
        rw [← eIz3] at y3
        refine cl_Q1 (hgood qz22) ?_ y3
        rw [eIz3, eIz2, eIz1]
        have hy : rg y / 4 = t := by rw [h.1.1]; omega
        exact ((cl_fr.ui hy).tr (cl_fr.ui hy)).tr (cl_fr.ui hy)
      · skip
        refine rk_bipush (-5) dX9_passDays_25 (by decide) ?_
        refine rk_iretJ dX9_passDays_27 rfl rfl ?_
        exact cl_Q0 h (hbad qz22)
    · skip
      exact absurd h9 (sp_bf qz7)
  · have hno : sp_pass N d = (-2, none) := by unfold sp_pass; rw [if_neg h9]
    refine rk_bJ (ls := [(0, _), (1, _)]) (by decide) rfl (Nat.le_of_ble_eq_true rfl) ?_
    refine rk_iload_n 1 dX9_passDays_0 rfl rfl ?_
    refine rk_iconst 1 dX9_passDays_1 (by decide) ?_
    refine rk_bipush 60 dX9_passDays_2 (by decide) ?_
    refine rk_cSNp (cX10_inRange_s _ _ _) rk_eX10_inRange rfl rk_nX9_58 dX9_passDays_4 rfl (by decide) (Nat.le_of_ble_eq_true rfl) ⟨Nat.le_refl _, Nat.le_refl _⟩ ?_
    refine rk_if_ne 13 dX9_passDays_7 (by decide) (fun qz7 => ?_) (fun qz7 => ?_)
    · skip
      exact absurd (sp_bt qz7) h9
    · skip
      refine rk_bipush (-2) dX9_passDays_10 (by decide) ?_
      refine rk_iretJ dX9_passDays_12 rfl rfl ?_
      exact cl_Q0 h hno
theorem cX9_dropOrder_s (hv : sp_iv T N) (h : cl_y rg I R y t N) (x : Int32) : rk_J w l rk_mX9_dropOrder 3 [rk_a 10 y, rk_i x] Sh I R (cl_Q rg I R y t N (sp_drop N x)) := by
  obtain ⟨c, hc2, hc⟩ := hv.c13
  have hcc : sp_c N 13 = c := sp_cN hc (by omega)
  have h1 : I 1 (R 10 y 2) 1 = N 13 := h.2.2.2.1.1
  have h7 : I 10 y 7 = N 16 := h.2.2.2.2.2.2.2.2.1
  by_cases hp : sp_isor N x
  · obtain ⟨i, hi, rfl⟩ := sp_isor_n hp hc hc2
    have ci : (nI i).toNatClampNeg = i := nI_clamp (by omega)
    have hP := h.2.2.2.1.2.1 i (by omega)
    have hgood : sp_drop N (nI i) = (N 9 * N (220 + 7 * i + 3), some (sp_gone (sp_u N 16 (N 16 + N 9 * N (220 + 7 * i + 3))) 13 220 i)) := by unfold sp_drop; rw [if_pos hp, ci]
    refine rk_bJ (ls := [(0, _), (1, _)]) (by decide) rfl (Nat.le_of_ble_eq_true rfl) ?_
    refine rk_aload_n 0 dX9_dropOrder_0 rfl rfl ?_
    refine rk_g10_2 rk_kX9_28 dX9_dropOrder_1 ?_
    refine rk_iload_n 1 dX9_dropOrder_4 rfl rfl ?_
    refine rk_cVp (cX0_has_n h1) rk_eX0_has rfl ⟨rfl, rfl⟩ rk_kX9_187 dX9_dropOrder_5 rfl (by decide) (Nat.le_of_ble_eq_true rfl) ⟨Nat.le_refl _, Nat.le_refl _⟩ ?_
    refine rk_if_ne 13 dX9_dropOrder_8 (by decide) (fun qz8 => ?_) (fun qz8 => ?_)
    · skip
      refine rk_aload_n 0 dX9_dropOrder_13 rfl rfl ?_
      refine rk_g10_0 rk_kX9_12 dX9_dropOrder_14 ?_
      refine rk_pc (pc' := 17) rfl ?_
      refine rk_g7_0 rk_kX9_69 dX9_dropOrder_17 ?_
      refine rk_bipush 9 dX9_dropOrder_20 (by decide) ?_
      refine rk_rn17 9 dX9_dropOrder_22 rfl (by first | decide | assumption | omega) ?_
      rw [h.2.1.1 9 (by decide)]
      refine rk_aload_n 0 dX9_dropOrder_23 rfl rfl ?_
      refine rk_g10_2 rk_kX9_28 dX9_dropOrder_24 ?_
      refine rk_g1_0 rk_kX9_158 dX9_dropOrder_27 ?_
      refine rk_pc (pc' := 30) rfl ?_
      refine rk_iload_n 1 dX9_dropOrder_30 rfl rfl ?_
      refine rk_rn13 (i) dX9_dropOrder_31 (by first | rfl | decide | assumption | (simp only [rk_lit, nI_add, pk_mul, nI_1]; done) | (simp only [rk_lit, nI_add, pk_mul, nI_1]; congr 1; omega)) (by first | decide | assumption | omega) ?_
      refine rk_g3_3 rk_kX9_174 dX9_dropOrder_32 ?_
      rw [hP 3 (by decide)]
      refine rk_imul dX9_dropOrder_35 ?_
      refine rk_istore_n 2 (ls' := [(2, _), (0, _), (1, _)]) dX9_dropOrder_36 rfl (by decide) rfl ?_
      refine rk_aload_n 0 dX9_dropOrder_37 rfl rfl ?_
      refine rk_pc (pc' := 38) rfl ?_
      refine rk_dup dX9_dropOrder_38 rfl ?_
      refine rk_g10_7 rk_kX9_55 dX9_dropOrder_39 ?_
      rw [h7]
      refine rk_iload_n 2 dX9_dropOrder_42 rfl rfl ?_
      refine rk_iadd dX9_dropOrder_43 ?_
      refine rk_p10_7 rk_kX9_55 dX9_dropOrder_44 (fun Iz1 eIz1 => ?_)
      refine rk_aload_n 0 dX9_dropOrder_47 rfl rfl ?_
      refine rk_pc (pc' := 48) rfl ?_
      refine rk_g10_2 rk_kX9_28 dX9_dropOrder_48 ?_
      refine rk_iload_n 1 dX9_dropOrder_51 rfl rfl ?_
      refine rk_cVv (cX0_remove_s (c := c) hc2 hi (by rw [eIz1, rk_uI_n (fun z => absurd z.1 (by decide)), h1, hc])) rk_eX0_remove rfl ⟨rfl, rfl⟩ rk_kX9_192 dX9_dropOrder_52 rfl (by decide) (Nat.le_of_ble_eq_true rfl) ⟨Nat.le_refl _, Nat.le_refl _⟩ (fun Iz2 Rz2 hz2 => ?_)
      obtain ⟨eIz2, eRz2⟩ := hz2
      refine rk_iload_n 2 dX9_dropOrder_55 rfl rfl ?_
      refine rk_iretJ dX9_dropOrder_56 rfl rfl ?_
      have y1 := h.u (j := 7) (m := 16) (v := N 16 + N 9 * N (220 + 7 * i + 3)) hv.c12 hv.c13 (by omega) (fun z => absurd z (by decide))
      rw [← eIz1] at y1
      have k13 : sp_u N 16 (N 16 + N 9 * N (220 + 7 * i + 3)) 13 = nI c := by rw [sp_un (by decide)]; exact hc
      have b2 := y1.2.2.2.1.rm k13 hc2 hi
      rw [← eIz2, ← eRz2] at b2
      have s2 := y1.1.2.2.2.rm hc2 hi
      rw [← eRz2] at s2
      have g1 : cl_fr rg (fun z => z / 4 = t) I R Iz1 R := by rw [eIz1]; exact cl_fr.ui (by rw [h.1.1]; omega)
      have g2 : cl_fr rg (fun z => z = 4 * t + 3) Iz1 R Iz2 Rz2 := by rw [eIz2, eRz2]; exact (cl_fr.ui (S := fun z => z = 4 * t + 3) y1.1.2.2.2.1).tr (cl_fr.mr (S := fun z => z = 4 * t + 3) y1.1.2.2.2.2.1 (Or.inl rfl))
      exact cl_Q1 hgood (g1.tr (g2.mo (fun z hz => by omega))) (y1.bk (by rw [sp_un (by decide)]; exact hv.c12) b2 s2 g2 (fun k hk => sp_gone_x k13 (by omega) (by omega) (by omega)))
    · skip
      exact absurd hp (sp_bf qz8)
  · have hno : sp_drop N x = (-1, none) := by unfold sp_drop; rw [if_neg hp]
    refine rk_bJ (ls := [(0, _), (1, _)]) (by decide) rfl (Nat.le_of_ble_eq_true rfl) ?_
    refine rk_aload_n 0 dX9_dropOrder_0 rfl rfl ?_
    refine rk_g10_2 rk_kX9_28 dX9_dropOrder_1 ?_
    refine rk_iload_n 1 dX9_dropOrder_4 rfl rfl ?_
    refine rk_cVp (cX0_has_n h1) rk_eX0_has rfl ⟨rfl, rfl⟩ rk_kX9_187 dX9_dropOrder_5 rfl (by decide) (Nat.le_of_ble_eq_true rfl) ⟨Nat.le_refl _, Nat.le_refl _⟩ ?_
    refine rk_if_ne 13 dX9_dropOrder_8 (by decide) (fun qz8 => ?_) (fun qz8 => ?_)
    · skip
      exact absurd (sp_bt qz8) hp
    · skip
      refine rk_iconst (-1) dX9_dropOrder_11 (by decide) ?_
      refine rk_iretJ dX9_dropOrder_12 rfl rfl ?_
      exact cl_Q0 h hno
end CT

