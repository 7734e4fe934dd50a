section CW
variable {w : rk_W} {l : Launch} {Sh : rk_Sh} {rg : Nat → Nat} {I : rk_Mm} {R : rk_Rm} {y t : Nat} {N : Nat → Int32} {T : Int}
theorem rk_tout {k : Int32} {n : Nat} (hn : n < 2 ^ 31) (h : k.toInt < 0 ∨ (n : Int) < k.toInt) {m : Nat} (hm : m ≤ n) : ¬ (0 ≤ k ∧ k ≤ nI m) ∧ k ≠ nI m := by
  refine ⟨fun z => ?_, fun z => ?_⟩
  · obtain ⟨j, hj, rfl⟩ := rk_in_n (n := m) rfl (by omega) z
    rw [nI_toInt (by omega)] at h
    omega
  · subst z
    rw [nI_toInt (by omega)] at h
    omega
theorem sp_pc7 {i v : Nat} (hp : sp_ispc N (nI i)) (hi : i < 2 ^ 31) (hv : v ≤ 6) : sp_piece N (nI i) (nI v) = N (50 + 7 * i + v) := by
  unfold sp_piece
  rw [if_pos hp, if_pos ⟨nI_pos' (by omega), nI_le (b := 6) hv (by decide)⟩, nI_clamp hi, nI_clamp (by omega)]
theorem sp_pc8 {i : Nat} (hp : sp_ispc N (nI i)) (hi : i < 2 ^ 31) : sp_piece N (nI i) 7 = sp_st N (sp_P N i) := by
  unfold sp_piece
  rw [if_pos hp, if_neg (by decide), if_pos rfl, nI_clamp hi]
theorem sp_pc9 {i : Nat} {k : Int32} (hp : sp_ispc N (nI i)) (h1 : ¬ (0 ≤ k ∧ k ≤ 6)) (h2 : k ≠ 7) : sp_piece N (nI i) k = -2 := by
  unfold sp_piece
  rw [if_pos hp, if_neg h1, if_neg h2]
theorem sp_or7 {i v : Nat} (hp : sp_isor N (nI i)) (hi : i < 2 ^ 31) (hv : v ≤ 6) : sp_ofOrder N (nI i) (nI v) = N (220 + 7 * i + v) := by
  unfold sp_ofOrder
  rw [if_pos hp, if_pos ⟨nI_pos' (by omega), nI_le (b := 6) hv (by decide)⟩, nI_clamp hi, nI_clamp (by omega)]
theorem sp_or8 {i : Nat} (hp : sp_isor N (nI i)) (hi : i < 2 ^ 31) : sp_ofOrder N (nI i) 7 = sp_ns N (sp_P N) (sp_O N i) (sp_c N 12) := by
  unfold sp_ofOrder
  rw [if_pos hp, if_neg (by decide), if_pos rfl, nI_clamp hi]
theorem sp_or9 {i : Nat} {k : Int32} (hp : sp_isor N (nI i)) (h1 : ¬ (0 ≤ k ∧ k ≤ 6)) (h2 : k ≠ 7) : sp_ofOrder N (nI i) k = -2 := by
  unfold sp_ofOrder
  rw [if_pos hp, if_neg h1, if_neg h2]
theorem cX9_aboutPiece_s (hv : sp_iv T N) (h : cl_y rg I R y t N) (p k : Int32) : rk_P w l rk_mX9_aboutPiece 3 [rk_a 10 y, rk_i p, rk_i k] Sh I R (sp_piece N p k) := by
  obtain ⟨c, hpv⟩ := hv.1
  have hc := hpv.2.1
  have hc2 := hpv.1
  have hcc : sp_c N 12 = c := sp_cN hc (by omega)
  have h8 : I 8 (R 10 y 1) 1 = N 12 := h.2.2.1.2.1.1
  by_cases hp : sp_ispc N p
  · obtain ⟨i, hi, rfl⟩ := sp_ispc_n hp hc hc2
    have hP := h.2.2.1.2.1.2 i (by omega)
    obtain ⟨f, hf, hf0⟩ := hpv.2.2.1 i hi
    refine rk_bP (ls := [(0, _), (1, _), (2, _)]) (by decide) rfl (Nat.le_of_ble_eq_true rfl) ?_
    refine rk_aload_n 0 dX9_aboutPiece_0 rfl rfl ?_
    refine rk_g10_1 rk_kX9_21 dX9_aboutPiece_1 ?_
    refine rk_iload_n 1 dX9_aboutPiece_4 rfl rfl ?_
    refine rk_cVp (cX7_has_n h8) rk_eX7_has rfl ⟨rfl, rfl⟩ rk_kX9_128 dX9_aboutPiece_5 rfl (by decide) (Nat.le_of_ble_eq_true rfl) ⟨Nat.le_refl _, Nat.le_refl _⟩ ?_
    refine rk_if_ne 13 dX9_aboutPiece_8 (by decide) (fun qz8 => ?_) (fun qz8 => ?_)
    · skip
      refine rk_aload_n 0 dX9_aboutPiece_13 rfl rfl ?_
      refine rk_g10_1 rk_kX9_21 dX9_aboutPiece_14 ?_
      refine rk_pc (pc' := 17) rfl ?_
      refine rk_g8_0 rk_kX9_131 dX9_aboutPiece_17 ?_
      refine rk_iload_n 1 dX9_aboutPiece_20 rfl rfl ?_
      refine rk_rn20 (i) dX9_aboutPiece_21 (by first | rfl | decide | assumption | (simp only [rk_lit, nI_add, pk_mul, nI_1]; done) | (simp only [rk_lit, nI_add, pk_mul, nI_1]; congr 1; omega)) (by first | decide | assumption | omega) ?_
      refine rk_astore_n 3 (ls' := [(3, _), (0, _), (1, _), (2, _)]) dX9_aboutPiece_22 rfl (by decide) rfl ?_
      refine rk_iload_n 2 dX9_aboutPiece_23 rfl rfl ?_
      refine rk_tsw 116 dX9_aboutPiece_24 (by decide) (by decide) (by decide) ?_ (fun qz24 => ?_)
      · refine ⟨fun qz24 => ?_, fun qz24 => ?_, fun qz24 => ?_, fun qz24 => ?_, fun qz24 => ?_, fun qz24 => ?_, fun qz24 => ?_, fun qz24 => ?_, trivial⟩
        · skip
          have hw : k = 0 := rk_toI qz24 (by decide)
          subst hw
          refine rk_pc (pc' := 72) (by decide) ?_
          refine rk_aload_n 3 dX9_aboutPiece_72 rfl rfl ?_
          refine rk_pc (pc' := 73) rfl ?_
          refine rk_g5_0 rk_kX9_202 dX9_aboutPiece_73 ?_
          refine rk_iretP dX9_aboutPiece_76 rfl rfl ?_
          rw [hP 0 (by decide)]; exact (sp_pc7 (v := 0) hp (by omega) (by decide)).symm
        · skip
          have hw : k = 1 := rk_toI qz24 (by decide)
          subst hw
          refine rk_pc (pc' := 77) (by decide) ?_
          refine rk_aload_n 3 dX9_aboutPiece_77 rfl rfl ?_
          refine rk_g5_1 rk_kX9_203 dX9_aboutPiece_78 ?_
          refine rk_iretP dX9_aboutPiece_81 rfl rfl ?_
          rw [hP 1 (by decide)]; exact (sp_pc7 (v := 1) hp (by omega) (by decide)).symm
        · skip
          have hw : k = 2 := rk_toI qz24 (by decide)
          subst hw
          refine rk_pc (pc' := 82) (by decide) ?_
          refine rk_aload_n 3 dX9_aboutPiece_82 rfl rfl ?_
          refine rk_g5_2 rk_kX9_206 dX9_aboutPiece_83 ?_
          refine rk_iretP dX9_aboutPiece_86 rfl rfl ?_
          rw [hP 2 (by decide)]; exact (sp_pc7 (v := 2) hp (by omega) (by decide)).symm
        · skip
          have hw : k = 3 := rk_toI qz24 (by decide)
          subst hw
          refine rk_pc (pc' := 87) (by decide) ?_
          refine rk_aload_n 3 dX9_aboutPiece_87 rfl rfl ?_
          refine rk_pc (pc' := 88) rfl ?_
          refine rk_g5_3 rk_kX9_141 dX9_aboutPiece_88 ?_
          refine rk_iretP dX9_aboutPiece_91 rfl rfl ?_
          rw [hP 3 (by decide)]; exact (sp_pc7 (v := 3) hp (by omega) (by decide)).symm
        · skip
          have hw : k = 4 := rk_toI qz24 (by decide)
          subst hw
          refine rk_pc (pc' := 92) (by decide) ?_
          refine rk_aload_n 3 dX9_aboutPiece_92 rfl rfl ?_
          refine rk_g5_4 rk_kX9_209 dX9_aboutPiece_93 ?_
          refine rk_iretP dX9_aboutPiece_96 rfl rfl ?_
          rw [hP 4 (by decide)]; exact (sp_pc7 (v := 4) hp (by omega) (by decide)).symm
        · skip
          have hw : k = 5 := rk_toI qz24 (by decide)
          subst hw
          refine rk_pc (pc' := 97) (by decide) ?_
          refine rk_aload_n 3 dX9_aboutPiece_97 rfl rfl ?_
          refine rk_g5_5 rk_kX9_212 dX9_aboutPiece_98 ?_
          refine rk_iretP dX9_aboutPiece_101 rfl rfl ?_
          rw [hP 5 (by decide)]; exact (sp_pc7 (v := 5) hp (by omega) (by decide)).symm
        · skip
          have hw : k = 6 := rk_toI qz24 (by decide)
          subst hw
          refine rk_pc (pc' := 102) (by decide) ?_
          refine rk_aload_n 3 dX9_aboutPiece_102 rfl rfl ?_
          refine rk_pc (pc' := 103) rfl ?_
          refine rk_g5_6 rk_kX9_215 dX9_aboutPiece_103 ?_
          refine rk_iretP dX9_aboutPiece_106 rfl rfl ?_
          rw [hP 6 (by decide)]; exact (sp_pc7 (v := 6) hp (by omega) (by decide)).symm
        · skip
          have hw : k = 7 := rk_toI qz24 (by decide)
          subst hw
          refine rk_pc (pc' := 107) (by decide) ?_
          refine rk_aload_n 0 dX9_aboutPiece_107 rfl rfl ?_
          refine rk_g10_0 rk_kX9_12 dX9_aboutPiece_108 ?_
          refine rk_aload_n 3 dX9_aboutPiece_111 rfl rfl ?_
          refine rk_cVp (cX6_strengthOf_s (P := sp_P N i) h.2.1 hP hf hf0) rk_eX6_strengthOf rfl ⟨rfl, rfl⟩ rk_kX9_147 dX9_aboutPiece_112 rfl (by decide) (Nat.le_of_ble_eq_true rfl) ⟨Nat.le_refl _, Nat.le_refl _⟩ ?_
          refine rk_iretP dX9_aboutPiece_115 rfl rfl ?_
          exact (sp_pc8 hp (by omega)).symm
      · skip
        refine rk_bipush (-2) dX9_aboutPiece_116 (by decide) ?_
        refine rk_pc (pc' := 118) rfl ?_
        refine rk_iretP dX9_aboutPiece_118 rfl rfl ?_
        exact (sp_pc9 hp (rk_tout (n := 7) (by decide) qz24 (m := 6) (by decide)).1 (rk_tout (n := 7) (by decide) qz24 (m := 7) (by decide)).2).symm
    · skip
      exact absurd hp (sp_bf qz8)
  · have hno : sp_piece N p k = -1 := by unfold sp_piece; rw [if_neg hp]
    refine rk_bP (ls := [(0, _), (1, _), (2, _)]) (by decide) rfl (Nat.le_of_ble_eq_true rfl) ?_
    refine rk_aload_n 0 dX9_aboutPiece_0 rfl rfl ?_
    refine rk_g10_1 rk_kX9_21 dX9_aboutPiece_1 ?_
    refine rk_iload_n 1 dX9_aboutPiece_4 rfl rfl ?_
    refine rk_cVp (cX7_has_n h8) rk_eX7_has rfl ⟨rfl, rfl⟩ rk_kX9_128 dX9_aboutPiece_5 rfl (by decide) (Nat.le_of_ble_eq_true rfl) ⟨Nat.le_refl _, Nat.le_refl _⟩ ?_
    refine rk_if_ne 13 dX9_aboutPiece_8 (by decide) (fun qz8 => ?_) (fun qz8 => ?_)
    · skip
      exact absurd (sp_bt qz8) hp
    · skip
      refine rk_iconst (-1) dX9_aboutPiece_11 (by decide) ?_
      refine rk_iretP dX9_aboutPiece_12 rfl rfl ?_
      exact hno.symm
theorem cX9_aboutOrder_s (hv : sp_iv T N) (h : cl_y rg I R y t N) (p k : Int32) : rk_P w l rk_mX9_aboutOrder 5 [rk_a 10 y, rk_i p, rk_i k] Sh I R (sp_ofOrder N p k) := by
  obtain ⟨pc, hpv⟩ := hv.1
  obtain ⟨c, hc2, hc⟩ := hv.c13
  have hcc : sp_c N 13 = c := sp_cN hc (by omega)
  have h1 : I 1 (R 10 y 2) 1 = N 13 := h.2.2.2.1.1
  by_cases hp : sp_isor N p
  · obtain ⟨i, hi, rfl⟩ := sp_isor_n hp hc hc2
    have hP := h.2.2.2.1.2.1 i (by omega)
    have h4 : N (220 + 7 * i + 4) = 0 ∨ N (220 + 7 * i + 4) = 1 := h.2.2.2.1.2.2 i (by omega)
    have hns := cX7_suitingCount_s (w := w) (l := l) (Sh := Sh) (o := R 13 (R 1 (R 10 y 2) 0) i) h.2.2.1.2.1 hpv.2.1 hpv.1 h.2.1 hpv.2.2.1 (by rw [hP 4 (by decide)]; exact h4)
    have hns2 : sp_ns N (sp_P N) (I 3 (R 13 (R 1 (R 10 y 2) 0) i)) pc = sp_ns N (sp_P N) (sp_O N i) (sp_c N 12) := by
      rw [sp_cN hpv.2.1 (by have := hpv.1; omega)]
      exact sp_ns_c (hP 0 (by decide)) (hP 1 (by decide)) (hP 2 (by decide)) (hP 4 (by decide)) pc
    rw [hns2] at hns
    refine rk_bP (ls := [(0, _), (1, _), (2, _)]) (by decide) rfl (Nat.le_of_ble_eq_true rfl) ?_
    refine rk_aload_n 0 dX9_aboutOrder_0 rfl rfl ?_
    refine rk_g10_2 rk_kX9_28 dX9_aboutOrder_1 ?_
    refine rk_iload_n 1 dX9_aboutOrder_4 rfl rfl ?_
    refine rk_cVp (cX0_has_n h1) rk_eX0_has rfl ⟨rfl, rfl⟩ rk_kX9_187 dX9_aboutOrder_5 rfl (by decide) (Nat.le_of_ble_eq_true rfl) ⟨Nat.le_refl _, Nat.le_refl _⟩ ?_
    refine rk_if_ne 13 dX9_aboutOrder_8 (by decide) (fun qz8 => ?_) (fun qz8 => ?_)
    · skip
      refine rk_aload_n 0 dX9_aboutOrder_13 rfl rfl ?_
      refine rk_g10_2 rk_kX9_28 dX9_aboutOrder_14 ?_
      refine rk_pc (pc' := 17) rfl ?_
      refine rk_g1_0 rk_kX9_158 dX9_aboutOrder_17 ?_
      refine rk_iload_n 1 dX9_aboutOrder_20 rfl rfl ?_
      refine rk_rn13 (i) dX9_aboutOrder_21 (by first | rfl | decide | assumption | (simp only [rk_lit, nI_add, pk_mul, nI_1]; done) | (simp only [rk_lit, nI_add, pk_mul, nI_1]; congr 1; omega)) (by first | decide | assumption | omega) ?_
      refine rk_astore_n 3 (ls' := [(3, _), (0, _), (1, _), (2, _)]) dX9_aboutOrder_22 rfl (by decide) rfl ?_
      refine rk_iload_n 2 dX9_aboutOrder_23 rfl rfl ?_
      refine rk_tsw 128 dX9_aboutOrder_24 (by decide) (by decide) (by decide) ?_ (fun qz24 => ?_)
      · refine ⟨fun qz24 => ?_, fun qz24 => ?_, fun qz24 => ?_, fun qz24 => ?_, fun qz24 => ?_, fun qz24 => ?_, fun qz24 => ?_, fun qz24 => ?_, trivial⟩
        · skip
          have hw : k = 0 := rk_toI qz24 (by decide)
          subst hw
          refine rk_pc (pc' := 72) (by decide) ?_
          refine rk_aload_n 3 dX9_aboutOrder_72 rfl rfl ?_
          refine rk_pc (pc' := 73) rfl ?_
          refine rk_g3_0 rk_kX9_165 dX9_aboutOrder_73 ?_
          refine rk_iretP dX9_aboutOrder_76 rfl rfl ?_
          rw [hP 0 (by decide)]; exact (sp_or7 (v := 0) hp (by omega) (by decide)).symm
        · skip
          have hw : k = 1 := rk_toI qz24 (by decide)
          subst hw
          refine rk_pc (pc' := 77) (by decide) ?_
          refine rk_aload_n 3 dX9_aboutOrder_77 rfl rfl ?_
          refine rk_g3_1 rk_kX9_170 dX9_aboutOrder_78 ?_
          refine rk_iretP dX9_aboutOrder_81 rfl rfl ?_
          rw [hP 1 (by decide)]; exact (sp_or7 (v := 1) hp (by omega) (by decide)).symm
        · skip
          have hw : k = 2 := rk_toI qz24 (by decide)
          subst hw
          refine rk_pc (pc' := 82) (by decide) ?_
          refine rk_aload_n 3 dX9_aboutOrder_82 rfl rfl ?_
          refine rk_g3_2 rk_kX9_173 dX9_aboutOrder_83 ?_
          refine rk_iretP dX9_aboutOrder_86 rfl rfl ?_
          rw [hP 2 (by decide)]; exact (sp_or7 (v := 2) hp (by omega) (by decide)).symm
        · skip
          have hw : k = 3 := rk_toI qz24 (by decide)
          subst hw
          refine rk_pc (pc' := 87) (by decide) ?_
          refine rk_aload_n 3 dX9_aboutOrder_87 rfl rfl ?_
          refine rk_pc (pc' := 88) rfl ?_
          refine rk_g3_3 rk_kX9_174 dX9_aboutOrder_88 ?_
          refine rk_iretP dX9_aboutOrder_91 rfl rfl ?_
          rw [hP 3 (by decide)]; exact (sp_or7 (v := 3) hp (by omega) (by decide)).symm
        · skip
          have hw : k = 4 := rk_toI qz24 (by decide)
          subst hw
          refine rk_pc (pc' := 92) (by decide) ?_
          refine rk_aload_n 3 dX9_aboutOrder_92 rfl rfl ?_
          refine rk_g3_4 rk_kX9_177 dX9_aboutOrder_93 ?_
          rw [hP 4 (by decide)]
          refine rk_if_eq 103 dX9_aboutOrder_96 (by decide) (fun qz96 => ?_) (fun qz96 => ?_)
          · skip
            refine rk_iconst 0 dX9_aboutOrder_103 (by decide) ?_
            refine rk_iretP dX9_aboutOrder_104 rfl rfl ?_
            have e4 : sp_ofOrder N (nI i) 4 = N (220 + 7 * i + 4) := sp_or7 (v := 4) hp (by omega) (by decide)
            rw [e4]
            first | exact qz96.symm | exact (h4.resolve_left qz96).symm
          · skip
            refine rk_iconst 1 dX9_aboutOrder_99 (by decide) ?_
            refine rk_goto 104 dX9_aboutOrder_100 (by decide) ?_
            refine rk_pc (pc' := 104) rfl ?_
            refine rk_iretP dX9_aboutOrder_104 rfl rfl ?_
            have e4 : sp_ofOrder N (nI i) 4 = N (220 + 7 * i + 4) := sp_or7 (v := 4) hp (by omega) (by decide)
            rw [e4]
            first | exact qz96.symm | exact (h4.resolve_left qz96).symm
        · skip
          have hw : k = 5 := rk_toI qz24 (by decide)
          subst hw
          refine rk_pc (pc' := 105) (by decide) ?_
          refine rk_aload_n 3 dX9_aboutOrder_105 rfl rfl ?_
          refine rk_g3_5 rk_kX9_181 dX9_aboutOrder_106 ?_
          refine rk_iretP dX9_aboutOrder_109 rfl rfl ?_
          rw [hP 5 (by decide)]; exact (sp_or7 (v := 5) hp (by omega) (by decide)).symm
        · skip
          have hw : k = 6 := rk_toI qz24 (by decide)
          subst hw
          refine rk_pc (pc' := 110) (by decide) ?_
          refine rk_aload_n 3 dX9_aboutOrder_110 rfl rfl ?_
          refine rk_g3_6 rk_kX9_184 dX9_aboutOrder_111 ?_
          refine rk_iretP dX9_aboutOrder_114 rfl rfl ?_
          rw [hP 6 (by decide)]; exact (sp_or7 (v := 6) hp (by omega) (by decide)).symm
        · skip
          have hw : k = 7 := rk_toI qz24 (by decide)
          subst hw
          refine rk_pc (pc' := 115) (by decide) ?_
          refine rk_aload_n 0 dX9_aboutOrder_115 rfl rfl ?_
          refine rk_g10_1 rk_kX9_21 dX9_aboutOrder_116 ?_
          refine rk_pc (pc' := 119) rfl ?_
          refine rk_aload_n 3 dX9_aboutOrder_119 rfl rfl ?_
          refine rk_aload_n 0 dX9_aboutOrder_120 rfl rfl ?_
          refine rk_g10_0 rk_kX9_12 dX9_aboutOrder_121 ?_
          refine rk_cVp (hns) rk_eX7_suitingCount rfl ⟨rfl, rfl⟩ rk_kX9_218 dX9_aboutOrder_124 rfl (by decide) (Nat.le_of_ble_eq_true rfl) ⟨Nat.le_refl _, Nat.le_refl _⟩ ?_
          refine rk_iretP dX9_aboutOrder_127 rfl rfl ?_
          exact (sp_or8 hp (by omega)).symm
      · skip
        refine rk_bipush (-2) dX9_aboutOrder_128 (by decide) ?_
        refine rk_iretP dX9_aboutOrder_130 rfl rfl ?_
        exact (sp_or9 hp (rk_tout (n := 7) (by decide) qz24 (m := 6) (by decide)).1 (rk_tout (n := 7) (by decide) qz24 (m := 7) (by decide)).2).symm
    · skip
      exact absurd hp (sp_bf qz8)
  · have hno : sp_ofOrder N p k = -1 := by unfold sp_ofOrder; rw [if_neg hp]
    refine rk_bP (ls := [(0, _), (1, _), (2, _)]) (by decide) rfl (Nat.le_of_ble_eq_true rfl) ?_
    refine rk_aload_n 0 dX9_aboutOrder_0 rfl rfl ?_
    refine rk_g10_2 rk_kX9_28 dX9_aboutOrder_1 ?_
    refine rk_iload_n 1 dX9_aboutOrder_4 rfl rfl ?_
    refine rk_cVp (cX0_has_n h1) rk_eX0_has rfl ⟨rfl, rfl⟩ rk_kX9_187 dX9_aboutOrder_5 rfl (by decide) (Nat.le_of_ble_eq_true rfl) ⟨Nat.le_refl _, Nat.le_refl _⟩ ?_
    refine rk_if_ne 13 dX9_aboutOrder_8 (by decide) (fun qz8 => ?_) (fun qz8 => ?_)
    · skip
      exact absurd (sp_bt qz8) hp
    · skip
      refine rk_iconst (-1) dX9_aboutOrder_11 (by decide) ?_
      refine rk_iretP dX9_aboutOrder_12 rfl rfl ?_
      exact hno.symm
/-- what count tells, but for the pad and the history -/
noncomputable def sp_all (N : Nat → Int32) (k : Int32) : Int32 := @ite _ (9 ≤ k ∧ k ≤ 18) (Classical.propDecidable _) (N (k.toNatClampNeg - 9)) (@ite _ (19 ≤ k ∧ k ≤ 21) (Classical.propDecidable _) (N (20 + 3 * (k.toNatClampNeg - 19))) (@ite _ (22 ≤ k ∧ k ≤ 24) (Classical.propDecidable _) (N (20 + 3 * (k.toNatClampNeg - 22) + 1)) (-2)))
theorem cX9_aboutRules_s (h : cl_y rg I R y t N) (k : Int32) : rk_P w l rk_mX9_aboutRules 2 [rk_a 10 y, rk_i k] Sh I R (sp_all N k) := by
  have hru := h.2.1
  by_cases h1 : 9 ≤ k ∧ k ≤ 18
  · obtain ⟨j, hj, rfl⟩ := rk_nat (m := 18) (by decide) (Int32.le_trans (show (0 : Int32) ≤ 9 by decide) h1.1) h1.2
    have hj9 : 9 ≤ j := (nI_leI (a := 9) (by decide) (by omega)).mp h1.1
    have hs : sp_all N (nI j) = N (j - 9) := by unfold sp_all; rw [if_pos h1, nI_clamp (by omega)]
    refine rk_bP (ls := [(0, _), (1, _)]) (by decide) rfl (Nat.le_of_ble_eq_true rfl) ?_
    refine rk_iload_n 1 dX9_aboutRules_0 rfl rfl ?_
    refine rk_bipush 9 dX9_aboutRules_1 (by decide) ?_
    refine rk_bipush 18 dX9_aboutRules_3 (by decide) ?_
    refine rk_cSNp (cX10_inRange_s _ _ _) rk_eX10_inRange rfl rk_nX9_58 dX9_aboutRules_5 rfl (by decide) (Nat.le_of_ble_eq_true rfl) ⟨Nat.le_refl _, Nat.le_refl _⟩ ?_
    refine rk_if_eq 24 dX9_aboutRules_8 (by decide) (fun qz8 => ?_) (fun qz8 => ?_)
    · skip
      exact absurd h1 (sp_bf qz8)
    · skip
      refine rk_aload_n 0 dX9_aboutRules_11 rfl rfl ?_
      refine rk_g10_0 rk_kX9_12 dX9_aboutRules_12 ?_
      refine rk_pc (pc' := 15) rfl ?_
      refine rk_g7_0 rk_kX9_69 dX9_aboutRules_15 ?_
      refine rk_iload_n 1 dX9_aboutRules_18 rfl rfl ?_
      refine rk_bipush 9 dX9_aboutRules_19 (by decide) ?_
      refine rk_isub dX9_aboutRules_21 ?_
      rw [show nI j - 9 = nI (j - 9) from pk_sub (b := 9) hj9]
      refine rk_rn17 (j - 9) dX9_aboutRules_22 (by first | rfl | decide | assumption | (simp only [rk_lit, nI_add, pk_mul, nI_1]; done) | (simp only [rk_lit, nI_add, pk_mul, nI_1]; congr 1; omega)) (by first | decide | assumption | omega) ?_
      refine rk_iretP dX9_aboutRules_23 rfl rfl ?_
      rw [hs, hru.1 (j - 9) (by omega)]
  · by_cases h2 : 19 ≤ k ∧ k ≤ 21
    · obtain ⟨j, hj, rfl⟩ := rk_nat (m := 21) (by decide) (Int32.le_trans (show (0 : Int32) ≤ 19 by decide) h2.1) h2.2
      have hj9 : 19 ≤ j := (nI_leI (a := 19) (by decide) (by omega)).mp h2.1
      have hs : sp_all N (nI j) = N (20 + 3 * (j - 19)) := by unfold sp_all; rw [if_neg h1, if_pos h2, nI_clamp (by omega)]
      refine rk_bP (ls := [(0, _), (1, _)]) (by decide) rfl (Nat.le_of_ble_eq_true rfl) ?_
      refine rk_iload_n 1 dX9_aboutRules_0 rfl rfl ?_
      refine rk_bipush 9 dX9_aboutRules_1 (by decide) ?_
      refine rk_bipush 18 dX9_aboutRules_3 (by decide) ?_
      refine rk_cSNp (cX10_inRange_s _ _ _) rk_eX10_inRange rfl rk_nX9_58 dX9_aboutRules_5 rfl (by decide) (Nat.le_of_ble_eq_true rfl) ⟨Nat.le_refl _, Nat.le_refl _⟩ ?_
      refine rk_if_eq 24 dX9_aboutRules_8 (by decide) (fun qz8 => ?_) (fun qz8 => ?_)
      · skip
        refine rk_iload_n 1 dX9_aboutRules_24 rfl rfl ?_
        refine rk_bipush 19 dX9_aboutRules_25 (by decide) ?_
        refine rk_pc (pc' := 27) rfl ?_
        refine rk_bipush 21 dX9_aboutRules_27 (by decide) ?_
        refine rk_cSNp (cX10_inRange_s _ _ _) rk_eX10_inRange rfl rk_nX9_58 dX9_aboutRules_29 rfl (by decide) (Nat.le_of_ble_eq_true rfl) ⟨Nat.le_refl _, Nat.le_refl _⟩ ?_
        refine rk_if_eq 48 dX9_aboutRules_32 (by decide) (fun qz32 => ?_) (fun qz32 => ?_)
        · skip
          exact absurd h2 (sp_bf qz32)
        · skip
          refine rk_aload_n 0 dX9_aboutRules_35 rfl rfl ?_
          refine rk_g10_0 rk_kX9_12 dX9_aboutRules_36 ?_
          refine rk_g7_1 rk_kX9_76 dX9_aboutRules_39 ?_
          refine rk_iload_n 1 dX9_aboutRules_42 rfl rfl ?_
          refine rk_pc (pc' := 43) rfl ?_
          refine rk_bipush 19 dX9_aboutRules_43 (by decide) ?_
          refine rk_isub dX9_aboutRules_45 ?_
          rw [show nI j - 19 = nI (j - 19) from pk_sub (b := 19) hj9]
          refine rk_rn18 (j - 19) dX9_aboutRules_46 (by first | rfl | decide | assumption | (simp only [rk_lit, nI_add, pk_mul, nI_1]; done) | (simp only [rk_lit, nI_add, pk_mul, nI_1]; congr 1; omega)) (by first | decide | assumption | omega) ?_
          refine rk_iretP dX9_aboutRules_47 rfl rfl ?_
          rw [hs, hru.2.1 (j - 19) (by omega)]
      · skip
        exact absurd (sp_bt qz8) h1
    · by_cases h3 : 22 ≤ k ∧ k ≤ 24
      · obtain ⟨j, hj, rfl⟩ := rk_nat (m := 24) (by decide) (Int32.le_trans (show (0 : Int32) ≤ 22 by decide) h3.1) h3.2
        have hj9 : 22 ≤ j := (nI_leI (a := 22) (by decide) (by omega)).mp h3.1
        have hs : sp_all N (nI j) = N (20 + 3 * (j - 22) + 1) := by unfold sp_all; rw [if_neg h1, if_neg h2, if_pos h3, nI_clamp (by omega)]
        refine rk_bP (ls := [(0, _), (1, _)]) (by decide) rfl (Nat.le_of_ble_eq_true rfl) ?_
        refine rk_iload_n 1 dX9_aboutRules_0 rfl rfl ?_
        refine rk_bipush 9 dX9_aboutRules_1 (by decide) ?_
        refine rk_bipush 18 dX9_aboutRules_3 (by decide) ?_
        refine rk_cSNp (cX10_inRange_s _ _ _) rk_eX10_inRange rfl rk_nX9_58 dX9_aboutRules_5 rfl (by decide) (Nat.le_of_ble_eq_true rfl) ⟨Nat.le_refl _, Nat.le_refl _⟩ ?_
        refine rk_if_eq 24 dX9_aboutRules_8 (by decide) (fun qz8 => ?_) (fun qz8 => ?_)
        · skip
          refine rk_iload_n 1 dX9_aboutRules_24 rfl rfl ?_
          refine rk_bipush 19 dX9_aboutRules_25 (by decide) ?_
          refine rk_pc (pc' := 27) rfl ?_
          refine rk_bipush 21 dX9_aboutRules_27 (by decide) ?_
          refine rk_cSNp (cX10_inRange_s _ _ _) rk_eX10_inRange rfl rk_nX9_58 dX9_aboutRules_29 rfl (by decide) (Nat.le_of_ble_eq_true rfl) ⟨Nat.le_refl _, Nat.le_refl _⟩ ?_
          refine rk_if_eq 48 dX9_aboutRules_32 (by decide) (fun qz32 => ?_) (fun qz32 => ?_)
          · skip
            refine rk_iload_n 1 dX9_aboutRules_48 rfl rfl ?_
            refine rk_bipush 22 dX9_aboutRules_49 (by decide) ?_
            refine rk_bipush 24 dX9_aboutRules_51 (by decide) ?_
            refine rk_cSNp (cX10_inRange_s _ _ _) rk_eX10_inRange rfl rk_nX9_58 dX9_aboutRules_53 rfl (by decide) (Nat.le_of_ble_eq_true rfl) ⟨Nat.le_refl _, Nat.le_refl _⟩ ?_
            refine rk_pc (pc' := 56) rfl ?_
            refine rk_if_eq 74 dX9_aboutRules_56 (by decide) (fun qz56 => ?_) (fun qz56 => ?_)
            · skip
              exact absurd h3 (sp_bf qz56)
            · skip
              refine rk_aload_n 0 dX9_aboutRules_59 rfl rfl ?_
              refine rk_g10_0 rk_kX9_12 dX9_aboutRules_60 ?_
              refine rk_g7_2 rk_kX9_79 dX9_aboutRules_63 ?_
              refine rk_iload_n 1 dX9_aboutRules_66 rfl rfl ?_
              refine rk_bipush 22 dX9_aboutRules_67 (by decide) ?_
              refine rk_isub dX9_aboutRules_69 ?_
              rw [show nI j - 22 = nI (j - 22) from pk_sub (b := 22) hj9]
              refine rk_pc (pc' := 70) rfl ?_
              refine rk_rn19 (j - 22) dX9_aboutRules_70 (by first | rfl | decide | assumption | (simp only [rk_lit, nI_add, pk_mul, nI_1]; done) | (simp only [rk_lit, nI_add, pk_mul, nI_1]; congr 1; omega)) (by first | decide | assumption | omega) ?_
              refine rk_goto 76 dX9_aboutRules_71 (by decide) ?_
              refine rk_iretP dX9_aboutRules_76 rfl rfl ?_
              rw [hs, hru.2.2 (j - 22) (by omega)]
          · skip
            exact absurd (sp_bt qz32) h2
        · skip
          exact absurd (sp_bt qz8) h1
      · have hs : sp_all N k = -2 := by unfold sp_all; rw [if_neg h1, if_neg h2, if_neg h3]
        refine rk_bP (ls := [(0, _), (1, _)]) (by decide) rfl (Nat.le_of_ble_eq_true rfl) ?_
        refine rk_iload_n 1 dX9_aboutRules_0 rfl rfl ?_
        refine rk_bipush 9 dX9_aboutRules_1 (by decide) ?_
        refine rk_bipush 18 dX9_aboutRules_3 (by decide) ?_
        refine rk_cSNp (cX10_inRange_s _ _ _) rk_eX10_inRange rfl rk_nX9_58 dX9_aboutRules_5 rfl (by decide) (Nat.le_of_ble_eq_true rfl) ⟨Nat.le_refl _, Nat.le_refl _⟩ ?_
        refine rk_if_eq 24 dX9_aboutRules_8 (by decide) (fun qz8 => ?_) (fun qz8 => ?_)
        · skip
          refine rk_iload_n 1 dX9_aboutRules_24 rfl rfl ?_
          refine rk_bipush 19 dX9_aboutRules_25 (by decide) ?_
          refine rk_pc (pc' := 27) rfl ?_
          refine rk_bipush 21 dX9_aboutRules_27 (by decide) ?_
          refine rk_cSNp (cX10_inRange_s _ _ _) rk_eX10_inRange rfl rk_nX9_58 dX9_aboutRules_29 rfl (by decide) (Nat.le_of_ble_eq_true rfl) ⟨Nat.le_refl _, Nat.le_refl _⟩ ?_
          refine rk_if_eq 48 dX9_aboutRules_32 (by decide) (fun qz32 => ?_) (fun qz32 => ?_)
          · skip
            refine rk_iload_n 1 dX9_aboutRules_48 rfl rfl ?_
            refine rk_bipush 22 dX9_aboutRules_49 (by decide) ?_
            refine rk_bipush 24 dX9_aboutRules_51 (by decide) ?_
            refine rk_cSNp (cX10_inRange_s _ _ _) rk_eX10_inRange rfl rk_nX9_58 dX9_aboutRules_53 rfl (by decide) (Nat.le_of_ble_eq_true rfl) ⟨Nat.le_refl _, Nat.le_refl _⟩ ?_
            refine rk_pc (pc' := 56) rfl ?_
            refine rk_if_eq 74 dX9_aboutRules_56 (by decide) (fun qz56 => ?_) (fun qz56 => ?_)
            · skip
              refine rk_bipush (-2) dX9_aboutRules_74 (by decide) ?_
              refine rk_iretP dX9_aboutRules_76 rfl rfl ?_
              exact hs.symm
            · skip
              exact absurd (sp_bt qz56) h3
          · skip
            exact absurd (sp_bt qz32) h2
        · skip
          exact absurd (sp_bt qz8) h1
theorem cX9_aboutAll_s (hv : sp_iv T N) (h : cl_y rg I R y t N) (k : Int32) : rk_P w l rk_mX9_aboutAll 3 [rk_a 10 y, rk_i k] Sh I R (if k = 0 then N 10 else if k = 1 then N 12 else if k = 2 then N 13 else if k = 3 then sp_left N else if k = 4 then N 14 else if k = 5 then N 15 else if k = 6 then N 16 else sp_all N k) := by
  have h1 : I 1 (R 10 y 2) 1 = N 13 := h.2.2.2.1.1
  have h8 : I 8 (R 10 y 1) 1 = N 12 := h.2.2.1.2.1.1
  obtain ⟨y3, y4, y5, y6, y7, y8⟩ := h.2.2.2.2
  refine rk_bP (ls := [(0, _), (1, _)]) (by decide) rfl (Nat.le_of_ble_eq_true rfl) ?_
  refine rk_iload_n 1 dX9_aboutAll_0 rfl rfl ?_
  refine rk_tsw 85 dX9_aboutAll_1 (by decide) (by decide) (by decide) ?_ (fun qz1 => ?_)
  · refine ⟨fun qz1 => ?_, fun qz1 => ?_, fun qz1 => ?_, fun qz1 => ?_, fun qz1 => ?_, fun qz1 => ?_, fun qz1 => ?_, trivial⟩
    · skip
      have hw : k = 0 := rk_toI qz1 (by decide)
      subst hw
      refine rk_pc (pc' := 44) (by decide) ?_
      refine rk_aload_n 0 dX9_aboutAll_44 rfl rfl ?_
      refine rk_g10_3 rk_kX9_42 dX9_aboutAll_45 ?_
      refine rk_iretP dX9_aboutAll_48 rfl rfl ?_
      rw [y3]; rfl
    · skip
      have hw : k = 1 := rk_toI qz1 (by decide)
      subst hw
      refine rk_pc (pc' := 49) (by decide) ?_
      refine rk_aload_n 0 dX9_aboutAll_49 rfl rfl ?_
      refine rk_g10_1 rk_kX9_21 dX9_aboutAll_50 ?_
      refine rk_g8_1 rk_kX9_221 dX9_aboutAll_53 ?_
      refine rk_pc (pc' := 56) rfl ?_
      refine rk_iretP dX9_aboutAll_56 rfl rfl ?_
      rw [h8]; rfl
    · skip
      have hw : k = 2 := rk_toI qz1 (by decide)
      subst hw
      refine rk_pc (pc' := 57) (by decide) ?_
      refine rk_aload_n 0 dX9_aboutAll_57 rfl rfl ?_
      refine rk_g10_2 rk_kX9_28 dX9_aboutAll_58 ?_
      refine rk_g1_1 rk_kX9_162 dX9_aboutAll_61 ?_
      refine rk_iretP dX9_aboutAll_64 rfl rfl ?_
      rw [h1]; rfl
    · skip
      have hw : k = 3 := rk_toI qz1 (by decide)
      subst hw
      refine rk_pc (pc' := 65) (by decide) ?_
      refine rk_aload_n 0 dX9_aboutAll_65 rfl rfl ?_
      refine rk_cVp (cX9_hoursLeft_s hv h) rk_eX9_hoursLeft rfl ⟨rfl, rfl⟩ rk_kX9_119 dX9_aboutAll_66 rfl (by decide) (Nat.le_of_ble_eq_true rfl) ⟨Nat.le_refl _, Nat.le_refl _⟩ ?_
      refine rk_iretP dX9_aboutAll_69 rfl rfl ?_
      rfl
    · skip
      have hw : k = 4 := rk_toI qz1 (by decide)
      subst hw
      refine rk_pc (pc' := 70) (by decide) ?_
      refine rk_aload_n 0 dX9_aboutAll_70 rfl rfl ?_
      refine rk_pc (pc' := 71) rfl ?_
      refine rk_g10_5 rk_kX9_49 dX9_aboutAll_71 ?_
      refine rk_iretP dX9_aboutAll_74 rfl rfl ?_
      rw [y5]; rfl
    · skip
      have hw : k = 5 := rk_toI qz1 (by decide)
      subst hw
      refine rk_pc (pc' := 75) (by decide) ?_
      refine rk_aload_n 0 dX9_aboutAll_75 rfl rfl ?_
      refine rk_g10_6 rk_kX9_52 dX9_aboutAll_76 ?_
      refine rk_iretP dX9_aboutAll_79 rfl rfl ?_
      rw [y6]; rfl
    · skip
      have hw : k = 6 := rk_toI qz1 (by decide)
      subst hw
      refine rk_pc (pc' := 80) (by decide) ?_
      refine rk_aload_n 0 dX9_aboutAll_80 rfl rfl ?_
      refine rk_g10_7 rk_kX9_55 dX9_aboutAll_81 ?_
      refine rk_iretP dX9_aboutAll_84 rfl rfl ?_
      rw [y7]; rfl
  · skip
    refine rk_aload_n 0 dX9_aboutAll_85 rfl rfl ?_
    refine rk_pc (pc' := 86) rfl ?_
    refine rk_iload_n 1 dX9_aboutAll_86 rfl rfl ?_
    refine rk_cVp (cX9_aboutRules_s h _) rk_eX9_aboutRules rfl ⟨rfl, rfl⟩ rk_kX9_222 dX9_aboutAll_87 rfl (by decide) (Nat.le_of_ble_eq_true rfl) ⟨Nat.le_refl _, Nat.le_refl _⟩ ?_
    refine rk_iretP dX9_aboutAll_90 rfl rfl ?_
    have n := fun (m : Nat) (hm : m ≤ 6) => (rk_tout (n := 6) (by decide) qz1 hm).2
    rw [if_neg (show ¬ k = 0 from n 0 (by decide)), if_neg (show ¬ k = 1 from n 1 (by decide)), if_neg (show ¬ k = 2 from n 2 (by decide)), if_neg (show ¬ k = 3 from n 3 (by decide)), if_neg (show ¬ k = 4 from n 4 (by decide)), if_neg (show ¬ k = 5 from n 5 (by decide)), if_neg (show ¬ k = 6 from n 6 (by decide))]
end CW

