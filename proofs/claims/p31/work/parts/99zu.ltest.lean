section PK
variable {w : rk_W} {l : Launch} {Sh : rk_Sh} {rg : Nat → Nat} {I I1 : rk_Mm} {R R1 : rk_Rm} {N M : Nat → Int32} {T T' U : Int} {x k : Nat}
/-! a cut, case by case -/
theorem cut_r {p : Nat} {feet : Int32} (h : ¬ N (50 + 7 * p + 3) - feet = 0) (h2 : ¬ N (50 + 7 * p + 3) - feet < N 6) : sp_cut N p feet = sp_cut1 N p feet := by
  unfold sp_cut
  rw [if_neg h, if_neg h2]
theorem cut_g {p c f : Nat} {feet : Int32} (h : N (50 + 7 * p + 3) - feet = 0 ∨ N (50 + 7 * p + 3) - feet < N 6) (hc : N 12 = nI c) (hc2 : c ≤ 24) (hp : p < c) (hf : f < 3) (h0 : N (50 + 7 * p + 0) = nI f) : sp_cut N p feet 12 = nI (c - 1) ∧ (∀ i, i < c - 1 → ∀ j, j < 7 → sp_cut N p feet (50 + 7 * i + j) = N (50 + 7 * (if i < p then i else i + 1) + j)) ∧ (∀ j, j ≠ 12 → j ≠ 30 + 4 * f + 3 → (j < 50 ∨ 218 ≤ j) → sp_cut N p feet j = N j) ∧ sp_cut N p feet (30 + 4 * f + 3) = (if N (50 + 7 * p + 3) - feet = 0 then N (30 + 4 * f + 3) else N (30 + 4 * f + 3) + (N (50 + 7 * p + 4) - sp_yin (N (50 + 7 * p + 4)) feet (N (50 + 7 * p + 3)))) := by
  have ef : sp_c N (50 + 7 * p) = f := sp_cN h0 (by omega)
  have c1 : sp_cut1 N p feet 12 = nI c := (sp_cut1_x (by omega) (by omega)).trans hc
  have c2x : ∀ j, j ≠ 30 + 4 * f + 3 → sp_cut2 N p feet j = sp_cut1 N p feet j := fun j hj => by rw [sp_cut2, ef, sp_un hj]
  have c23 : sp_cut2 N p feet (30 + 4 * f + 3) = N (30 + 4 * f + 3) + (N (50 + 7 * p + 4) - sp_yin (N (50 + 7 * p + 4)) feet (N (50 + 7 * p + 3))) := by rw [sp_cut2, ef, sp_us]
  have c2 : sp_cut2 N p feet 12 = nI c := (c2x 12 (by omega)).trans c1
  have hne : ∀ i, (if i < p then i else i + 1) ≠ p := fun i => by split <;> omega
  refine ⟨?_, fun i hi j hj => ?_, fun j j1 j2 j3 => sp_cut_x hc hc2 hp hf h0 j1 j2 j3, ?_⟩
  · unfold sp_cut
    by_cases hz : N (50 + 7 * p + 3) - feet = 0
    · rw [if_pos hz]; exact sp_gone_n c1 (by omega)
    · rw [if_neg hz, if_pos (h.resolve_left hz)]; exact sp_gone_n c2 (by omega)
  · have hn := hne i
    unfold sp_cut
    by_cases hz : N (50 + 7 * p + 3) - feet = 0
    · rw [if_pos hz, sp_gone_p (N := sp_cut1 N p feet) (cnt := 12) (base := 50) (p := p) c1 (by omega) (by decide) hi hj, sp_cut1_x (by omega) (by omega)]
    · rw [if_neg hz, if_pos (h.resolve_left hz), sp_gone_p (N := sp_cut2 N p feet) (cnt := 12) (base := 50) (p := p) c2 (by omega) (by decide) hi hj, c2x _ (by omega), sp_cut1_x (by omega) (by omega)]
  · unfold sp_cut
    by_cases hz : N (50 + 7 * p + 3) - feet = 0
    · rw [if_pos hz, if_pos hz, sp_gone_x c1 (by omega) (by omega) (by omega), sp_cut1_x (by omega) (by omega)]
    · rw [if_neg hz, if_pos (h.resolve_left hz), if_neg hz, sp_gone_x c2 (by omega) (by omega) (by omega), c23]
theorem pv_c {p q f : Nat} (hf : f < 3) (h0 : N (50 + 7 * q + 0) = nI f) (e : ∀ j, j < 7 → M (50 + 7 * p + j) = N (50 + 7 * q + j)) (e3 : M 3 = N 3) (ef : ∀ f, f < 3 → M (20 + 3 * f) = N (20 + 3 * f)) : ∀ j, j < 8 → pv M p j = pv N q j := by
  intro j hj
  by_cases h7 : j = 7
  · subst h7
    show sp_st M (sp_P M p) = sp_st N (sp_P N q)
    have k0 : (sp_P M p 0).toNatClampNeg = f := by show (M (50 + 7 * p + 0)).toNatClampNeg = f; rw [e 0 (by decide), h0]; exact nI_clamp (by omega)
    have k1 : (sp_P N q 0).toNatClampNeg = f := by show (N (50 + 7 * q + 0)).toNatClampNeg = f; rw [h0]; exact nI_clamp (by omega)
    unfold sp_st
    rw [k0, k1, e3, ef f hf]
    simp only [sp_P]
    rw [e 1 (by decide), e 2 (by decide), e 5 (by decide), e 6 (by decide)]
  · rw [pv_lt (by omega), pv_lt (by omega)]
    exact e j (by omega)
theorem cL_isCut_s {p c na nb : Nat} {W : Nat → Int32} {feet : Int32} (hY : lY rg I R x T M) (hp : p < c) (hc2 : c ≤ 24) (fa : ∀ j, j < 7 → I 26 na j = W j) (hL : 0 < W 3) (hA : 0 < W 3 - feet → M 6 ≤ W 3 - feet → M 12 = nI c ∧ M (50 + 7 * p + 3) = W 3 - feet ∧ M (50 + 7 * p + 4) = W 4 - sp_yin (W 4) feet (W 3) ∧ M (50 + 7 * p + 5) = W 5 ∧ M (50 + 7 * p + 6) = W 6) (hB : ¬ (0 < W 3 - feet ∧ M 6 ≤ W 3 - feet) → M 12 = nI (c - 1) ∧ (p = c - 1 ∨ (p < c - 1 ∧ ∀ j, j < 8 → I 26 nb j = pv M p j))) : rk_P w l rk_mL_isCut 7 [rk_a 11 x, rk_i (nI p), rk_a 26 na, rk_a 26 nb, rk_i feet, rk_i (nI c)] Sh I R 1 := by
  have hl0 := rk_l0 hL
  by_cases hr : 0 < W 3 - feet ∧ M 6 ≤ W 3 - feet
  · obtain ⟨m12, m3, m4, m5, m6⟩ := hA hr.1 hr.2
    refine rk_bP (ls := [(0, _), (1, _), (2, _), (3, _), (4, _), (5, _)]) (by decide) rfl (Nat.le_of_ble_eq_true rfl) ?_
    refine rk_aload_n 2 dL_isCut_0 rfl rfl ?_
    refine rk_iconst 4 dL_isCut_1 (by decide) ?_
    refine rk_rn26 4 dL_isCut_2 rfl (by first | decide | assumption | omega) ?_
    rw [fa 4 (by decide)]
    refine rk_i2l dL_isCut_3 ?_
    refine rk_iload dL_isCut_4 rfl ?_
    refine rk_i2l dL_isCut_6 ?_
    refine rk_pc (pc' := 7) rfl ?_
    refine rk_lmul dL_isCut_7 ?_
    refine rk_aload_n 2 dL_isCut_8 rfl rfl ?_
    refine rk_iconst 3 dL_isCut_9 (by decide) ?_
    refine rk_rn26 3 dL_isCut_10 rfl (by first | decide | assumption | omega) ?_
    rw [fa 3 (by decide)]
    refine rk_i2l dL_isCut_11 ?_
    refine rk_ldiv dL_isCut_12 (by exact hl0) ?_
    refine rk_pc (pc' := 13) rfl ?_
    refine rk_l2i dL_isCut_13 ?_
    refine rk_istore (ls' := [(6, _), (0, _), (1, _), (2, _), (3, _), (4, _), (5, _)]) dL_isCut_14 (by decide) rfl ?_
    refine rk_aload_n 2 dL_isCut_16 rfl rfl ?_
    refine rk_iconst 3 dL_isCut_17 (by decide) ?_
    refine rk_rn26 3 dL_isCut_18 rfl (by first | decide | assumption | omega) ?_
    rw [fa 3 (by decide)]
    refine rk_iload dL_isCut_19 rfl ?_
    refine rk_pc (pc' := 21) rfl ?_
    refine rk_isub dL_isCut_21 ?_
    refine rk_istore (ls' := [(7, _), (6, _), (0, _), (1, _), (2, _), (3, _), (4, _), (5, _)]) dL_isCut_22 (by decide) rfl ?_
    refine rk_iload dL_isCut_24 rfl ?_
    refine rk_if_le 108 dL_isCut_26 (by decide) (fun qz26 => ?_) (fun qz26 => ?_)
    · skip
      exact absurd hr.1 (Int32.not_lt.mpr qz26)
    · skip
      refine rk_iload dL_isCut_29 rfl ?_
      refine rk_aload_n 0 dL_isCut_31 rfl rfl ?_
      refine rk_bipush 15 dL_isCut_32 (by decide) ?_
      refine rk_pc (pc' := 34) rfl ?_
      refine rk_cVp (qc15 hY) rk_eX10_count rfl ⟨rfl, rfl⟩ rk_kL_8 dL_isCut_34 rfl (by decide) (Nat.le_of_ble_eq_true rfl) ⟨Nat.le_refl _, Nat.le_refl _⟩ ?_
      refine rk_icmp_lt 108 dL_isCut_37 (by decide) (fun qz37 => ?_) (fun qz37 => ?_)
      · skip
        exact absurd qz37 (Int32.not_lt.mpr hr.2)
      · skip
        refine rk_aload_n 0 dL_isCut_40 rfl rfl ?_
        refine rk_iconst 1 dL_isCut_41 (by decide) ?_
        refine rk_cVp (qc1 hY) rk_eX10_count rfl ⟨rfl, rfl⟩ rk_kL_8 dL_isCut_42 rfl (by decide) (Nat.le_of_ble_eq_true rfl) ⟨Nat.le_refl _, Nat.le_refl _⟩ ?_
        refine rk_iload dL_isCut_45 rfl ?_
        refine rk_icmp_ne 106 dL_isCut_47 (by decide) (fun qz47 => ?_) (fun qz47 => ?_)
        · skip
          exact absurd m12 qz47
        · skip
          refine rk_aload_n 0 dL_isCut_50 rfl rfl ?_
          refine rk_pc (pc' := 51) rfl ?_
          refine rk_iload_n 1 dL_isCut_51 rfl rfl ?_
          refine rk_iconst 3 dL_isCut_52 (by decide) ?_
          refine rk_cVp (qp (k := 3) hY m12 hc2 hp (by decide) rfl rfl) rk_eX10_piece rfl ⟨rfl, rfl⟩ rk_kL_14 dL_isCut_53 rfl (by decide) (Nat.le_of_ble_eq_true rfl) ⟨Nat.le_refl _, Nat.le_refl _⟩ ?_
          refine rk_iload dL_isCut_56 rfl ?_
          refine rk_icmp_ne 106 dL_isCut_58 (by decide) (fun qz58 => ?_) (fun qz58 => ?_)
          · skip
            exact absurd m3 qz58
          · skip
            refine rk_aload_n 0 dL_isCut_61 rfl rfl ?_
            refine rk_iload_n 1 dL_isCut_62 rfl rfl ?_
            refine rk_pc (pc' := 63) rfl ?_
            refine rk_iconst 4 dL_isCut_63 (by decide) ?_
            refine rk_cVp (qp (k := 4) hY m12 hc2 hp (by decide) rfl rfl) rk_eX10_piece rfl ⟨rfl, rfl⟩ rk_kL_14 dL_isCut_64 rfl (by decide) (Nat.le_of_ble_eq_true rfl) ⟨Nat.le_refl _, Nat.le_refl _⟩ ?_
            refine rk_aload_n 2 dL_isCut_67 rfl rfl ?_
            refine rk_iconst 4 dL_isCut_68 (by decide) ?_
            refine rk_rn26 4 dL_isCut_69 rfl (by first | decide | assumption | omega) ?_
            rw [fa 4 (by decide)]
            refine rk_iload dL_isCut_70 rfl ?_
            refine rk_pc (pc' := 72) rfl ?_
            refine rk_isub dL_isCut_72 ?_
            refine rk_icmp_ne 106 dL_isCut_73 (by decide) (fun qz73 => ?_) (fun qz73 => ?_)
            · skip
              exact absurd m4 qz73
            · skip
              refine rk_aload_n 0 dL_isCut_76 rfl rfl ?_
              refine rk_iload_n 1 dL_isCut_77 rfl rfl ?_
              refine rk_iconst 5 dL_isCut_78 (by decide) ?_
              refine rk_cVp (qp (k := 5) hY m12 hc2 hp (by decide) rfl rfl) rk_eX10_piece rfl ⟨rfl, rfl⟩ rk_kL_14 dL_isCut_79 rfl (by decide) (Nat.le_of_ble_eq_true rfl) ⟨Nat.le_refl _, Nat.le_refl _⟩ ?_
              refine rk_aload_n 2 dL_isCut_82 rfl rfl ?_
              refine rk_pc (pc' := 83) rfl ?_
              refine rk_iconst 5 dL_isCut_83 (by decide) ?_
              refine rk_rn26 5 dL_isCut_84 rfl (by first | decide | assumption | omega) ?_
              rw [fa 5 (by decide)]
              refine rk_icmp_ne 106 dL_isCut_85 (by decide) (fun qz85 => ?_) (fun qz85 => ?_)
              · skip
                exact absurd m5 qz85
              · skip
                refine rk_aload_n 0 dL_isCut_88 rfl rfl ?_
                refine rk_iload_n 1 dL_isCut_89 rfl rfl ?_
                refine rk_bipush 6 dL_isCut_90 (by decide) ?_
                refine rk_cVp (qp (k := 6) hY m12 hc2 hp (by decide) rfl rfl) rk_eX10_piece rfl ⟨rfl, rfl⟩ rk_kL_14 dL_isCut_92 rfl (by decide) (Nat.le_of_ble_eq_true rfl) ⟨Nat.le_refl _, Nat.le_refl _⟩ ?_
                refine rk_pc (pc' := 95) rfl ?_
                refine rk_aload_n 2 dL_isCut_95 rfl rfl ?_
                refine rk_bipush 6 dL_isCut_96 (by decide) ?_
                refine rk_rn26 6 dL_isCut_98 rfl (by first | decide | assumption | omega) ?_
                rw [fa 6 (by decide)]
                refine rk_icmp_ne 106 dL_isCut_99 (by decide) (fun qz99 => ?_) (fun qz99 => ?_)
                · skip
                  exact absurd m6 qz99
                · skip
                  refine rk_iconst 1 dL_isCut_102 (by decide) ?_
                  refine rk_goto 107 dL_isCut_103 (by decide) ?_
                  refine rk_iretP dL_isCut_107 rfl (by decide) ?_
                  rfl
  · obtain ⟨m12, hcase⟩ := hB hr
    have e1 : nI c - 1 = nI (c - 1) := rk_pred (by omega)
    have k108 : ∀ z6 z7 : Int32, rk_Wp w l rk_mL_isCut 7 0 0 (rk_GP w Sh I R 1) 108 [(0, rk_a 11 x), (1, rk_i (nI p)), (2, rk_a 26 na), (3, rk_a 26 nb), (4, rk_i feet), (5, rk_i (nI c)), (6, rk_i z6), (7, rk_i z7)] [] (Sh, 0, 0) I R := by
      intro z6 z7
      rcases hcase with hlast | ⟨hlt, fb⟩
      · have e2 : nI p = nI c - 1 := by rw [e1, hlast]
        refine rk_aload_n 0 dL_isCut_108 rfl rfl ?_
        refine rk_iconst 1 dL_isCut_109 (by decide) ?_
        refine rk_cVp (qc1 hY) rk_eX10_count rfl ⟨rfl, rfl⟩ rk_kL_8 dL_isCut_110 rfl (by decide) (Nat.le_of_ble_eq_true rfl) ⟨Nat.le_refl _, Nat.le_refl _⟩ ?_
        refine rk_iload dL_isCut_113 rfl ?_
        refine rk_iconst 1 dL_isCut_115 (by decide) ?_
        refine rk_isub dL_isCut_116 ?_
        refine rk_pc (pc' := 117) rfl ?_
        refine rk_icmp_ne 141 dL_isCut_117 (by decide) (fun qz117 => ?_) (fun qz117 => ?_)
        · skip
          exact absurd (m12.trans e1.symm) qz117
        · skip
          refine rk_iload_n 1 dL_isCut_120 rfl rfl ?_
          refine rk_iload dL_isCut_121 rfl ?_
          refine rk_iconst 1 dL_isCut_123 (by decide) ?_
          refine rk_isub dL_isCut_124 ?_
          refine rk_icmp_eq 137 dL_isCut_125 (by decide) (fun qz125 => ?_) (fun qz125 => ?_)
          · skip
            refine rk_iconst 1 dL_isCut_137 (by decide) ?_
            refine rk_goto 142 dL_isCut_138 (by decide) ?_
            refine rk_pc (pc' := 142) rfl ?_
            refine rk_iretP dL_isCut_142 rfl (by decide) ?_
            rfl
          · skip
            exact absurd e2 qz125
      · skip
        refine rk_aload_n 0 dL_isCut_108 rfl rfl ?_
        refine rk_iconst 1 dL_isCut_109 (by decide) ?_
        refine rk_cVp (qc1 hY) rk_eX10_count rfl ⟨rfl, rfl⟩ rk_kL_8 dL_isCut_110 rfl (by decide) (Nat.le_of_ble_eq_true rfl) ⟨Nat.le_refl _, Nat.le_refl _⟩ ?_
        refine rk_iload dL_isCut_113 rfl ?_
        refine rk_iconst 1 dL_isCut_115 (by decide) ?_
        refine rk_isub dL_isCut_116 ?_
        refine rk_pc (pc' := 117) rfl ?_
        refine rk_icmp_ne 141 dL_isCut_117 (by decide) (fun qz117 => ?_) (fun qz117 => ?_)
        · skip
          exact absurd (m12.trans e1.symm) qz117
        · skip
          refine rk_iload_n 1 dL_isCut_120 rfl rfl ?_
          refine rk_iload dL_isCut_121 rfl ?_
          refine rk_iconst 1 dL_isCut_123 (by decide) ?_
          refine rk_isub dL_isCut_124 ?_
          refine rk_icmp_eq 137 dL_isCut_125 (by decide) (fun qz125 => ?_) (fun qz125 => ?_)
          · skip
            refine rk_iconst 1 dL_isCut_137 (by decide) ?_
            refine rk_goto 142 dL_isCut_138 (by decide) ?_
            refine rk_pc (pc' := 142) rfl ?_
            refine rk_iretP dL_isCut_142 rfl (by decide) ?_
            rfl
          · skip
            refine rk_aload_n 0 dL_isCut_128 rfl rfl ?_
            refine rk_iload_n 1 dL_isCut_129 rfl rfl ?_
            refine rk_aload_n 3 dL_isCut_130 rfl rfl ?_
            refine rk_cSp (cL_isLike_s hY m12 (by omega) hlt fb) rk_eL_isLike rfl rk_kL_54 dL_isCut_131 rfl (by decide) (Nat.le_of_ble_eq_true rfl) ⟨Nat.le_refl _, Nat.le_refl _⟩ ?_
            refine rk_if_eq 141 dL_isCut_134 (by decide) (fun qz134 => ?_) (fun qz134 => ?_)
            · skip
              exact absurd qz134 (by decide)
            · skip
              refine rk_iconst 1 dL_isCut_137 (by decide) ?_
              refine rk_goto 142 dL_isCut_138 (by decide) ?_
              refine rk_pc (pc' := 142) rfl ?_
              refine rk_iretP dL_isCut_142 rfl (by decide) ?_
              rfl
    refine rk_bP (ls := [(0, _), (1, _), (2, _), (3, _), (4, _), (5, _)]) (by decide) rfl (Nat.le_of_ble_eq_true rfl) ?_
    refine rk_aload_n 2 dL_isCut_0 rfl rfl ?_
    refine rk_iconst 4 dL_isCut_1 (by decide) ?_
    refine rk_rn26 4 dL_isCut_2 rfl (by first | decide | assumption | omega) ?_
    rw [fa 4 (by decide)]
    refine rk_i2l dL_isCut_3 ?_
    refine rk_iload dL_isCut_4 rfl ?_
    refine rk_i2l dL_isCut_6 ?_
    refine rk_pc (pc' := 7) rfl ?_
    refine rk_lmul dL_isCut_7 ?_
    refine rk_aload_n 2 dL_isCut_8 rfl rfl ?_
    refine rk_iconst 3 dL_isCut_9 (by decide) ?_
    refine rk_rn26 3 dL_isCut_10 rfl (by first | decide | assumption | omega) ?_
    rw [fa 3 (by decide)]
    refine rk_i2l dL_isCut_11 ?_
    refine rk_ldiv dL_isCut_12 (by exact hl0) ?_
    refine rk_pc (pc' := 13) rfl ?_
    refine rk_l2i dL_isCut_13 ?_
    refine rk_istore (ls' := [(6, _), (0, _), (1, _), (2, _), (3, _), (4, _), (5, _)]) dL_isCut_14 (by decide) rfl ?_
    refine rk_aload_n 2 dL_isCut_16 rfl rfl ?_
    refine rk_iconst 3 dL_isCut_17 (by decide) ?_
    refine rk_rn26 3 dL_isCut_18 rfl (by first | decide | assumption | omega) ?_
    rw [fa 3 (by decide)]
    refine rk_iload dL_isCut_19 rfl ?_
    refine rk_pc (pc' := 21) rfl ?_
    refine rk_isub dL_isCut_21 ?_
    refine rk_istore (ls' := [(7, _), (6, _), (0, _), (1, _), (2, _), (3, _), (4, _), (5, _)]) dL_isCut_22 (by decide) rfl ?_
    refine rk_iload dL_isCut_24 rfl ?_
    refine rk_if_le 108 dL_isCut_26 (by decide) (fun qz26 => ?_) (fun qz26 => ?_)
    · skip
      refine rk_ord [0, 1, 2, 3, 4, 5, 6, 7] (ls' := [(0, _), (1, _), (2, _), (3, _), (4, _), (5, _), (6, _), (7, _)]) rfl ?_
      exact k108 _ _
    · skip
      refine rk_iload dL_isCut_29 rfl ?_
      refine rk_aload_n 0 dL_isCut_31 rfl rfl ?_
      refine rk_bipush 15 dL_isCut_32 (by decide) ?_
      refine rk_pc (pc' := 34) rfl ?_
      refine rk_cVp (qc15 hY) rk_eX10_count rfl ⟨rfl, rfl⟩ rk_kL_8 dL_isCut_34 rfl (by decide) (Nat.le_of_ble_eq_true rfl) ⟨Nat.le_refl _, Nat.le_refl _⟩ ?_
      refine rk_icmp_lt 108 dL_isCut_37 (by decide) (fun qz37 => ?_) (fun qz37 => ?_)
      · skip
        refine rk_ord [0, 1, 2, 3, 4, 5, 6, 7] (ls' := [(0, _), (1, _), (2, _), (3, _), (4, _), (5, _), (6, _), (7, _)]) rfl ?_
        exact k108 _ _
      · skip
        exact absurd ⟨Int32.not_le.mp qz26, Int32.not_lt.mp qz37⟩ hr
theorem cL_isTested_k {p c f na nb : Nat} {Z : rk_Z} (hY : lY rg I R x (k : Int) N) (hsi : si (3000000 * (k : Int)) N) (hd : (N 10).toInt ≤ 4 * (k : Int)) (hk : k ≤ 200) (hc : N 12 = nI c) (hc2 : c ≤ 24) (hp : p < c) (hf : f < 3) (ef : N (50 + 7 * p + 0) = nI f) (ga : rg na = 104) (gb : rg nb = 104) (pa : ∀ j, j < 8 → I 26 na j = pv N p j) (pb : p + 1 < c → ∀ j, j < 8 → I 26 nb j = pv N (p + 1) j) (hz : Z.2.1 ≤ 2 ∧ Z.2.2 ≤ 16) (hkd : ∀ q, Sh.2 q ≠ 0 → Z.1.2 q = Sh.2 q) : rk_Wp w l rk_mL_isTested 8 2 16 (rk_G w (fun r u => ∃ x', r = some (rk_i x') ∧ (∀ q, Sh.2 q ≠ 0 → u.1.2 q = Sh.2 q) ∧ lZ rg x k x' u) 2 16) 59 [(0, rk_a 11 x), (1, rk_i (nI p)), (2, rk_i (nI c)), (3, rk_a 26 na), (4, rk_a 26 nb)] [] Z I R := by
  have fa : ∀ j, j < 7 → I 26 na j = N (50 + 7 * p + j) := fun j hj => (pa j (by omega)).trans (pv_lt hj)
  have hv := hY.pv hc hc2
  have hL := (hv.2.2.2.1 p hp).1
  have hL32 : 0 < N (50 + 7 * p + 3) := Int32.lt_iff_toInt_lt.mpr hL
  have hl0 := rk_l0 hL32
  have hr := hY.vs.1.2.2.2
  have ca : (nI p).toNatClampNeg = p := nI_clamp (by omega)
  by_cases hlen : N 5 ≤ N (50 + 7 * p + 3)
  · have hsp : sp_test N (nI p) = (sp_st N (sp_P N p), some (sp_testN N p)) := by
      unfold sp_test
      rw [if_pos (ispc_n hc hc2 hp), ca, if_pos hlen]
    have h5 := (hr.1 5 (by decide)).1
    have t5 : 0 ≤ (N 5).toInt := Int.le_trans (by decide) (Int32.le_iff_toInt_le.mp (Int32.le_trans (show (0 : Int32) ≤ sp_lst 5 by decide) h5))
    have hfl := Int32.le_iff_toInt_le.mp hlen
    have eft : sp_c N (50 + 7 * p + 0) = f := sp_cN ef (by omega)
    have eM : sp_testN N p = sp_u (sp_cut N p (N 5)) (30 + 4 * f + 2) (N (30 + 4 * f + 2) + sp_yin (N (50 + 7 * p + 4)) (N 5) (N (50 + 7 * p + 3))) := by
      unfold sp_testN
      rw [eft]
    have hs2 : si (3000000 * (k : Int)) (sp_testN N p) := by
      rw [eM]
      exact si_cut hsi (by omega) hc hc2 hp hf ef hL t5 hfl (Or.inr rfl)
    have m42 : sp_testN N p (30 + 4 * f + 2) = N (30 + 4 * f + 2) + sp_yin (N (50 + 7 * p + 4)) (N 5) (N (50 + 7 * p + 3)) := by rw [eM, sp_us]
    have mx : ∀ j, j ≠ 30 + 4 * f + 2 → sp_testN N p j = sp_cut N p (N 5) j := fun j hj => by rw [eM, sp_un hj]
    have mlo : ∀ j, j ≠ 12 → j < 30 → sp_testN N p j = N j := fun j j1 j2 => (mx j (by omega)).trans (sp_cut_x hc hc2 hp hf ef j1 (by omega) (by omega))
    have m6 : sp_testN N p 6 = N 6 := mlo 6 (by decide) (by decide)
    have hrest := rk_sub_t t5 hfl
    have r0 : ∀ z : Int32, 0 < z ↔ 0 < z.toInt := fun z => Int32.lt_iff_toInt_lt
    have hA : 0 < N (50 + 7 * p + 3) - N 5 → sp_testN N p 6 ≤ N (50 + 7 * p + 3) - N 5 → sp_testN N p 12 = nI c ∧ sp_testN N p (50 + 7 * p + 3) = N (50 + 7 * p + 3) - N 5 ∧ sp_testN N p (50 + 7 * p + 4) = N (50 + 7 * p + 4) - sp_yin (N (50 + 7 * p + 4)) (N 5) (N (50 + 7 * p + 3)) ∧ sp_testN N p (50 + 7 * p + 5) = N (50 + 7 * p + 5) ∧ sp_testN N p (50 + 7 * p + 6) = N (50 + 7 * p + 6) := fun z1 z2 => by
      rw [m6] at z2
      have ec := cut_r (N := N) (p := p) (feet := N 5) (fun q => by rw [q] at z1; exact absurd z1 (by decide)) (Int32.not_lt.mpr z2)
      rw [mx 12 (by omega), mx _ (by omega), mx _ (by omega), mx _ (by omega), mx _ (by omega), ec]
      refine ⟨(sp_cut1_x (by omega) (by omega)).trans hc, sp_cut1_3, by rw [sp_cut1, sp_us], sp_cut1_x (by omega) (by omega), sp_cut1_x (by omega) (by omega)⟩
    have hgo : ¬ (0 < N (50 + 7 * p + 3) - N 5 ∧ sp_testN N p 6 ≤ N (50 + 7 * p + 3) - N 5) → N (50 + 7 * p + 3) - N 5 = 0 ∨ N (50 + 7 * p + 3) - N 5 < N 6 := fun z => by
      rw [m6] at z
      by_cases hz : 0 < N (50 + 7 * p + 3) - N 5
      · exact Or.inr (Int32.not_le.mp (fun q => z ⟨hz, q⟩))
      · refine Or.inl (Int32.toInt_inj.mp ?_)
        have := mt (r0 _).mpr hz
        show _ = (0 : Int)
        omega
    have hB : ∀ J : rk_Mm, J 26 nb = I 26 nb → ¬ (0 < N (50 + 7 * p + 3) - N 5 ∧ sp_testN N p 6 ≤ N (50 + 7 * p + 3) - N 5) → sp_testN N p 12 = nI (c - 1) ∧ (p = c - 1 ∨ (p < c - 1 ∧ ∀ j, j < 8 → J 26 nb j = pv (sp_testN N p) p j)) := fun J hJ z => by
      obtain ⟨g1, g2, g3, g4⟩ := cut_g (hgo z) hc hc2 hp hf ef
      refine ⟨(mx 12 (by omega)).trans g1, ?_⟩
      by_cases hlast : p = c - 1
      · exact Or.inl hlast
      · have hlt : p + 1 < c := by omega
        obtain ⟨f2, hf2, ef2⟩ := hv.2.2.1 (p + 1) hlt
        refine Or.inr ⟨by omega, fun j hj => ?_⟩
        rw [hJ, pb hlt j hj]
        refine (pv_c (M := sp_testN N p) (p := p) hf2 ef2 (fun j hj => ?_) (mlo 3 (by decide) (by decide)) (fun f hf => mlo _ (by omega) (by omega)) j hj).symm
        rw [mx _ (by omega), g2 p (by omega) j hj, if_neg (Nat.lt_irrefl p)]
    have e43 : sp_testN N p (30 + 4 * f + 3) = N (30 + 4 * f + 3) + (if 0 < N (50 + 7 * p + 3) - N 5 ∧ N (50 + 7 * p + 3) - N 5 < N 6 then N (50 + 7 * p + 4) - sp_yin (N (50 + 7 * p + 4)) (N 5) (N (50 + 7 * p + 3)) else 0) := by
      rw [mx _ (by omega)]
      by_cases hq : 0 < N (50 + 7 * p + 3) - N 5 ∧ sp_testN N p 6 ≤ N (50 + 7 * p + 3) - N 5
      · have hq2 := hq.2
        rw [m6] at hq2
        have ec := cut_r (N := N) (p := p) (feet := N 5) (fun q => by have z1 := hq.1; rw [q] at z1; exact absurd z1 (by decide)) (Int32.not_lt.mpr hq2)
        rw [ec, sp_cut1_x (by omega) (by omega), if_neg (fun z => Int32.not_lt.mpr hq2 z.2), Int32.add_zero]
      · obtain ⟨g1, g2, g3, g4⟩ := cut_g (hgo hq) hc hc2 hp hf ef
        rw [g4]
        by_cases hz : N (50 + 7 * p + 3) - N 5 = 0
        · rw [if_pos hz, if_neg (fun z => by have z1 := z.1; rw [hz] at z1; exact absurd z1 (by decide)), Int32.add_zero]
        · have hlt := (hgo hq).resolve_left hz
          have hpos : 0 < N (50 + 7 * p + 3) - N 5 := by
            refine (r0 _).mpr ?_
            have hnz : (N (50 + 7 * p + 3) - N 5).toInt ≠ 0 := fun z => hz (Int32.toInt_inj.mp z)
            omega
          rw [if_neg hz, if_pos ⟨hpos, hlt⟩]
    have k165 : ∀ b : Int32, ((b = 1 ∧ (0 < N (50 + 7 * p + 3) - N 5 ∧ N (50 + 7 * p + 3) - N 5 < N 6)) ∨ (b = 0 ∧ ¬ (0 < N (50 + 7 * p + 3) - N 5 ∧ N (50 + 7 * p + 3) - N 5 < N 6))) → rk_Wp w l rk_mL_isTested 8 2 16 (rk_G w (fun r u => ∃ x', r = some (rk_i x') ∧ (∀ q, Sh.2 q ≠ 0 → u.1.2 q = Sh.2 q) ∧ lZ rg x k x' u) 2 16) 167 [(0, rk_a 11 x), (1, rk_i (nI p)), (2, rk_i (nI c)), (3, rk_a 26 na), (4, rk_a 26 nb), (5, rk_i (sp_acc N f 4)), (6, rk_i (sp_acc N f 5)), (7, rk_i (N 5)), (8, rk_i (sp_yin (N (50 + 7 * p + 4)) (N 5) (N (50 + 7 * p + 3)))), (9, rk_i (N (50 + 7 * p + 3) - N 5)), (10, rk_i b)] [] Z I R := by
      intro b hb
      have a5 : ∀ z : Int32, (z = (if 0 < N (50 + 7 * p + 3) - N 5 ∧ N (50 + 7 * p + 3) - N 5 < N 6 then N (50 + 7 * p + 4) - sp_yin (N (50 + 7 * p + 4)) (N 5) (N (50 + 7 * p + 3)) else 0)) → sp_acc (sp_testN N p) f 5 = sp_acc N f 5 + z := fun z hz => by rw [hz]; exact e43
      rcases hb with ⟨rfl, hb⟩ | ⟨rfl, hb⟩
      · skip
        refine rk_aload_n 0 dL_isTested_167 rfl rfl ?_
        refine rk_iload_n 1 dL_isTested_168 rfl rfl ?_
        refine rk_cVi (lq_test hY _) rk_eX10_test rfl ⟨rfl, rfl⟩ rk_kL_58 dL_isTested_169 rfl (by decide) (Nat.le_of_ble_eq_true rfl) hz (fun xz1 Iz1 Rz1 hz1 => ?_)
        rw [hsp] at hz1
        obtain ⟨ex, hY2, fr⟩ := hz1
        have hY3 : lY rg Iz1 Rz1 x ((k : Int) + 1) (sp_testN N p) := hY2
        have ea : Iz1 26 na = I 26 na := fr.1 26 na (by rw [ga]; decide)
        have eb : Iz1 26 nb = I 26 nb := fr.1 26 nb (by rw [gb]; decide)
        have fa2 : ∀ j, j < 7 → Iz1 26 na j = N (50 + 7 * p + j) := fun j hj => by rw [ea]; exact fa j hj
        refine rk_aload_n 3 dL_isTested_172 rfl rfl ?_
        refine rk_bipush 7 dL_isTested_173 (by decide) ?_
        refine rk_rn26 7 dL_isTested_175 rfl (by first | decide | assumption | omega) ?_
        rw [ea, pa 7 (by decide)]
        refine rk_pc (pc' := 176) rfl ?_
        refine rk_icmp_ne 242 dL_isTested_176 (by decide) (fun qz176 => ?_) (fun qz176 => ?_)
        · skip
          exact absurd ex qz176
        · skip
          refine rk_aload_n 0 dL_isTested_179 rfl rfl ?_
          refine rk_iload_n 1 dL_isTested_180 rfl rfl ?_
          refine rk_aload_n 3 dL_isTested_181 rfl rfl ?_
          refine rk_aload dL_isTested_182 rfl ?_
          refine rk_iload dL_isTested_184 rfl ?_
          refine rk_iload_n 2 dL_isTested_186 rfl rfl ?_
          refine rk_pc (pc' := 187) rfl ?_
          refine rk_cSp (cL_isCut_s (W := fun j => N (50 + 7 * p + j)) hY3 hp hc2 fa2 hL32 hA (hB _ eb)) rk_eL_isCut rfl rk_kL_61 dL_isTested_187 rfl (by decide) (Nat.le_of_ble_eq_true rfl) hz ?_
          refine rk_if_eq 242 dL_isTested_190 (by decide) (fun qz190 => ?_) (fun qz190 => ?_)
          · skip
            exact absurd qz190 (by decide)
          · skip
            refine rk_aload_n 0 dL_isTested_193 rfl rfl ?_
            refine rk_aload_n 3 dL_isTested_194 rfl rfl ?_
            refine rk_iconst 0 dL_isTested_195 (by decide) ?_
            refine rk_rn26 0 dL_isTested_196 rfl (by first | decide | assumption | omega) ?_
            rw [fa2 0 (by decide), ef]
            refine rk_iconst 4 dL_isTested_197 (by decide) ?_
            refine rk_pc (pc' := 198) rfl ?_
            refine rk_cVp (qa (k := 4) hY3 hf (by decide) rfl rfl) rk_eX10_account rfl ⟨rfl, rfl⟩ rk_kL_18 dL_isTested_198 rfl (by decide) (Nat.le_of_ble_eq_true rfl) hz ?_
            refine rk_iload dL_isTested_201 rfl ?_
            refine rk_iload dL_isTested_203 rfl ?_
            refine rk_iadd dL_isTested_205 ?_
            refine rk_icmp_ne 242 dL_isTested_206 (by decide) (fun qz206 => ?_) (fun qz206 => ?_)
            · skip
              exact absurd m42 qz206
            · skip
              refine rk_aload_n 0 dL_isTested_209 rfl rfl ?_
              refine rk_aload_n 3 dL_isTested_210 rfl rfl ?_
              refine rk_pc (pc' := 211) rfl ?_
              refine rk_iconst 0 dL_isTested_211 (by decide) ?_
              refine rk_rn26 0 dL_isTested_212 rfl (by first | decide | assumption | omega) ?_
              rw [fa2 0 (by decide), ef]
              refine rk_iconst 5 dL_isTested_213 (by decide) ?_
              refine rk_cVp (qa (k := 5) hY3 hf (by decide) rfl rfl) rk_eX10_account rfl ⟨rfl, rfl⟩ rk_kL_18 dL_isTested_214 rfl (by decide) (Nat.le_of_ble_eq_true rfl) hz ?_
              refine rk_iload dL_isTested_217 rfl ?_
              refine rk_iload dL_isTested_219 rfl ?_
              refine rk_pc (pc' := 221) rfl ?_
              refine rk_if_eq 233 dL_isTested_221 (by decide) (fun qz221 => ?_) (fun qz221 => ?_)
              · skip
                exact absurd qz221 (by decide)
              · skip
                refine rk_aload_n 3 dL_isTested_224 rfl rfl ?_
                refine rk_iconst 4 dL_isTested_225 (by decide) ?_
                refine rk_rn26 4 dL_isTested_226 rfl (by first | decide | assumption | omega) ?_
                rw [fa2 4 (by decide)]
                refine rk_iload dL_isTested_227 rfl ?_
                refine rk_isub dL_isTested_229 ?_
                refine rk_goto 234 dL_isTested_230 (by decide) ?_
                refine rk_pc (pc' := 234) rfl ?_
                refine rk_iadd dL_isTested_234 ?_
                refine rk_icmp_ne 242 dL_isTested_235 (by decide) (fun qz235 => ?_) (fun qz235 => ?_)
                · skip
                  exact absurd (a5 _ (if_pos hb).symm) qz235
                · skip
                  refine rk_iconst 1 dL_isTested_238 (by decide) ?_
                  refine rk_goto 243 dL_isTested_239 (by decide) ?_
                  refine rk_iretN dL_isTested_243 rfl (by decide) ?_
                  exact ⟨hz, hkd, rfl, _, lX.of hY3 hs2 (by rw [mlo 10 (by decide) (by decide)]; exact hd)⟩
      · skip
        refine rk_aload_n 0 dL_isTested_167 rfl rfl ?_
        refine rk_iload_n 1 dL_isTested_168 rfl rfl ?_
        refine rk_cVi (lq_test hY _) rk_eX10_test rfl ⟨rfl, rfl⟩ rk_kL_58 dL_isTested_169 rfl (by decide) (Nat.le_of_ble_eq_true rfl) hz (fun xz1 Iz1 Rz1 hz1 => ?_)
        rw [hsp] at hz1
        obtain ⟨ex, hY2, fr⟩ := hz1
        have hY3 : lY rg Iz1 Rz1 x ((k : Int) + 1) (sp_testN N p) := hY2
        have ea : Iz1 26 na = I 26 na := fr.1 26 na (by rw [ga]; decide)
        have eb : Iz1 26 nb = I 26 nb := fr.1 26 nb (by rw [gb]; decide)
        have fa2 : ∀ j, j < 7 → Iz1 26 na j = N (50 + 7 * p + j) := fun j hj => by rw [ea]; exact fa j hj
        refine rk_aload_n 3 dL_isTested_172 rfl rfl ?_
        refine rk_bipush 7 dL_isTested_173 (by decide) ?_
        refine rk_rn26 7 dL_isTested_175 rfl (by first | decide | assumption | omega) ?_
        rw [ea, pa 7 (by decide)]
        refine rk_pc (pc' := 176) rfl ?_
        refine rk_icmp_ne 242 dL_isTested_176 (by decide) (fun qz176 => ?_) (fun qz176 => ?_)
        · skip
          exact absurd ex qz176
        · skip
          refine rk_aload_n 0 dL_isTested_179 rfl rfl ?_
          refine rk_iload_n 1 dL_isTested_180 rfl rfl ?_
          refine rk_aload_n 3 dL_isTested_181 rfl rfl ?_
          refine rk_aload dL_isTested_182 rfl ?_
          refine rk_iload dL_isTested_184 rfl ?_
          refine rk_iload_n 2 dL_isTested_186 rfl rfl ?_
          refine rk_pc (pc' := 187) rfl ?_
          refine rk_cSp (cL_isCut_s (W := fun j => N (50 + 7 * p + j)) hY3 hp hc2 fa2 hL32 hA (hB _ eb)) rk_eL_isCut rfl rk_kL_61 dL_isTested_187 rfl (by decide) (Nat.le_of_ble_eq_true rfl) hz ?_
          refine rk_if_eq 242 dL_isTested_190 (by decide) (fun qz190 => ?_) (fun qz190 => ?_)
          · skip
            exact absurd qz190 (by decide)
          · skip
            refine rk_aload_n 0 dL_isTested_193 rfl rfl ?_
            refine rk_aload_n 3 dL_isTested_194 rfl rfl ?_
            refine rk_iconst 0 dL_isTested_195 (by decide) ?_
            refine rk_rn26 0 dL_isTested_196 rfl (by first | decide | assumption | omega) ?_
            rw [fa2 0 (by decide), ef]
            refine rk_iconst 4 dL_isTested_197 (by decide) ?_
            refine rk_pc (pc' := 198) rfl ?_
            refine rk_cVp (qa (k := 4) hY3 hf (by decide) rfl rfl) rk_eX10_account rfl ⟨rfl, rfl⟩ rk_kL_18 dL_isTested_198 rfl (by decide) (Nat.le_of_ble_eq_true rfl) hz ?_
            refine rk_iload dL_isTested_201 rfl ?_
            refine rk_iload dL_isTested_203 rfl ?_
            refine rk_iadd dL_isTested_205 ?_
            refine rk_icmp_ne 242 dL_isTested_206 (by decide) (fun qz206 => ?_) (fun qz206 => ?_)
            · skip
              exact absurd m42 qz206
            · skip
              refine rk_aload_n 0 dL_isTested_209 rfl rfl ?_
              refine rk_aload_n 3 dL_isTested_210 rfl rfl ?_
              refine rk_pc (pc' := 211) rfl ?_
              refine rk_iconst 0 dL_isTested_211 (by decide) ?_
              refine rk_rn26 0 dL_isTested_212 rfl (by first | decide | assumption | omega) ?_
              rw [fa2 0 (by decide), ef]
              refine rk_iconst 5 dL_isTested_213 (by decide) ?_
              refine rk_cVp (qa (k := 5) hY3 hf (by decide) rfl rfl) rk_eX10_account rfl ⟨rfl, rfl⟩ rk_kL_18 dL_isTested_214 rfl (by decide) (Nat.le_of_ble_eq_true rfl) hz ?_
              refine rk_iload dL_isTested_217 rfl ?_
              refine rk_iload dL_isTested_219 rfl ?_
              refine rk_pc (pc' := 221) rfl ?_
              refine rk_if_eq 233 dL_isTested_221 (by decide) (fun qz221 => ?_) (fun qz221 => ?_)
              · skip
                refine rk_iconst 0 dL_isTested_233 (by decide) ?_
                refine rk_iadd dL_isTested_234 ?_
                refine rk_icmp_ne 242 dL_isTested_235 (by decide) (fun qz235 => ?_) (fun qz235 => ?_)
                · skip
                  exact absurd (a5 _ (if_neg hb).symm) qz235
                · skip
                  refine rk_iconst 1 dL_isTested_238 (by decide) ?_
                  refine rk_goto 243 dL_isTested_239 (by decide) ?_
                  refine rk_iretN dL_isTested_243 rfl (by decide) ?_
                  exact ⟨hz, hkd, rfl, _, lX.of hY3 hs2 (by rw [mlo 10 (by decide) (by decide)]; exact hd)⟩
              · skip
                exact absurd qz221 (by decide)
    refine rk_aload_n 0 dL_isTested_59 rfl rfl ?_
    refine rk_aload_n 3 dL_isTested_60 rfl rfl ?_
    refine rk_iconst 0 dL_isTested_61 (by decide) ?_
    refine rk_rn26 0 dL_isTested_62 rfl (by first | decide | assumption | omega) ?_
    rw [fa 0 (by decide), ef]
    refine rk_iconst 4 dL_isTested_63 (by decide) ?_
    refine rk_cVp (qa (k := 4) hY hf (by decide) rfl rfl) rk_eX10_account rfl ⟨rfl, rfl⟩ rk_kL_18 dL_isTested_64 rfl (by decide) (Nat.le_of_ble_eq_true rfl) hz ?_
    refine rk_pc (pc' := 67) rfl ?_
    refine rk_istore (ls' := [(5, _), (0, _), (1, _), (2, _), (3, _), (4, _)]) dL_isTested_67 (by decide) rfl ?_
    refine rk_aload_n 0 dL_isTested_69 rfl rfl ?_
    refine rk_aload_n 3 dL_isTested_70 rfl rfl ?_
    refine rk_iconst 0 dL_isTested_71 (by decide) ?_
    refine rk_rn26 0 dL_isTested_72 rfl (by first | decide | assumption | omega) ?_
    rw [fa 0 (by decide), ef]
    refine rk_iconst 5 dL_isTested_73 (by decide) ?_
    refine rk_pc (pc' := 74) rfl ?_
    refine rk_cVp (qa (k := 5) hY hf (by decide) rfl rfl) rk_eX10_account rfl ⟨rfl, rfl⟩ rk_kL_18 dL_isTested_74 rfl (by decide) (Nat.le_of_ble_eq_true rfl) hz ?_
    refine rk_istore (ls' := [(6, _), (5, _), (0, _), (1, _), (2, _), (3, _), (4, _)]) dL_isTested_77 (by decide) rfl ?_
    refine rk_aload_n 0 dL_isTested_79 rfl rfl ?_
    refine rk_bipush 14 dL_isTested_80 (by decide) ?_
    refine rk_cVp (qc14 hY) rk_eX10_count rfl ⟨rfl, rfl⟩ rk_kL_8 dL_isTested_82 rfl (by decide) (Nat.le_of_ble_eq_true rfl) hz ?_
    refine rk_istore (ls' := [(7, _), (6, _), (5, _), (0, _), (1, _), (2, _), (3, _), (4, _)]) dL_isTested_85 (by decide) rfl ?_
    refine rk_pc (pc' := 87) rfl ?_
    refine rk_aload_n 3 dL_isTested_87 rfl rfl ?_
    refine rk_iconst 3 dL_isTested_88 (by decide) ?_
    refine rk_rn26 3 dL_isTested_89 rfl (by first | decide | assumption | omega) ?_
    rw [fa 3 (by decide)]
    refine rk_iload dL_isTested_90 rfl ?_
    refine rk_icmp_ge 120 dL_isTested_92 (by decide) (fun qz92 => ?_) (fun qz92 => ?_)
    · skip
      refine rk_aload_n 3 dL_isTested_120 rfl rfl ?_
      refine rk_iconst 4 dL_isTested_121 (by decide) ?_
      refine rk_pc (pc' := 122) rfl ?_
      refine rk_rn26 4 dL_isTested_122 rfl (by first | decide | assumption | omega) ?_
      rw [fa 4 (by decide)]
      refine rk_i2l dL_isTested_123 ?_
      refine rk_iload dL_isTested_124 rfl ?_
      refine rk_i2l dL_isTested_126 ?_
      refine rk_lmul dL_isTested_127 ?_
      refine rk_aload_n 3 dL_isTested_128 rfl rfl ?_
      refine rk_pc (pc' := 129) rfl ?_
      refine rk_iconst 3 dL_isTested_129 (by decide) ?_
      refine rk_rn26 3 dL_isTested_130 rfl (by first | decide | assumption | omega) ?_
      rw [fa 3 (by decide)]
      refine rk_i2l dL_isTested_131 ?_
      refine rk_ldiv dL_isTested_132 (by exact hl0) ?_
      refine rk_l2i dL_isTested_133 ?_
      refine rk_istore (ls' := [(8, _), (7, _), (6, _), (5, _), (0, _), (1, _), (2, _), (3, _), (4, _)]) dL_isTested_134 (by decide) rfl ?_
      refine rk_pc (pc' := 136) rfl ?_
      refine rk_aload_n 3 dL_isTested_136 rfl rfl ?_
      refine rk_iconst 3 dL_isTested_137 (by decide) ?_
      refine rk_rn26 3 dL_isTested_138 rfl (by first | decide | assumption | omega) ?_
      rw [fa 3 (by decide)]
      refine rk_iload dL_isTested_139 rfl ?_
      refine rk_isub dL_isTested_141 ?_
      refine rk_istore (ls' := [(9, _), (8, _), (7, _), (6, _), (5, _), (0, _), (1, _), (2, _), (3, _), (4, _)]) dL_isTested_142 (by decide) rfl ?_
      refine rk_pc (pc' := 144) rfl ?_
      refine rk_iload dL_isTested_144 rfl ?_
      refine rk_if_le 164 dL_isTested_146 (by decide) (fun qz146 => ?_) (fun qz146 => ?_)
      · skip
        refine rk_iconst 0 dL_isTested_164 (by decide) ?_
        refine rk_istore (ls' := [(10, _), (9, _), (8, _), (7, _), (6, _), (5, _), (0, _), (1, _), (2, _), (3, _), (4, _)]) dL_isTested_165 (by decide) rfl ?_
        refine rk_ord [0, 1, 2, 3, 4, 5, 6, 7, 8, 9, 10] (ls' := [(0, _), (1, _), (2, _), (3, _), (4, _), (5, _), (6, _), (7, _), (8, _), (9, _), (10, _)]) rfl ?_
        first | exact k165 1 (Or.inl ⟨rfl, Int32.not_le.mp qz146, Int32.not_le.mp qz157⟩) | exact k165 0 (Or.inr ⟨rfl, fun z => Int32.not_lt.mpr qz157 z.2⟩) | exact k165 0 (Or.inr ⟨rfl, fun z => Int32.not_lt.mpr qz146 z.1⟩)
      · skip
        refine rk_iload dL_isTested_149 rfl ?_
        refine rk_aload_n 0 dL_isTested_151 rfl rfl ?_
        refine rk_bipush 15 dL_isTested_152 (by decide) ?_
        refine rk_pc (pc' := 154) rfl ?_
        refine rk_cVp (qc15 hY) rk_eX10_count rfl ⟨rfl, rfl⟩ rk_kL_8 dL_isTested_154 rfl (by decide) (Nat.le_of_ble_eq_true rfl) hz ?_
        refine rk_icmp_ge 164 dL_isTested_157 (by decide) (fun qz157 => ?_) (fun qz157 => ?_)
        · skip
          refine rk_iconst 0 dL_isTested_164 (by decide) ?_
          refine rk_istore (ls' := [(10, _), (9, _), (8, _), (7, _), (6, _), (5, _), (0, _), (1, _), (2, _), (3, _), (4, _)]) dL_isTested_165 (by decide) rfl ?_
          refine rk_ord [0, 1, 2, 3, 4, 5, 6, 7, 8, 9, 10] (ls' := [(0, _), (1, _), (2, _), (3, _), (4, _), (5, _), (6, _), (7, _), (8, _), (9, _), (10, _)]) rfl ?_
          first | exact k165 1 (Or.inl ⟨rfl, Int32.not_le.mp qz146, Int32.not_le.mp qz157⟩) | exact k165 0 (Or.inr ⟨rfl, fun z => Int32.not_lt.mpr qz157 z.2⟩) | exact k165 0 (Or.inr ⟨rfl, fun z => Int32.not_lt.mpr qz146 z.1⟩)
        · skip
          refine rk_iconst 1 dL_isTested_160 (by decide) ?_
          refine rk_goto 165 dL_isTested_161 (by decide) ?_
          refine rk_istore (ls' := [(10, _), (9, _), (8, _), (7, _), (6, _), (5, _), (0, _), (1, _), (2, _), (3, _), (4, _)]) dL_isTested_165 (by decide) rfl ?_
          refine rk_pc (pc' := 167) rfl ?_
          refine rk_ord [0, 1, 2, 3, 4, 5, 6, 7, 8, 9, 10] (ls' := [(0, _), (1, _), (2, _), (3, _), (4, _), (5, _), (6, _), (7, _), (8, _), (9, _), (10, _)]) rfl ?_
          first | exact k165 1 (Or.inl ⟨rfl, Int32.not_le.mp qz146, Int32.not_le.mp qz157⟩) | exact k165 0 (Or.inr ⟨rfl, fun z => Int32.not_lt.mpr qz157 z.2⟩) | exact k165 0 (Or.inr ⟨rfl, fun z => Int32.not_lt.mpr qz146 z.1⟩)
    · skip
      exact absurd hlen qz92
  · have hsp : sp_test N (nI p) = (-5, none) := by
      unfold sp_test
      rw [if_pos (ispc_n hc hc2 hp), ca, if_neg hlen]
    refine rk_aload_n 0 dL_isTested_59 rfl rfl ?_
    refine rk_aload_n 3 dL_isTested_60 rfl rfl ?_
    refine rk_iconst 0 dL_isTested_61 (by decide) ?_
    refine rk_rn26 0 dL_isTested_62 rfl (by first | decide | assumption | omega) ?_
    rw [fa 0 (by decide), ef]
    refine rk_iconst 4 dL_isTested_63 (by decide) ?_
    refine rk_cVp (qa (k := 4) hY hf (by decide) rfl rfl) rk_eX10_account rfl ⟨rfl, rfl⟩ rk_kL_18 dL_isTested_64 rfl (by decide) (Nat.le_of_ble_eq_true rfl) hz ?_
    refine rk_pc (pc' := 67) rfl ?_
    refine rk_istore (ls' := [(5, _), (0, _), (1, _), (2, _), (3, _), (4, _)]) dL_isTested_67 (by decide) rfl ?_
    refine rk_aload_n 0 dL_isTested_69 rfl rfl ?_
    refine rk_aload_n 3 dL_isTested_70 rfl rfl ?_
    refine rk_iconst 0 dL_isTested_71 (by decide) ?_
    refine rk_rn26 0 dL_isTested_72 rfl (by first | decide | assumption | omega) ?_
    rw [fa 0 (by decide), ef]
    refine rk_iconst 5 dL_isTested_73 (by decide) ?_
    refine rk_pc (pc' := 74) rfl ?_
    refine rk_cVp (qa (k := 5) hY hf (by decide) rfl rfl) rk_eX10_account rfl ⟨rfl, rfl⟩ rk_kL_18 dL_isTested_74 rfl (by decide) (Nat.le_of_ble_eq_true rfl) hz ?_
    refine rk_istore (ls' := [(6, _), (5, _), (0, _), (1, _), (2, _), (3, _), (4, _)]) dL_isTested_77 (by decide) rfl ?_
    refine rk_aload_n 0 dL_isTested_79 rfl rfl ?_
    refine rk_bipush 14 dL_isTested_80 (by decide) ?_
    refine rk_cVp (qc14 hY) rk_eX10_count rfl ⟨rfl, rfl⟩ rk_kL_8 dL_isTested_82 rfl (by decide) (Nat.le_of_ble_eq_true rfl) hz ?_
    refine rk_istore (ls' := [(7, _), (6, _), (5, _), (0, _), (1, _), (2, _), (3, _), (4, _)]) dL_isTested_85 (by decide) rfl ?_
    refine rk_pc (pc' := 87) rfl ?_
    refine rk_aload_n 3 dL_isTested_87 rfl rfl ?_
    refine rk_iconst 3 dL_isTested_88 (by decide) ?_
    refine rk_rn26 3 dL_isTested_89 rfl (by first | decide | assumption | omega) ?_
    rw [fa 3 (by decide)]
    refine rk_iload dL_isTested_90 rfl ?_
    refine rk_icmp_ge 120 dL_isTested_92 (by decide) (fun qz92 => ?_) (fun qz92 => ?_)
    · skip
      exact absurd qz92 hlen
    · skip
      refine rk_aload_n 0 dL_isTested_95 rfl rfl ?_
      refine rk_iload_n 1 dL_isTested_96 rfl rfl ?_
      refine rk_pc (pc' := 97) rfl ?_
      refine rk_cVi (lq_test hY _) rk_eX10_test rfl ⟨rfl, rfl⟩ rk_kL_58 dL_isTested_97 rfl (by decide) (Nat.le_of_ble_eq_true rfl) hz (fun xz1 Iz1 Rz1 hz1 => ?_)
      rw [hsp] at hz1
      obtain ⟨ex, hY2, fr⟩ := hz1
      have hY3 : lY rg Iz1 Rz1 x ((k : Int) + 1) N := hY2
      have ea : Iz1 26 na = I 26 na := fr.1 26 na (by rw [ga]; decide)
      refine rk_bipush (-5) dL_isTested_100 (by decide) ?_
      refine rk_icmp_ne 118 dL_isTested_102 (by decide) (fun qz102 => ?_) (fun qz102 => ?_)
      · skip
        exact absurd ex qz102
      · skip
        refine rk_aload_n 0 dL_isTested_105 rfl rfl ?_
        refine rk_iload_n 1 dL_isTested_106 rfl rfl ?_
        refine rk_aload_n 3 dL_isTested_107 rfl rfl ?_
        refine rk_cSp (cL_isLike_s hY3 hc hc2 hp (fun j hj => by rw [ea]; exact pa j hj)) rk_eL_isLike rfl rk_kL_54 dL_isTested_108 rfl (by decide) (Nat.le_of_ble_eq_true rfl) hz ?_
        refine rk_pc (pc' := 111) rfl ?_
        refine rk_if_eq 118 dL_isTested_111 (by decide) (fun qz111 => ?_) (fun qz111 => ?_)
        · skip
          exact absurd qz111 (by decide)
        · skip
          refine rk_iconst 1 dL_isTested_114 (by decide) ?_
          refine rk_goto 119 dL_isTested_115 (by decide) ?_
          refine rk_iretN dL_isTested_119 rfl (by decide) ?_
          exact ⟨hz, hkd, rfl, N, lX.of hY3 hsi hd⟩
theorem cL_isTested_s {p c : Nat} (h : lX rg I R x k N) (hk : k ≤ 200) (hrg : ∀ q, Sh.2 q = 0 → rg q = 104) (hc : N 12 = nI c) (hc2 : c ≤ 24) (hp : p ≤ c) : rk_N w l rk_mL_isTested 8 2 16 [rk_a 11 x, rk_i (nI p)] Sh I R (lZ rg x k) := by
  obtain ⟨hY, hsi, hd⟩ := h
  by_cases hpc : p < c
  · have hv := hY.pv hc hc2
    obtain ⟨f, hf, ef⟩ := hv.2.2.1 p hpc
    refine rk_bN (ls := [(0, _), (1, _)]) (by decide) rfl (Nat.le_of_ble_eq_true rfl) ?_
    refine rk_aload_n 0 dL_isTested_0 rfl rfl ?_
    refine rk_iconst 1 dL_isTested_1 (by decide) ?_
    refine rk_cVp (qc1 hY) rk_eX10_count rfl ⟨rfl, rfl⟩ rk_kL_8 dL_isTested_2 rfl (by decide) (Nat.le_of_ble_eq_true rfl) ⟨Nat.le_of_ble_eq_true rfl, Nat.le_of_ble_eq_true rfl⟩ ?_
    rw [hc]
    refine rk_istore_n 2 (ls' := [(2, _), (0, _), (1, _)]) dL_isTested_5 rfl (by decide) rfl ?_
    refine rk_iload_n 1 dL_isTested_6 rfl rfl ?_
    refine rk_iload_n 2 dL_isTested_7 rfl rfl ?_
    refine rk_pc (pc' := 8) rfl ?_
    refine rk_icmp_lt 26 dL_isTested_8 (by decide) (fun qz8 => ?_) (fun qz8 => ?_)
    · skip
      refine rk_bipush 8 dL_isTested_26 (by decide) ?_
      refine rk_nb26 (by decide) (by exact Nat.le_of_ble_eq_true rfl) (by exact Nat.le_of_ble_eq_true rfl) dL_isTested_28 (fun nz1 hn1 => ?_)
      refine rk_astore_n 3 (ls' := [(3, _), (2, _), (0, _), (1, _)]) dL_isTested_30 rfl (by decide) rfl ?_
      refine rk_bipush 8 dL_isTested_31 (by decide) ?_
      refine rk_nb26 (by decide) (by exact Nat.le_of_ble_eq_true rfl) (by exact Nat.le_of_ble_eq_true rfl) dL_isTested_33 (fun nz2 hn2 => ?_)
      have g1 : rg nz1 = 104 := hrg nz1 hn1.1
      have g2 : rg nz2 = 104 := hrg nz2 (rk_nS_0 (by decide) hn2.1).2
      have n12 : nz2 ≠ nz1 := (rk_nS_0 (by decide) hn2.1).1
      have hk2 : ∀ q, Sh.2 q ≠ 0 → (rk_nS (rk_nS Sh nz1 26) nz2 26).2 q = Sh.2 q := fun q hq => (rk_nS_k hn2.1 (by rw [rk_nS_k hn1.1 hq]; exact hq)).trans (rk_nS_k hn1.1 hq)
      have hY1 : lY rg (rk_nI (rk_nI I nz1) nz2) R x (k : Int) N := (hY.mf (rk_nI_f g1)).mf (rk_nI_f g2)
      refine rk_astore (ls' := [(4, _), (3, _), (2, _), (0, _), (1, _)]) dL_isTested_35 (by decide) rfl ?_
      refine rk_aload_n 0 dL_isTested_37 rfl rfl ?_
      refine rk_iload_n 1 dL_isTested_38 rfl rfl ?_
      refine rk_pc (pc' := 39) rfl ?_
      refine rk_aload_n 3 dL_isTested_39 rfl rfl ?_
      refine rk_cSv (cL_lay_s hY1 hc hc2 hpc g1) rk_eL_lay rfl rk_kL_51 dL_isTested_40 rfl (by decide) (Nat.le_of_ble_eq_true rfl) ⟨Nat.le_of_ble_eq_true rfl, Nat.le_of_ble_eq_true rfl⟩ (fun Iz1 Rz1 hz1 => ?_)
      obtain ⟨eR1, Fa, eA, hFa⟩ := hz1
      obtain rfl := eR1.symm
      have hY2 : lY rg Iz1 R x (k : Int) N := hY1.mf (by rw [eA]; exact cl_fr.ma g1)
      have pa1 : ∀ j, j < 8 → Iz1 26 nz1 j = pv N p j := fun j hj => by rw [eA, md_as]; exact hFa j hj
      refine rk_iload_n 1 dL_isTested_43 rfl rfl ?_
      refine rk_iconst 1 dL_isTested_44 (by decide) ?_
      refine rk_iadd dL_isTested_45 ?_
      refine rk_iload_n 2 dL_isTested_46 rfl rfl ?_
      refine rk_pc (pc' := 47) rfl ?_
      rw [nI_1]
      refine rk_icmp_ge 59 dL_isTested_47 (by decide) (fun qz47 => ?_) (fun qz47 => ?_)
      · skip
        refine rk_ord [0, 1, 2, 3, 4] (ls' := [(0, _), (1, _), (2, _), (3, _), (4, _)]) rfl ?_
        first | exact cL_isTested_k hY3 hsi hd hk hc hc2 hpc hf ef g1 g2 pa pb ⟨Nat.le_of_ble_eq_true rfl, Nat.le_of_ble_eq_true rfl⟩ hk2 | exact cL_isTested_k hY2 hsi hd hk hc hc2 hpc hf ef g1 g2 pa1 (fun z => absurd ((nI_leI (by omega) (by omega)).mp qz47) (by omega)) ⟨Nat.le_of_ble_eq_true rfl, Nat.le_of_ble_eq_true rfl⟩ hk2
      · skip
        refine rk_aload_n 0 dL_isTested_50 rfl rfl ?_
        refine rk_iload_n 1 dL_isTested_51 rfl rfl ?_
        refine rk_iconst 1 dL_isTested_52 (by decide) ?_
        refine rk_iadd dL_isTested_53 ?_
        refine rk_aload dL_isTested_54 rfl ?_
        rw [nI_1]
        refine rk_cSv (cL_lay_s hY2 hc hc2 (show p + 1 < c from rk_le_of (by omega) qz47) g2) rk_eL_lay rfl rk_kL_51 dL_isTested_56 rfl (by decide) (Nat.le_of_ble_eq_true rfl) ⟨Nat.le_of_ble_eq_true rfl, Nat.le_of_ble_eq_true rfl⟩ (fun Iz2 Rz2 hz2 => ?_)
        obtain ⟨eR2, Fb, eB, hFb⟩ := hz2
        obtain rfl := eR2.symm
        have hY3 : lY rg Iz2 R x (k : Int) N := hY2.mf (by rw [eB]; exact cl_fr.ma g2)
        have pa : ∀ j, j < 8 → Iz2 26 nz1 j = pv N p j := fun j hj => by rw [eB, md_an (fun z => n12 z.2.symm)]; exact pa1 j hj
        have pb : p + 1 < c → ∀ j, j < 8 → Iz2 26 nz2 j = pv N (p + 1) j := fun _ j hj => by rw [eB, md_as]; exact hFb j hj
        refine rk_pc (pc' := 59) rfl ?_
        refine rk_ord [0, 1, 2, 3, 4] (ls' := [(0, _), (1, _), (2, _), (3, _), (4, _)]) rfl ?_
        first | exact cL_isTested_k hY3 hsi hd hk hc hc2 hpc hf ef g1 g2 pa pb ⟨Nat.le_of_ble_eq_true rfl, Nat.le_of_ble_eq_true rfl⟩ hk2 | exact cL_isTested_k hY2 hsi hd hk hc hc2 hpc hf ef g1 g2 pa1 (fun z => absurd ((nI_leI (by omega) (by omega)).mp qz47) (by omega)) ⟨Nat.le_of_ble_eq_true rfl, Nat.le_of_ble_eq_true rfl⟩ hk2
    · skip
      exact absurd (nI_lt hpc (by omega)) qz8
  · have hsp : sp_test N (nI p) = (-1, none) := by
      unfold sp_test
      rw [if_neg (ispc_no hc hc2 (Nat.le_of_not_lt hpc) (by omega))]
    refine rk_bN (ls := [(0, _), (1, _)]) (by decide) rfl (Nat.le_of_ble_eq_true rfl) ?_
    refine rk_aload_n 0 dL_isTested_0 rfl rfl ?_
    refine rk_iconst 1 dL_isTested_1 (by decide) ?_
    refine rk_cVp (qc1 hY) rk_eX10_count rfl ⟨rfl, rfl⟩ rk_kL_8 dL_isTested_2 rfl (by decide) (Nat.le_of_ble_eq_true rfl) ⟨Nat.le_of_ble_eq_true rfl, Nat.le_of_ble_eq_true rfl⟩ ?_
    rw [hc]
    refine rk_istore_n 2 (ls' := [(2, _), (0, _), (1, _)]) dL_isTested_5 rfl (by decide) rfl ?_
    refine rk_iload_n 1 dL_isTested_6 rfl rfl ?_
    refine rk_iload_n 2 dL_isTested_7 rfl rfl ?_
    refine rk_pc (pc' := 8) rfl ?_
    refine rk_icmp_lt 26 dL_isTested_8 (by decide) (fun qz8 => ?_) (fun qz8 => ?_)
    · skip
      exact absurd qz8 (nI_nlt (Nat.le_of_not_lt hpc) (by omega))
    · skip
      refine rk_aload_n 0 dL_isTested_11 rfl rfl ?_
      refine rk_iload_n 1 dL_isTested_12 rfl rfl ?_
      refine rk_cVi (lq_test hY _) rk_eX10_test rfl ⟨rfl, rfl⟩ rk_kL_58 dL_isTested_13 rfl (by decide) (Nat.le_of_ble_eq_true rfl) ⟨Nat.le_of_ble_eq_true rfl, Nat.le_of_ble_eq_true rfl⟩ (fun xz1 Iz1 Rz1 hz1 => ?_)
      rw [hsp] at hz1
      obtain ⟨ex, hY2, -⟩ := hz1
      have hY3 : lY rg Iz1 Rz1 x ((k : Int) + 1) N := hY2
      refine rk_iconst (-1) dL_isTested_16 (by decide) ?_
      refine rk_icmp_ne 24 dL_isTested_17 (by decide) (fun qz17 => ?_) (fun qz17 => ?_)
      · skip
        exact absurd ex qz17
      · skip
        refine rk_iconst 1 dL_isTested_20 (by decide) ?_
        refine rk_goto 25 dL_isTested_21 (by decide) ?_
        refine rk_pc (pc' := 25) rfl ?_
        refine rk_iretN dL_isTested_25 rfl (by decide) ?_
        exact ⟨⟨Nat.le_of_ble_eq_true rfl, Nat.le_of_ble_eq_true rfl⟩, fun _ _ => rfl, rfl, N, lX.of hY3 hsi hd⟩
end PK

