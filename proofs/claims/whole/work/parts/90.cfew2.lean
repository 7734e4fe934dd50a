section CY
variable {w : rk_W} {l : Launch} {Sh : rk_Sh} {I : rk_Mm} {R : rk_Rm} {N : Nat → Int32}
theorem sp_nx_no {U : Nat → Int32} {p : Nat} (h : ¬ N 4 < N (50 + 7 * p + 3)) : ∀ k, sp_nx N U p k = -6 := by
  intro k
  induction k with
  | zero => rfl
  | succ k ih => exact (if_neg (fun y => h y.1.2.2.1)).trans ih
theorem sp_z_0 : ∀ c, sp_z (fun _ => 0) c = c := by
  intro c
  induction c with
  | zero => rfl
  | succ c ih => show sp_z (fun _ => 0) c + 1 = c + 1; rw [ih]
theorem sp_fj_y {p c f n : Nat} {feet ln : Int32} {U : Nat → Int32} (h : feet ≤ ln) : sp_fj N p c feet (f + 1) U ln n = nI n := if_pos h
theorem sp_fj_n {p c f n : Nat} {feet ln : Int32} {U : Nat → Int32} (h : ¬ feet ≤ ln) (h2 : sp_nx N U p c = -6) : sp_fj N p c feet (f + 1) U ln n = -6 := (if_neg h).trans (if_pos (by rw [h2]; exact rk_n6))
theorem sp_fj_s {p c f n b : Nat} {feet ln : Int32} {U : Nat → Int32} (h : ¬ feet ≤ ln) (h2 : sp_nx N U p c = nI b) (hb : b < 24) : sp_fj N p c feet (f + 1) U ln n = sp_fj N p c feet f (sp_u U b 1) (ln + (N (50 + 7 * b + 3) - N 4)) (n + 1) := by
  refine (if_neg h).trans ((if_neg (by rw [h2]; exact nI_pos (by omega))).trans ?_)
  rw [h2, nI_clamp (by omega)]
theorem cX7_fewest_l {q p c : Nat} {feet : Int32} (hsp : cl_sp I R q N) (hc : N 12 = nI c) (hc2 : c ≤ 24) (hp : p < c) (h4 : N 4 < N (50 + 7 * p + 3)) : ∀ (m s fu n : Nat) (U : Nat → Int32) (ln z : Int32), s < 2 ^ 24 → (∀ k, k < 24 → (U k = 0 ↔ s.testBit k = false)) → sp_z U c = m → m + n = c → m < fu → ¬ feet ≤ ln → z = sp_fj N p c feet fu U ln n → rk_Wp w l rk_mX7_fewestFor 3 0 0 (rk_GP w Sh I R z) 46 [(0, rk_a 8 q), (1, rk_i (nI p)), (2, rk_i feet), (3, rk_i (N 4)), (4, rk_a 5 (R 20 (R 8 q 0) p)), (5, rk_i ln), (6, rk_i (nI s)), (7, rk_i (nI (n + 1)))] [] (Sh, 0, 0) I R := by
  have h8 : I 8 q 1 = nI c := hsp.1.trans hc
  have hcc : sp_c N 12 = c := sp_cN hc (by omega)
  intro m
  induction m with
  | zero =>
    intro s fu n U ln z hs hU hz hmn hfu hln hzz
    obtain ⟨f, rfl⟩ : ∃ f, fu = f + 1 := ⟨fu - 1, by omega⟩
    obtain rfl : n = c := by omega
    rw [sp_fj_n hln (sp_z_all _ hz)] at hzz
    refine rk_iload dX7_fewestFor_46 rfl ?_
    refine rk_aload_n 0 dX7_fewestFor_48 rfl rfl ?_
    refine rk_g8_1 rk_kX7_23 dX7_fewestFor_49 ?_
    rw [h8]
    refine rk_icmp_gt 128 dX7_fewestFor_52 (by decide) (fun qz52 => ?_) (fun qz52 => ?_)
    · skip
      refine rk_bipush (-6) dX7_fewestFor_128 (by decide) ?_
      refine rk_iretP dX7_fewestFor_130 rfl rfl ?_
      exact hzz.symm
    · skip
      exact absurd (nI_lt (by omega) (by omega)) qz52
  | succ m ih =>
    intro s fu n U ln z hs hU hz hmn hfu hln hzz
    obtain ⟨f, rfl⟩ : ∃ f, fu = f + 1 := ⟨fu - 1, by omega⟩
    obtain ⟨f, rfl⟩ : ∃ f2, f = f2 + 1 := ⟨f - 1, by omega⟩
    have hng : ¬ nI c < nI (n + 1) := nI_nlt (by omega) (by omega)
    rcases sp_ll_in (N := N) (U := U) (p := p) h4 c (by omega) with ⟨hb, hb2⟩ | ⟨b, hbc, hb, hub, hb2, hb3⟩
    · have hlt : sp_ll N U p c < 0 := by rw [hb]; exact rk_n6
      rw [sp_fj_n hln hb2] at hzz
      refine rk_iload dX7_fewestFor_46 rfl ?_
      refine rk_aload_n 0 dX7_fewestFor_48 rfl rfl ?_
      refine rk_g8_1 rk_kX7_23 dX7_fewestFor_49 ?_
      rw [h8]
      refine rk_icmp_gt 128 dX7_fewestFor_52 (by decide) (fun qz52 => ?_) (fun qz52 => ?_)
      · skip
        exact absurd qz52 hng
      · skip
        refine rk_aload_n 0 dX7_fewestFor_55 rfl rfl ?_
        refine rk_aload dX7_fewestFor_56 rfl ?_
        refine rk_iload dX7_fewestFor_58 rfl ?_
        refine rk_pc (pc' := 60) rfl ?_
        refine rk_cVp (cX7_longestLike_s hsp hc hc2 hp h4 hs hU) rk_eX7_longestLike rfl ⟨rfl, rfl⟩ rk_kX7_113 dX7_fewestFor_60 rfl (by decide) (Nat.le_of_ble_eq_true rfl) ⟨Nat.le_refl _, Nat.le_refl _⟩ ?_
        refine rk_istore (ls' := [(8, _), (0, _), (1, _), (2, _), (3, _), (4, _), (5, _), (6, _), (7, _)]) dX7_fewestFor_63 (by decide) rfl ?_
        refine rk_iload dX7_fewestFor_65 rfl ?_
        refine rk_if_lt 84 dX7_fewestFor_67 (by decide) (fun qz67 => ?_) (fun qz67 => ?_)
        · skip
          refine rk_bipush (-6) dX7_fewestFor_84 (by decide) ?_
          refine rk_iretP dX7_fewestFor_86 rfl rfl ?_
          exact hzz.symm
        · skip
          exact absurd hlt qz67
    · have hnl : ¬ sp_ll N U p c < 0 := by rw [hb]; exact nI_pos (by omega)
      have hPb := hsp.2 b (by omega)
      have hst := nI_set (q := b) hs (by omega)
      refine rk_iload dX7_fewestFor_46 rfl ?_
      refine rk_aload_n 0 dX7_fewestFor_48 rfl rfl ?_
      refine rk_g8_1 rk_kX7_23 dX7_fewestFor_49 ?_
      rw [h8]
      refine rk_icmp_gt 128 dX7_fewestFor_52 (by decide) (fun qz52 => ?_) (fun qz52 => ?_)
      · skip
        exact absurd qz52 hng
      · skip
        refine rk_aload_n 0 dX7_fewestFor_55 rfl rfl ?_
        refine rk_aload dX7_fewestFor_56 rfl ?_
        refine rk_iload dX7_fewestFor_58 rfl ?_
        refine rk_pc (pc' := 60) rfl ?_
        refine rk_cVp (cX7_longestLike_s hsp hc hc2 hp h4 hs hU) rk_eX7_longestLike rfl ⟨rfl, rfl⟩ rk_kX7_113 dX7_fewestFor_60 rfl (by decide) (Nat.le_of_ble_eq_true rfl) ⟨Nat.le_refl _, Nat.le_refl _⟩ ?_
        refine rk_istore (ls' := [(8, _), (0, _), (1, _), (2, _), (3, _), (4, _), (5, _), (6, _), (7, _)]) dX7_fewestFor_63 (by decide) rfl ?_
        refine rk_iload dX7_fewestFor_65 rfl ?_
        refine rk_if_lt 84 dX7_fewestFor_67 (by decide) (fun qz67 => ?_) (fun qz67 => ?_)
        · skip
          exact absurd qz67 hnl
        · skip
          refine rk_aload_n 0 dX7_fewestFor_70 rfl rfl ?_
          refine rk_g8_0 rk_kX7_11 dX7_fewestFor_71 ?_
          refine rk_iload dX7_fewestFor_74 rfl ?_
          refine rk_pc (pc' := 76) rfl ?_
          refine rk_rn20 (b) dX7_fewestFor_76 (by first | rfl | decide | assumption | (simp only [rk_lit, nI_add, pk_mul, nI_1]; done) | (simp only [rk_lit, nI_add, pk_mul, nI_1]; congr 1; omega)) (by first | decide | assumption | omega) ?_
          refine rk_g5_3 rk_kX7_50 dX7_fewestFor_77 ?_
          rw [hPb 3 (by decide)]
          refine rk_iload_n 3 dX7_fewestFor_80 rfl rfl ?_
          refine rk_icmp_gt 87 dX7_fewestFor_81 (by decide) (fun qz81 => ?_) (fun qz81 => ?_)
          · skip
            refine rk_iload dX7_fewestFor_87 rfl ?_
            refine rk_aload_n 0 dX7_fewestFor_89 rfl rfl ?_
            refine rk_g8_0 rk_kX7_11 dX7_fewestFor_90 ?_
            refine rk_pc (pc' := 93) rfl ?_
            refine rk_iload dX7_fewestFor_93 rfl ?_
            refine rk_rn20 (b) dX7_fewestFor_95 (by first | rfl | decide | assumption | (simp only [rk_lit, nI_add, pk_mul, nI_1]; done) | (simp only [rk_lit, nI_add, pk_mul, nI_1]; congr 1; omega)) (by first | decide | assumption | omega) ?_
            refine rk_g5_3 rk_kX7_50 dX7_fewestFor_96 ?_
            rw [hPb 3 (by decide)]
            refine rk_iload_n 3 dX7_fewestFor_99 rfl rfl ?_
            refine rk_isub dX7_fewestFor_100 ?_
            refine rk_iadd dX7_fewestFor_101 ?_
            refine rk_pc (pc' := 102) rfl ?_
            refine rk_istore (ls' := [(5, _), (8, _), (0, _), (1, _), (2, _), (3, _), (4, _), (6, _), (7, _)]) dX7_fewestFor_102 (by decide) rfl ?_
            refine rk_iload dX7_fewestFor_104 rfl ?_
            refine rk_iconst 1 dX7_fewestFor_106 (by decide) ?_
            refine rk_iload dX7_fewestFor_107 rfl ?_
            refine rk_ishl dX7_fewestFor_109 ?_
            refine rk_ior dX7_fewestFor_110 ?_
            rw [hb, hst.1]
            refine rk_pc (pc' := 111) rfl ?_
            refine rk_istore (ls' := [(6, _), (5, _), (8, _), (0, _), (1, _), (2, _), (3, _), (4, _), (7, _)]) dX7_fewestFor_111 (by decide) rfl ?_
            refine rk_iload dX7_fewestFor_113 rfl ?_
            refine rk_iload_n 2 dX7_fewestFor_115 rfl rfl ?_
            refine rk_icmp_lt 122 dX7_fewestFor_116 (by decide) (fun qz116 => ?_) (fun qz116 => ?_)
            · skip
              refine rk_iinc 1 (ls' := [(7, _), (6, _), (5, _), (8, _), (0, _), (1, _), (2, _), (3, _), (4, _)]) dX7_fewestFor_122 (by decide) rfl (by decide) rfl ?_
              refine rk_goto 46 dX7_fewestFor_125 (by decide) ?_
              refine rk_ord [0, 1, 2, 3, 4, 5, 6, 7] (ls' := [(0, _), (1, _), (2, _), (3, _), (4, _), (5, _), (6, _), (7, _)]) rfl ?_
              rw [nI_1]
              have hz2 := hzz.trans (sp_fj_s hln (hb2 qz81) (by omega))
              have hzu := sp_z_u hub c hbc
              exact ih (s ||| 2 ^ b) (f + 1) (n + 1) (sp_u U b 1) _ z hst.2 (fun k hk => by
                by_cases hkb : k = b
                · subst hkb
                  rw [sp_us, Nat.testBit_or, Nat.testBit_two_pow_self]
                  simp
                · rw [sp_un hkb, Nat.testBit_or, Nat.testBit_two_pow_of_ne (fun y => hkb y.symm), Bool.or_false]
                  exact hU k hk) (by omega) (by omega) (by omega) (Int32.not_le.mpr qz116) hz2
            · skip
              refine rk_iload dX7_fewestFor_119 rfl ?_
              refine rk_pc (pc' := 121) rfl ?_
              refine rk_iretP dX7_fewestFor_121 rfl rfl ?_
              have hz2 := hzz.trans (sp_fj_s hln (hb2 qz81) (by omega))
              exact (hz2.trans (sp_fj_y (Int32.not_lt.mp qz116))).symm
          · skip
            refine rk_bipush (-6) dX7_fewestFor_84 (by decide) ?_
            refine rk_iretP dX7_fewestFor_86 rfl rfl ?_
            exact (hzz.trans (sp_fj_n hln (hb3 qz81))).symm
theorem cX7_fewestFor_s {q p c : Nat} {feet : Int32} (hsp : cl_sp I R q N) (hc : N 12 = nI c) (hc2 : c ≤ 24) (hp : p < c) : rk_P w l rk_mX7_fewestFor 3 [rk_a 8 q, rk_i (nI p), rk_i feet, rk_i (N 4)] Sh I R (sp_fj N p c feet 25 (fun j => if j = p then 1 else 0) (N (50 + 7 * p + 3)) 1) := by
  have hcc : sp_c N 12 = c := sp_cN hc (by omega)
  have hP := hsp.2 p (by omega)
  have hz : sp_z (fun j => if j = p then 1 else 0) c + 1 = c := by
    have g := sp_z_u (U := fun _ => 0) (q := p) rfl c hp
    rw [sp_z_0] at g
    exact g
  refine rk_bP (ls := [(0, _), (1, _), (2, _), (3, _)]) (by decide) rfl (Nat.le_of_ble_eq_true rfl) ?_
  refine rk_aload_n 0 dX7_fewestFor_0 rfl rfl ?_
  refine rk_g8_0 rk_kX7_11 dX7_fewestFor_1 ?_
  refine rk_iload_n 1 dX7_fewestFor_4 rfl rfl ?_
  refine rk_rn20 (p) dX7_fewestFor_5 (by first | rfl | decide | assumption | (simp only [rk_lit, nI_add, pk_mul, nI_1]; done) | (simp only [rk_lit, nI_add, pk_mul, nI_1]; congr 1; omega)) (by first | decide | assumption | omega) ?_
  refine rk_astore (ls' := [(4, _), (0, _), (1, _), (2, _), (3, _)]) dX7_fewestFor_6 (by decide) rfl ?_
  refine rk_aload dX7_fewestFor_8 rfl ?_
  refine rk_pc (pc' := 10) rfl ?_
  refine rk_g5_3 rk_kX7_50 dX7_fewestFor_10 ?_
  rw [hP 3 (by decide)]
  refine rk_iload_n 2 dX7_fewestFor_13 rfl rfl ?_
  refine rk_icmp_lt 19 dX7_fewestFor_14 (by decide) (fun qz14 => ?_) (fun qz14 => ?_)
  · skip
    refine rk_aload dX7_fewestFor_19 rfl ?_
    refine rk_g5_3 rk_kX7_50 dX7_fewestFor_21 ?_
    rw [hP 3 (by decide)]
    refine rk_iload_n 3 dX7_fewestFor_24 rfl rfl ?_
    refine rk_icmp_gt 31 dX7_fewestFor_25 (by decide) (fun qz25 => ?_) (fun qz25 => ?_)
    · skip
      refine rk_aload dX7_fewestFor_31 rfl ?_
      refine rk_pc (pc' := 33) rfl ?_
      refine rk_g5_3 rk_kX7_50 dX7_fewestFor_33 ?_
      rw [hP 3 (by decide)]
      refine rk_istore (ls' := [(5, _), (4, _), (0, _), (1, _), (2, _), (3, _)]) dX7_fewestFor_36 (by decide) rfl ?_
      refine rk_iconst 1 dX7_fewestFor_38 (by decide) ?_
      refine rk_iload_n 1 dX7_fewestFor_39 rfl rfl ?_
      refine rk_ishl dX7_fewestFor_40 ?_
      rw [nI_shl1 p (by omega)]
      refine rk_istore (ls' := [(6, _), (5, _), (4, _), (0, _), (1, _), (2, _), (3, _)]) dX7_fewestFor_41 (by decide) rfl ?_
      refine rk_pc (pc' := 43) rfl ?_
      refine rk_iconst 2 dX7_fewestFor_43 (by decide) ?_
      refine rk_istore (ls' := [(7, _), (6, _), (5, _), (4, _), (0, _), (1, _), (2, _), (3, _)]) dX7_fewestFor_44 (by decide) rfl ?_
      refine rk_ord [0, 1, 2, 3, 4, 5, 6, 7] (ls' := [(0, _), (1, _), (2, _), (3, _), (4, _), (5, _), (6, _), (7, _)]) rfl ?_
      exact cX7_fewest_l hsp hc hc2 hp qz25 (sp_z (fun j => if j = p then 1 else 0) c) (2 ^ p) 25 1 (fun j => if j = p then 1 else 0) _ _ (Nat.pow_lt_pow_right (by decide) (by omega)) (fun k hk => by
        by_cases hkp : k = p
        · subst hkp; rw [if_pos rfl, Nat.testBit_two_pow_self]; simp
        · rw [if_neg hkp, Nat.testBit_two_pow_of_ne (fun y => hkp y.symm)]; simp) rfl (by omega) (by omega) (Int32.not_le.mpr qz14) rfl
    · skip
      refine rk_bipush (-6) dX7_fewestFor_28 (by decide) ?_
      refine rk_iretP dX7_fewestFor_30 rfl rfl ?_
      exact (sp_fj_n (Int32.not_le.mpr qz14) (sp_nx_no qz25 c)).symm
  · skip
    refine rk_iconst 1 dX7_fewestFor_17 (by decide) ?_
    refine rk_iretP dX7_fewestFor_18 rfl rfl ?_
    exact (sp_fj_y (Int32.not_lt.mp qz14)).symm
end CY

