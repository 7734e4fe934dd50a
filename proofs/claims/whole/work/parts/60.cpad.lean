section CP
variable {w : rk_W} {l : Launch} {Sh : rk_Sh} {I : rk_Mm} {R : rk_Rm}
theorem l_inj {x y : Int64} (h : x.toUInt64.toNat = y.toUInt64.toNat) : x = y := by
  have e : x.toUInt64 = y.toUInt64 := UInt64.toNat_inj.mp h
  rw [← Int64.toInt64_toUInt64 x, e, Int64.toInt64_toUInt64]
theorem lk_sh : ∀ i, i < 8 → (((8 : Int32) * nI i).toInt64.toUInt64 &&& Int64.toUInt64 63).toNat % 64 = 8 * i := by decide +kernel
theorem lk_at {x : Int64} {i : Nat} (hi : i < 8) : (x.toUInt64 >>> (((8 : Int32) * nI i).toInt64.toUInt64 &&& Int64.toUInt64 63)).toInt64 = lk x i := l_inj (by
  rw [lk_n, UInt64.toUInt64_toInt64, UInt64.toNat_shiftRight, lk_sh i hi, Nat.shiftRight_eq_div_pow, Nat.pow_mul])
theorem cX3_codeAt_s {i : Nat} {x : Int64} (hi : i < 8) : rk_P w l rk_mX3_codeAt 1 [rk_l x, rk_i (nI i)] Sh I R (lb x i) := by
  refine rk_bP (ls := [(0, _), (2, _)]) (by decide) rfl (Nat.le_of_ble_eq_true rfl) ?_
  refine rk_lload_n 0 dX3_codeAt_0 rfl rfl ?_
  refine rk_bipush 8 dX3_codeAt_1 (by decide) ?_
  refine rk_iload_n 2 dX3_codeAt_3 rfl rfl ?_
  refine rk_imul dX3_codeAt_4 ?_
  refine rk_lushr dX3_codeAt_5 ?_
  rw [lk_at hi]
  refine rk_ldc2 255 dX3_codeAt_6 (by exact rk_inT 731 (by decide +kernel) (by decide +kernel)) ?_
  refine rk_pc (pc' := 9) rfl ?_
  refine rk_land dX3_codeAt_9 ?_
  refine rk_l2i dX3_codeAt_10 ?_
  refine rk_iretP dX3_codeAt_11 rfl rfl ?_
  rfl
noncomputable def ck (x : Int64) : Nat → Nat → Nat
  | 0, n => n
  | f + 1, n => if lk x n = 0 then n else @ite _ (33 ≤ lb x n ∧ lb x n ≤ 126) (Classical.propDecidable _) (ck x f (n + 1)) 0
theorem ck_eq {x : Int64} : ∀ f n, n + f = 8 → ck x f n = (match sp_cnt x f n with
    | none => 0
    | some n => if lk x n = 0 then n else 0) := by
  intro f
  induction f with
  | zero =>
    intro n hn
    obtain rfl : n = 8 := by omega
    simp only [ck, sp_cnt]
    rw [if_pos (lk_8 x)]
  | succ f ih =>
    intro n hn
    by_cases h0 : lk x n = 0
    · have h1 : lk x n &&& 255 = 0 := by rw [h0]; decide
      simp only [ck, sp_cnt]
      rw [if_pos h0, if_pos h1]
      simp only [if_pos h0]
    · by_cases h1 : lk x n &&& 255 = 0
      · have hb : ¬ (33 ≤ lb x n ∧ lb x n ≤ 126) := fun z => by
          have e : lb x n = 0 := by rw [lb, h1]; decide
          rw [e] at z
          exact absurd z.1 (by decide)
        simp only [ck, sp_cnt]
        rw [if_neg h0, if_neg hb, if_pos h1]
        simp only [if_neg h0]
      · simp only [ck, sp_cnt]
        rw [if_neg h0, if_neg h1]
        by_cases hb : 33 ≤ lb x n ∧ lb x n ≤ 126
        · rw [if_pos hb, if_pos hb]; exact ih (n + 1) (by omega)
        · rw [if_neg hb, if_neg hb]
theorem ck_many {x : Int64} : ck x 8 0 = sp_many x := ck_eq 8 0 (by decide)
theorem cX3_countOf_l {x : Int64} (z : Int32) : ∀ f n : Nat, n + f = 8 → z = nI (ck x f n) → rk_Wp w l rk_mX3_countOf 2 0 0 (rk_GP w Sh I R z) 2 [(0, rk_l x), (2, rk_i (nI n))] [] (Sh, 0, 0) I R := by
  intro f
  induction f with
  | zero =>
    intro n hn hz
    obtain rfl : n = 8 := by omega
    refine rk_iload_n 2 dX3_countOf_2 rfl rfl ?_
    refine rk_bipush 8 dX3_countOf_3 (by decide) ?_
    refine rk_icmp_ge 42 dX3_countOf_5 (by decide) (fun qz5 => ?_) (fun qz5 => ?_)
    · skip
      refine rk_iload_n 2 dX3_countOf_42 rfl rfl ?_
      refine rk_iretP dX3_countOf_43 rfl rfl ?_
      exact hz.symm
    · skip
      exact absurd (by decide) qz5
  | succ f ih =>
    intro n hn hz
    have hlt : ¬ (8 : Int32) ≤ nI n := nI_ge (b := 8) (by omega) (by decide)
    have e0 : lk x n = 0 → z = nI n := fun h => hz.trans (congrArg nI (if_pos h))
    have e1 : ¬ lk x n = 0 → (33 ≤ lb x n ∧ lb x n ≤ 126) → z = nI (ck x f (n + 1)) := fun h h2 => hz.trans (congrArg nI ((if_neg h).trans (if_pos h2)))
    have e2 : ¬ lk x n = 0 → ¬ (33 ≤ lb x n ∧ lb x n ≤ 126) → z = nI 0 := fun h h2 => hz.trans (congrArg nI ((if_neg h).trans (if_neg h2)))
    refine rk_iload_n 2 dX3_countOf_2 rfl rfl ?_
    refine rk_bipush 8 dX3_countOf_3 (by decide) ?_
    refine rk_icmp_ge 42 dX3_countOf_5 (by decide) (fun qz5 => ?_) (fun qz5 => ?_)
    · skip
      exact absurd qz5 hlt
    · skip
      refine rk_lload_n 0 dX3_countOf_8 rfl rfl ?_
      refine rk_bipush 8 dX3_countOf_9 (by decide) ?_
      refine rk_iload_n 2 dX3_countOf_11 rfl rfl ?_
      refine rk_imul dX3_countOf_12 ?_
      refine rk_pc (pc' := 13) rfl ?_
      refine rk_lushr dX3_countOf_13 ?_
      rw [lk_at (by omega)]
      refine rk_lconst 0 dX3_countOf_14 (by decide) ?_
      refine rk_lcmp dX3_countOf_15 ?_
      refine rk_if_eq 42 dX3_countOf_16 (by decide) (fun qz16 => ?_) (fun qz16 => ?_)
      · skip
        refine rk_iload_n 2 dX3_countOf_42 rfl rfl ?_
        refine rk_iretP dX3_countOf_43 rfl rfl ?_
        exact (e0 (lg_0.mp qz16)).symm
      · skip
        refine rk_lload_n 0 dX3_countOf_19 rfl rfl ?_
        refine rk_iload_n 2 dX3_countOf_20 rfl rfl ?_
        refine rk_pc (pc' := 21) rfl ?_
        refine rk_cSp (cX3_codeAt_s (by omega)) rk_eX3_codeAt rfl rk_kX3_23 dX3_countOf_21 rfl (by decide) (Nat.le_of_ble_eq_true rfl) ⟨Nat.le_refl _, Nat.le_refl _⟩ ?_
        refine rk_bipush 33 dX3_countOf_24 (by decide) ?_
        refine rk_bipush 126 dX3_countOf_26 (by decide) ?_
        refine rk_cSNp (cX10_inRange_s _ _ _) rk_eX10_inRange rfl rk_nX3_29 dX3_countOf_28 rfl (by decide) (Nat.le_of_ble_eq_true rfl) ⟨Nat.le_refl _, Nat.le_refl _⟩ ?_
        refine rk_if_ne 36 dX3_countOf_31 (by decide) (fun qz31 => ?_) (fun qz31 => ?_)
        · skip
          refine rk_iinc 1 (ls' := [(2, _), (0, _)]) dX3_countOf_36 (by decide) rfl (by decide) rfl ?_
          refine rk_goto 2 dX3_countOf_39 (by decide) ?_
          refine rk_pc (pc' := 2) rfl ?_
          refine rk_ord [0, 2] (ls' := [(0, _), (2, _)]) rfl ?_
          rw [nI_1]
          exact ih (n + 1) (by omega) (e1 (fun y => qz16 (lg_0.mpr y)) (sp_bt qz31))
        · skip
          refine rk_iconst 0 dX3_countOf_34 (by decide) ?_
          refine rk_iretP dX3_countOf_35 rfl rfl ?_
          exact (e2 (fun y => qz16 (lg_0.mpr y)) (sp_bf qz31)).symm
theorem cX3_countOf_s {x : Int64} : rk_P w l rk_mX3_countOf 2 [rk_l x] Sh I R (nI (sp_many x)) := by
  rw [← ck_many]
  refine rk_bP (ls := [(0, _)]) (by decide) rfl (Nat.le_of_ble_eq_true rfl) ?_
  refine rk_iconst 0 dX3_countOf_0 (by decide) ?_
  refine rk_istore_n 2 (ls' := [(2, _), (0, _)]) dX3_countOf_1 rfl (by decide) rfl ?_
  refine rk_ord [0, 2] (ls' := [(0, _), (2, _)]) rfl ?_
  exact cX3_countOf_l _ 8 0 (by decide) rfl
theorem cX3_clear_s {p : Nat} : rk_J w l rk_mX3_clear 1 [rk_a 4 p] Sh I R (fun r I' R' => r = I 4 p 1 ∧ R' = R ∧ I' = rk_uI I 4 p 1 0) := by
  refine rk_bJ (ls := [(0, _)]) (by decide) rfl (Nat.le_of_ble_eq_true rfl) ?_
  refine rk_aload_n 0 dX3_clear_0 rfl rfl ?_
  refine rk_g4_1 rk_kX3_19 dX3_clear_1 ?_
  refine rk_istore_n 1 (ls' := [(1, _), (0, _)]) dX3_clear_4 rfl (by decide) rfl ?_
  refine rk_aload_n 0 dX3_clear_5 rfl rfl ?_
  refine rk_iconst 0 dX3_clear_6 (by decide) ?_
  refine rk_p4_1 rk_kX3_19 dX3_clear_7 (fun Iz1 eIz1 => ?_)
  refine rk_pc (pc' := 10) rfl ?_
  refine rk_iload_n 1 dX3_clear_10 rfl rfl ?_
  refine rk_iretJ dX3_clear_11 rfl rfl ?_
  exact ⟨rfl, rfl, eIz1⟩
end CP

