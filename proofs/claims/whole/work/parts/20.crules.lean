section CR
variable {w : rk_W} {l : Launch} {Sh : rk_Sh} {I : rk_Mm} {R : rk_Rm}
/-- the class's rules at a hold N's settings and fibres -/
def cl_ru (I : rk_Mm) (R : rk_Rm) (a : Nat) (N : Nat → Int32) : Prop := (∀ j, j < 10 → I 17 (R 7 a 0) j = N j) ∧ (∀ f, f < 3 → I 18 (R 7 a 1) f = N (20 + 3 * f)) ∧ (∀ f, f < 3 → I 19 (R 7 a 2) f = N (20 + 3 * f + 1))
theorem cX10_inRange_s (v lo hi : Int32) : rk_P w l rk_mX10_inRange 1 [rk_i v, rk_i lo, rk_i hi] Sh I R (sp_b (lo ≤ v ∧ v ≤ hi)) := by
  refine rk_bP (ls := [(0, _), (1, _), (2, _)]) (by decide) rfl (Nat.le_of_ble_eq_true rfl) ?_
  refine rk_iload_n 0 dX10_inRange_0 rfl rfl ?_
  refine rk_iload_n 1 dX10_inRange_1 rfl rfl ?_
  refine rk_icmp_lt 14 dX10_inRange_2 (by decide) (fun c2 => ?_) (fun c2 => ?_)
  · skip
    refine rk_iconst 0 dX10_inRange_14 (by decide) ?_
    refine rk_iretP dX10_inRange_15 rfl (by decide) ?_
    first | exact sp_b1 ⟨Int32.not_lt.mp c2, Int32.not_lt.mp c7⟩ | exact sp_b0 (fun h => Int32.not_lt.mpr h.1 c2) | exact sp_b0 (fun h => Int32.not_lt.mpr h.2 c7)
  · skip
    refine rk_iload_n 0 dX10_inRange_5 rfl rfl ?_
    refine rk_iload_n 2 dX10_inRange_6 rfl rfl ?_
    refine rk_icmp_gt 14 dX10_inRange_7 (by decide) (fun c7 => ?_) (fun c7 => ?_)
    · skip
      refine rk_iconst 0 dX10_inRange_14 (by decide) ?_
      refine rk_pc (pc' := 15) rfl ?_
      refine rk_iretP dX10_inRange_15 rfl (by decide) ?_
      first | exact sp_b1 ⟨Int32.not_lt.mp c2, Int32.not_lt.mp c7⟩ | exact sp_b0 (fun h => Int32.not_lt.mpr h.1 c2) | exact sp_b0 (fun h => Int32.not_lt.mpr h.2 c7)
    · skip
      refine rk_iconst 1 dX10_inRange_10 (by decide) ?_
      refine rk_goto 15 dX10_inRange_11 (by decide) ?_
      refine rk_iretP dX10_inRange_15 rfl (by decide) ?_
      first | exact sp_b1 ⟨Int32.not_lt.mp c2, Int32.not_lt.mp c7⟩ | exact sp_b0 (fun h => Int32.not_lt.mpr h.1 c2) | exact sp_b0 (fun h => Int32.not_lt.mpr h.2 c7)
theorem cX6_lengthened_s (v p : Int32) : rk_P w l rk_mX6_lengthened 1 [rk_i v, rk_i p] Sh I R (sp_up (v * (100 + p)) 100) := by
  refine rk_bP (ls := [(0, _), (1, _)]) (by decide) rfl (Nat.le_of_ble_eq_true rfl) ?_
  refine rk_iload_n 0 dX6_lengthened_0 rfl rfl ?_
  refine rk_bipush 100 dX6_lengthened_1 (by decide) ?_
  refine rk_iload_n 1 dX6_lengthened_3 rfl rfl ?_
  refine rk_iadd dX6_lengthened_4 ?_
  refine rk_imul dX6_lengthened_5 ?_
  refine rk_bipush 99 dX6_lengthened_6 (by decide) ?_
  refine rk_pc (pc' := 8) rfl ?_
  refine rk_iadd dX6_lengthened_8 ?_
  refine rk_bipush 100 dX6_lengthened_9 (by decide) ?_
  refine rk_idiv dX6_lengthened_11 (by decide) ?_
  refine rk_iretP dX6_lengthened_12 rfl rfl ?_
  simp only [sp_up]; congr 1; grind
theorem cX6_strandLength_s {a : Nat} {N : Nat → Int32} (h : cl_ru I R a N) (f : Int32) : rk_P w l rk_mX6_strandLength 2 [rk_a 7 a, rk_i f] Sh I R (sp_strand N f) := by
  refine rk_bP (ls := [(0, _), (1, _)]) (by decide) rfl (Nat.le_of_ble_eq_true rfl) ?_
  refine rk_iload_n 1 dX6_strandLength_0 rfl rfl ?_
  refine rk_aload_n 0 dX6_strandLength_1 rfl rfl ?_
  refine rk_g7_0 rk_kX6_9 dX6_strandLength_2 ?_
  refine rk_iconst 2 dX6_strandLength_5 (by decide) ?_
  refine rk_rn17 2 dX6_strandLength_6 rfl (by first | decide | assumption | omega) ?_
  refine rk_cSp (cX6_lengthened_s _ _) rk_eX6_lengthened rfl rk_kX6_36 dX6_strandLength_7 rfl (by decide) (Nat.le_of_ble_eq_true rfl) ⟨Nat.le_refl _, Nat.le_refl _⟩ ?_
  refine rk_pc (pc' := 10) rfl ?_
  refine rk_iretP dX6_strandLength_10 rfl rfl ?_
  rw [h.1 2 (by decide)]; rfl
end CR

