section CR
variable {w : rk_W} {l : Launch} {Sh : rk_Sh} {I : rk_Mm} {R : rk_Rm}
theorem cX4_isLike_s (a b : Nat) : rk_P w l rk_mX4_isLike 1 [rk_a 5 a, rk_a 5 b] Sh I R (sp_b (I 5 a 0 = I 5 b 0 ∧ I 5 a 1 = I 5 b 1 ∧ I 5 a 2 = I 5 b 2)) := by
  refine rk_bP (ls := [(0, _), (1, _)]) (by decide) rfl (Nat.le_of_ble_eq_true rfl) ?_
  refine rk_aload_n 0 dX4_isLike_0 rfl rfl ?_
  refine rk_g5_0 rk_kX4_7 dX4_isLike_1 ?_
  refine rk_aload_n 1 dX4_isLike_4 rfl rfl ?_
  refine rk_g5_0 rk_kX4_7 dX4_isLike_5 ?_
  refine rk_icmp_ne 37 dX4_isLike_8 (by decide) (fun qz8 => ?_) (fun qz8 => ?_)
  · skip
    refine rk_iconst 0 dX4_isLike_37 (by decide) ?_
    refine rk_iretP dX4_isLike_38 rfl (by decide) ?_
    first | exact sp_b1 ⟨qz8, qz19, qz30⟩ | exact sp_b0 (fun z => qz8 z.1) | exact sp_b0 (fun z => qz19 z.2.1) | exact sp_b0 (fun z => qz30 z.2.2)
  · skip
    refine rk_aload_n 0 dX4_isLike_11 rfl rfl ?_
    refine rk_pc (pc' := 12) rfl ?_
    refine rk_g5_1 rk_kX4_13 dX4_isLike_12 ?_
    refine rk_aload_n 1 dX4_isLike_15 rfl rfl ?_
    refine rk_g5_1 rk_kX4_13 dX4_isLike_16 ?_
    refine rk_icmp_ne 37 dX4_isLike_19 (by decide) (fun qz19 => ?_) (fun qz19 => ?_)
    · skip
      refine rk_iconst 0 dX4_isLike_37 (by decide) ?_
      refine rk_iretP dX4_isLike_38 rfl (by decide) ?_
      first | exact sp_b1 ⟨qz8, qz19, qz30⟩ | exact sp_b0 (fun z => qz8 z.1) | exact sp_b0 (fun z => qz19 z.2.1) | exact sp_b0 (fun z => qz30 z.2.2)
    · skip
      refine rk_aload_n 0 dX4_isLike_22 rfl rfl ?_
      refine rk_g5_2 rk_kX4_16 dX4_isLike_23 ?_
      refine rk_pc (pc' := 26) rfl ?_
      refine rk_aload_n 1 dX4_isLike_26 rfl rfl ?_
      refine rk_g5_2 rk_kX4_16 dX4_isLike_27 ?_
      refine rk_icmp_ne 37 dX4_isLike_30 (by decide) (fun qz30 => ?_) (fun qz30 => ?_)
      · skip
        refine rk_iconst 0 dX4_isLike_37 (by decide) ?_
        refine rk_iretP dX4_isLike_38 rfl (by decide) ?_
        first | exact sp_b1 ⟨qz8, qz19, qz30⟩ | exact sp_b0 (fun z => qz8 z.1) | exact sp_b0 (fun z => qz19 z.2.1) | exact sp_b0 (fun z => qz30 z.2.2)
      · skip
        refine rk_iconst 1 dX4_isLike_33 (by decide) ?_
        refine rk_goto 38 dX4_isLike_34 (by decide) ?_
        refine rk_iretP dX4_isLike_38 rfl (by decide) ?_
        first | exact sp_b1 ⟨qz8, qz19, qz30⟩ | exact sp_b0 (fun z => qz8 z.1) | exact sp_b0 (fun z => qz19 z.2.1) | exact sp_b0 (fun z => qz30 z.2.2)
theorem rk_l0 {x : Int32} (h : 0 < x) : ¬ x.toInt64 = 0 := fun z => by
  have h1 := congrArg Int64.toInt z
  rw [Int32.toInt_toInt64] at h1
  have h2 := Int32.lt_iff_toInt_lt.mp h
  simp at h1 h2
  omega
theorem cX4_yarnIn_s (a : Nat) (f : Int32) (h : 0 < I 5 a 3) : rk_P w l rk_mX4_yarnIn 1 [rk_a 5 a, rk_i f] Sh I R (sp_yin (I 5 a 4) f (I 5 a 3)) := by
  refine rk_bP (ls := [(0, _), (1, _)]) (by decide) rfl (Nat.le_of_ble_eq_true rfl) ?_
  refine rk_aload_n 0 dX4_yarnIn_0 rfl rfl ?_
  refine rk_g5_3 rk_kX4_19 dX4_yarnIn_1 ?_
  refine rk_if_le 25 dX4_yarnIn_4 (by decide) (fun qz4 => ?_) (fun qz4 => ?_)
  · skip
    exact absurd h (Int32.not_lt.mpr qz4)
  · skip
    refine rk_aload_n 0 dX4_yarnIn_7 rfl rfl ?_
    refine rk_g5_4 rk_kX4_22 dX4_yarnIn_8 ?_
    refine rk_i2l dX4_yarnIn_11 ?_
    refine rk_iload_n 1 dX4_yarnIn_12 rfl rfl ?_
    refine rk_pc (pc' := 13) rfl ?_
    refine rk_i2l dX4_yarnIn_13 ?_
    refine rk_lmul dX4_yarnIn_14 ?_
    refine rk_aload_n 0 dX4_yarnIn_15 rfl rfl ?_
    refine rk_g5_3 rk_kX4_19 dX4_yarnIn_16 ?_
    refine rk_i2l dX4_yarnIn_19 ?_
    refine rk_ldiv dX4_yarnIn_20 (by exact rk_l0 (Int32.not_le.mp qz4)) ?_
    refine rk_pc (pc' := 21) rfl ?_
    refine rk_l2i dX4_yarnIn_21 ?_
    refine rk_goto 26 dX4_yarnIn_22 (by decide) ?_
    refine rk_iretP dX4_yarnIn_26 rfl rfl ?_
    rfl
end CR

