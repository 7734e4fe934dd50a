section CR
variable {w : rk_W} {l : Launch} {Sh : rk_Sh} {I : rk_Mm} {R : rk_Rm}
theorem cX6_strengthOf_s {a p fi : Nat} {N P : Nat → Int32} (h : cl_ru I R a N) (hP : ∀ k, k < 7 → I 5 p k = P k) (hf : fi < 3) (hp : P 0 = nI fi) : rk_P w l rk_mX6_strengthOf 2 [rk_a 7 a, rk_a 5 p] Sh I R (sp_st N P) := by
  have h0 : I 5 p 0 = nI fi := by rw [hP 0 (by decide), hp]
  have hc : (P 0).toNatClampNeg = fi := by rw [hp]; exact nI_clamp (by omega)
  refine rk_bP (ls := [(0, _), (1, _)]) (by decide) rfl (Nat.le_of_ble_eq_true rfl) ?_
  refine rk_aload_n 1 dX6_strengthOf_0 rfl rfl ?_
  refine rk_g5_1 rk_kX6_58 dX6_strengthOf_1 ?_
  refine rk_aload_n 1 dX6_strengthOf_4 rfl rfl ?_
  refine rk_g5_2 rk_kX6_64 dX6_strengthOf_5 ?_
  refine rk_imul dX6_strengthOf_8 ?_
  refine rk_aload_n 0 dX6_strengthOf_9 rfl rfl ?_
  refine rk_pc (pc' := 10) rfl ?_
  refine rk_g7_1 rk_kX6_15 dX6_strengthOf_10 ?_
  refine rk_aload_n 1 dX6_strengthOf_13 rfl rfl ?_
  refine rk_g5_0 rk_kX6_67 dX6_strengthOf_14 ?_
  refine rk_rn18 (fi) dX6_strengthOf_17 (by first | rfl | exact h0) (by first | decide | assumption | omega) ?_
  refine rk_imul dX6_strengthOf_18 ?_
  refine rk_aload_n 1 dX6_strengthOf_19 rfl rfl ?_
  refine rk_pc (pc' := 20) rfl ?_
  refine rk_g5_5 rk_kX6_70 dX6_strengthOf_20 ?_
  refine rk_imul dX6_strengthOf_23 ?_
  refine rk_bipush 100 dX6_strengthOf_24 (by decide) ?_
  refine rk_idiv dX6_strengthOf_26 (by decide) ?_
  refine rk_istore_n 2 (ls' := [(2, _), (0, _), (1, _)]) dX6_strengthOf_27 rfl (by decide) rfl ?_
  refine rk_aload_n 1 dX6_strengthOf_28 rfl rfl ?_
  refine rk_pc (pc' := 29) rfl ?_
  refine rk_g5_6 rk_kX6_73 dX6_strengthOf_29 ?_
  refine rk_if_ne 39 dX6_strengthOf_32 (by decide) (fun qz32 => ?_) (fun qz32 => ?_)
  · skip
    refine rk_iload_n 2 dX6_strengthOf_39 rfl rfl ?_
    refine rk_bipush 100 dX6_strengthOf_40 (by decide) ?_
    refine rk_aload_n 0 dX6_strengthOf_42 rfl rfl ?_
    refine rk_g7_0 rk_kX6_9 dX6_strengthOf_43 ?_
    refine rk_iconst 3 dX6_strengthOf_46 (by decide) ?_
    refine rk_pc (pc' := 47) rfl ?_
    refine rk_rn17 3 dX6_strengthOf_47 rfl (by first | decide | assumption | omega) ?_
    refine rk_isub dX6_strengthOf_48 ?_
    refine rk_imul dX6_strengthOf_49 ?_
    refine rk_bipush 100 dX6_strengthOf_50 (by decide) ?_
    refine rk_idiv dX6_strengthOf_52 (by decide) ?_
    refine rk_iretP dX6_strengthOf_53 rfl rfl ?_
    rw [hP 6 (by decide)] at qz32
    first | (rw [hP 1 (by decide), hP 2 (by decide), hP 5 (by decide), h.2.1 fi hf]; simp only [sp_st, hc, if_pos qz32]; done) | (rw [hP 1 (by decide), hP 2 (by decide), hP 5 (by decide), h.2.1 fi hf, h.1 3 (by decide)]; simp only [sp_st, hc, if_neg qz32]; done)
  · skip
    refine rk_iload_n 2 dX6_strengthOf_35 rfl rfl ?_
    refine rk_pc (pc' := 36) rfl ?_
    refine rk_goto 53 dX6_strengthOf_36 (by decide) ?_
    refine rk_iretP dX6_strengthOf_53 rfl rfl ?_
    rw [hP 6 (by decide)] at qz32
    first | (rw [hP 1 (by decide), hP 2 (by decide), hP 5 (by decide), h.2.1 fi hf]; simp only [sp_st, hc, if_pos qz32]; done) | (rw [hP 1 (by decide), hP 2 (by decide), hP 5 (by decide), h.2.1 fi hf, h.1 3 (by decide)]; simp only [sp_st, hc, if_neg qz32]; done)
theorem cX6_suits_s {a p q fi : Nat} {N P O : Nat → Int32} (h : cl_ru I R a N) (hP : ∀ k, k < 7 → I 5 p k = P k) (hf : fi < 3) (hp : P 0 = nI fi) (hO : ∀ k, k < 7 → I 3 q k = O k) (h4 : O 4 = 0 ∨ O 4 = 1) : rk_P w l rk_mX6_suits 3 [rk_a 7 a, rk_a 5 p, rk_a 3 q] Sh I R (sp_b (sp_su N P O)) := by
  have p0 := hP 0 (by decide); have p3 := hP 3 (by decide); have p6 := hP 6 (by decide)
  have o0 := hO 0 (by decide); have o1 := hO 1 (by decide); have o2 := hO 2 (by decide); have o4 := hO 4 (by decide)
  have e4 : ¬ I 3 q 4 = 0 → O 4 = 1 := fun z => by rw [o4] at z; exact h4.resolve_left z
  have e5 : I 3 q 4 = 0 → ¬ O 4 = 1 := fun z w => by rw [o4, w] at z; cases z
  refine rk_bP (ls := [(0, _), (1, _), (2, _)]) (by decide) rfl (Nat.le_of_ble_eq_true rfl) ?_
  refine rk_aload_n 1 dX6_suits_0 rfl rfl ?_
  refine rk_g5_0 rk_kX6_67 dX6_suits_1 ?_
  refine rk_aload_n 2 dX6_suits_4 rfl rfl ?_
  refine rk_g3_0 rk_kX6_76 dX6_suits_5 ?_
  refine rk_icmp_ne 52 dX6_suits_8 (by decide) (fun qz8 => ?_) (fun qz8 => ?_)
  · skip
    refine rk_iconst 0 dX6_suits_52 (by decide) ?_
    refine rk_iretP dX6_suits_53 rfl (by first | decide | exact rk_nz sp_bz) ?_
    first | exact sp_b0 (fun z => qz8 (by rw [p0, o0]; exact z.1)) | exact sp_b0 (fun z => Int32.not_lt.mpr z.2.1 (by rw [← p3, ← o2]; exact qz19)) | exact sp_b0 (fun z => Int32.not_lt.mpr z.2.2.2 (by rw [← o1]; exact qz45)) | exact sp_b0 (fun z => z.2.2.1.elim (e5 qz26) (fun g => qz33 (by rw [p6]; exact g))) | exact sp_b1 ⟨by rw [← p0, ← o0]; exact qz8, by rw [← p3, ← o2]; exact Int32.not_lt.mp qz19, Or.inl (e4 qz26), by rw [← o1]; exact Int32.not_lt.mp qz45⟩ | exact sp_b1 ⟨by rw [← p0, ← o0]; exact qz8, by rw [← p3, ← o2]; exact Int32.not_lt.mp qz19, Or.inr (by rw [← p6]; exact qz33), by rw [← o1]; exact Int32.not_lt.mp qz45⟩
  · skip
    refine rk_aload_n 1 dX6_suits_11 rfl rfl ?_
    refine rk_pc (pc' := 12) rfl ?_
    refine rk_g5_3 rk_kX6_79 dX6_suits_12 ?_
    refine rk_aload_n 2 dX6_suits_15 rfl rfl ?_
    refine rk_g3_2 rk_kX6_82 dX6_suits_16 ?_
    refine rk_icmp_lt 52 dX6_suits_19 (by decide) (fun qz19 => ?_) (fun qz19 => ?_)
    · skip
      refine rk_iconst 0 dX6_suits_52 (by decide) ?_
      refine rk_iretP dX6_suits_53 rfl (by first | decide | exact rk_nz sp_bz) ?_
      first | exact sp_b0 (fun z => qz8 (by rw [p0, o0]; exact z.1)) | exact sp_b0 (fun z => Int32.not_lt.mpr z.2.1 (by rw [← p3, ← o2]; exact qz19)) | exact sp_b0 (fun z => Int32.not_lt.mpr z.2.2.2 (by rw [← o1]; exact qz45)) | exact sp_b0 (fun z => z.2.2.1.elim (e5 qz26) (fun g => qz33 (by rw [p6]; exact g))) | exact sp_b1 ⟨by rw [← p0, ← o0]; exact qz8, by rw [← p3, ← o2]; exact Int32.not_lt.mp qz19, Or.inl (e4 qz26), by rw [← o1]; exact Int32.not_lt.mp qz45⟩ | exact sp_b1 ⟨by rw [← p0, ← o0]; exact qz8, by rw [← p3, ← o2]; exact Int32.not_lt.mp qz19, Or.inr (by rw [← p6]; exact qz33), by rw [← o1]; exact Int32.not_lt.mp qz45⟩
    · skip
      refine rk_aload_n 2 dX6_suits_22 rfl rfl ?_
      refine rk_g3_4 rk_kX6_83 dX6_suits_23 ?_
      refine rk_pc (pc' := 26) rfl ?_
      refine rk_if_ne 36 dX6_suits_26 (by decide) (fun qz26 => ?_) (fun qz26 => ?_)
      · skip
        refine rk_aload_n 0 dX6_suits_36 rfl rfl ?_
        refine rk_aload_n 1 dX6_suits_37 rfl rfl ?_
        refine rk_cVp (cX6_strengthOf_s h hP hf hp) rk_eX6_strengthOf rfl ⟨rfl, rfl⟩ rk_kX6_87 dX6_suits_38 rfl (by decide) (Nat.le_of_ble_eq_true rfl) ⟨Nat.le_refl _, Nat.le_refl _⟩ ?_
        refine rk_aload_n 2 dX6_suits_41 rfl rfl ?_
        refine rk_g3_1 rk_kX6_91 dX6_suits_42 ?_
        refine rk_icmp_lt 52 dX6_suits_45 (by decide) (fun qz45 => ?_) (fun qz45 => ?_)
        · skip
          refine rk_iconst 0 dX6_suits_52 (by decide) ?_
          refine rk_pc (pc' := 53) rfl ?_
          refine rk_iretP dX6_suits_53 rfl (by first | decide | exact rk_nz sp_bz) ?_
          first | exact sp_b0 (fun z => qz8 (by rw [p0, o0]; exact z.1)) | exact sp_b0 (fun z => Int32.not_lt.mpr z.2.1 (by rw [← p3, ← o2]; exact qz19)) | exact sp_b0 (fun z => Int32.not_lt.mpr z.2.2.2 (by rw [← o1]; exact qz45)) | exact sp_b0 (fun z => z.2.2.1.elim (e5 qz26) (fun g => qz33 (by rw [p6]; exact g))) | exact sp_b1 ⟨by rw [← p0, ← o0]; exact qz8, by rw [← p3, ← o2]; exact Int32.not_lt.mp qz19, Or.inl (e4 qz26), by rw [← o1]; exact Int32.not_lt.mp qz45⟩ | exact sp_b1 ⟨by rw [← p0, ← o0]; exact qz8, by rw [← p3, ← o2]; exact Int32.not_lt.mp qz19, Or.inr (by rw [← p6]; exact qz33), by rw [← o1]; exact Int32.not_lt.mp qz45⟩
        · skip
          refine rk_iconst 1 dX6_suits_48 (by decide) ?_
          refine rk_goto 53 dX6_suits_49 (by decide) ?_
          refine rk_iretP dX6_suits_53 rfl (by first | decide | exact rk_nz sp_bz) ?_
          first | exact sp_b0 (fun z => qz8 (by rw [p0, o0]; exact z.1)) | exact sp_b0 (fun z => Int32.not_lt.mpr z.2.1 (by rw [← p3, ← o2]; exact qz19)) | exact sp_b0 (fun z => Int32.not_lt.mpr z.2.2.2 (by rw [← o1]; exact qz45)) | exact sp_b0 (fun z => z.2.2.1.elim (e5 qz26) (fun g => qz33 (by rw [p6]; exact g))) | exact sp_b1 ⟨by rw [← p0, ← o0]; exact qz8, by rw [← p3, ← o2]; exact Int32.not_lt.mp qz19, Or.inl (e4 qz26), by rw [← o1]; exact Int32.not_lt.mp qz45⟩ | exact sp_b1 ⟨by rw [← p0, ← o0]; exact qz8, by rw [← p3, ← o2]; exact Int32.not_lt.mp qz19, Or.inr (by rw [← p6]; exact qz33), by rw [← o1]; exact Int32.not_lt.mp qz45⟩
      · skip
        refine rk_aload_n 1 dX6_suits_29 rfl rfl ?_
        refine rk_g5_6 rk_kX6_73 dX6_suits_30 ?_
        refine rk_if_ne 52 dX6_suits_33 (by decide) (fun qz33 => ?_) (fun qz33 => ?_)
        · skip
          refine rk_iconst 0 dX6_suits_52 (by decide) ?_
          refine rk_iretP dX6_suits_53 rfl (by first | decide | exact rk_nz sp_bz) ?_
          first | exact sp_b0 (fun z => qz8 (by rw [p0, o0]; exact z.1)) | exact sp_b0 (fun z => Int32.not_lt.mpr z.2.1 (by rw [← p3, ← o2]; exact qz19)) | exact sp_b0 (fun z => Int32.not_lt.mpr z.2.2.2 (by rw [← o1]; exact qz45)) | exact sp_b0 (fun z => z.2.2.1.elim (e5 qz26) (fun g => qz33 (by rw [p6]; exact g))) | exact sp_b1 ⟨by rw [← p0, ← o0]; exact qz8, by rw [← p3, ← o2]; exact Int32.not_lt.mp qz19, Or.inl (e4 qz26), by rw [← o1]; exact Int32.not_lt.mp qz45⟩ | exact sp_b1 ⟨by rw [← p0, ← o0]; exact qz8, by rw [← p3, ← o2]; exact Int32.not_lt.mp qz19, Or.inr (by rw [← p6]; exact qz33), by rw [← o1]; exact Int32.not_lt.mp qz45⟩
        · skip
          refine rk_aload_n 0 dX6_suits_36 rfl rfl ?_
          refine rk_pc (pc' := 37) rfl ?_
          refine rk_aload_n 1 dX6_suits_37 rfl rfl ?_
          refine rk_cVp (cX6_strengthOf_s h hP hf hp) rk_eX6_strengthOf rfl ⟨rfl, rfl⟩ rk_kX6_87 dX6_suits_38 rfl (by decide) (Nat.le_of_ble_eq_true rfl) ⟨Nat.le_refl _, Nat.le_refl _⟩ ?_
          refine rk_aload_n 2 dX6_suits_41 rfl rfl ?_
          refine rk_g3_1 rk_kX6_91 dX6_suits_42 ?_
          refine rk_icmp_lt 52 dX6_suits_45 (by decide) (fun qz45 => ?_) (fun qz45 => ?_)
          · skip
            refine rk_iconst 0 dX6_suits_52 (by decide) ?_
            refine rk_iretP dX6_suits_53 rfl (by first | decide | exact rk_nz sp_bz) ?_
            first | exact sp_b0 (fun z => qz8 (by rw [p0, o0]; exact z.1)) | exact sp_b0 (fun z => Int32.not_lt.mpr z.2.1 (by rw [← p3, ← o2]; exact qz19)) | exact sp_b0 (fun z => Int32.not_lt.mpr z.2.2.2 (by rw [← o1]; exact qz45)) | exact sp_b0 (fun z => z.2.2.1.elim (e5 qz26) (fun g => qz33 (by rw [p6]; exact g))) | exact sp_b1 ⟨by rw [← p0, ← o0]; exact qz8, by rw [← p3, ← o2]; exact Int32.not_lt.mp qz19, Or.inl (e4 qz26), by rw [← o1]; exact Int32.not_lt.mp qz45⟩ | exact sp_b1 ⟨by rw [← p0, ← o0]; exact qz8, by rw [← p3, ← o2]; exact Int32.not_lt.mp qz19, Or.inr (by rw [← p6]; exact qz33), by rw [← o1]; exact Int32.not_lt.mp qz45⟩
          · skip
            refine rk_iconst 1 dX6_suits_48 (by decide) ?_
            refine rk_pc (pc' := 49) rfl ?_
            refine rk_goto 53 dX6_suits_49 (by decide) ?_
            refine rk_iretP dX6_suits_53 rfl (by first | decide | exact rk_nz sp_bz) ?_
            first | exact sp_b0 (fun z => qz8 (by rw [p0, o0]; exact z.1)) | exact sp_b0 (fun z => Int32.not_lt.mpr z.2.1 (by rw [← p3, ← o2]; exact qz19)) | exact sp_b0 (fun z => Int32.not_lt.mpr z.2.2.2 (by rw [← o1]; exact qz45)) | exact sp_b0 (fun z => z.2.2.1.elim (e5 qz26) (fun g => qz33 (by rw [p6]; exact g))) | exact sp_b1 ⟨by rw [← p0, ← o0]; exact qz8, by rw [← p3, ← o2]; exact Int32.not_lt.mp qz19, Or.inl (e4 qz26), by rw [← o1]; exact Int32.not_lt.mp qz45⟩ | exact sp_b1 ⟨by rw [← p0, ← o0]; exact qz8, by rw [← p3, ← o2]; exact Int32.not_lt.mp qz19, Or.inr (by rw [← p6]; exact qz33), by rw [← o1]; exact Int32.not_lt.mp qz45⟩
end CR

