section MD
variable {w : rk_W} {l : Launch} {Sh : rk_Sh} {I : rk_Mm} {R : rk_Rm}
/-- the row behind a cut of a part of a piece, but for where the part's yarn counts -/
def sp_cut1 (N : Nat → Int32) (p : Nat) (feet : Int32) : Nat → Int32 := sp_u (sp_u N (50 + 7 * p + 3) (N (50 + 7 * p + 3) - feet)) (50 + 7 * p + 4) (N (50 + 7 * p + 4) - sp_yin (N (50 + 7 * p + 4)) feet (N (50 + 7 * p + 3)))
def sp_cut2 (N : Nat → Int32) (p : Nat) (feet : Int32) : Nat → Int32 := sp_u (sp_cut1 N p feet) (30 + 4 * sp_c N (50 + 7 * p) + 3) (N (30 + 4 * sp_c N (50 + 7 * p) + 3) + (N (50 + 7 * p + 4) - sp_yin (N (50 + 7 * p + 4)) feet (N (50 + 7 * p + 3))))
def sp_cut (N : Nat → Int32) (p : Nat) (feet : Int32) : Nat → Int32 := if N (50 + 7 * p + 3) - feet = 0 then sp_gone (sp_cut1 N p feet) 12 50 p else if N (50 + 7 * p + 3) - feet < N 6 then sp_gone (sp_cut2 N p feet) 12 50 p else sp_cut1 N p feet
theorem cX11_cutFrom_s {m p c f : Nat} {x feet : Int32} (hx : x = nI p) (hc : c ≤ 24) (hp : p < c) (h12 : I 26 (R 12 m 0) 12 = nI c) (hf : f < 3) (h0 : I 26 (R 12 m 0) (50 + 7 * p) = nI f) (hL : 0 < I 26 (R 12 m 0) (50 + 7 * p + 3)) : rk_J w l rk_mX11_cutFrom 2 [rk_a 12 m, rk_i x, rk_i feet] Sh I R (fun r I' R' => r = sp_yin (I 26 (R 12 m 0) (50 + 7 * p + 4)) feet (I 26 (R 12 m 0) (50 + 7 * p + 3)) ∧ R' = R ∧ I' = md_a I 26 (R 12 m 0) (sp_cut (I 26 (R 12 m 0)) p feet)) := by
  subst hx
  have hsc : sp_c (I 26 (R 12 m 0)) (50 + 7 * p) = f := sp_cN h0 (by omega)
  refine rk_bJ (ls := [(0, _), (1, _), (2, _)]) (by decide) rfl (Nat.le_of_ble_eq_true rfl) ?_
  refine rk_bipush 50 dX11_cutFrom_0 (by decide) ?_
  refine rk_bipush 7 dX11_cutFrom_2 (by decide) ?_
  refine rk_iload_n 1 dX11_cutFrom_4 rfl rfl ?_
  refine rk_imul dX11_cutFrom_5 ?_
  refine rk_iadd dX11_cutFrom_6 ?_
  refine rk_istore_n 3 (ls' := [(3, _), (0, _), (1, _), (2, _)]) dX11_cutFrom_7 rfl (by decide) rfl ?_
  refine rk_pc (pc' := 8) rfl ?_
  refine rk_aload_n 0 dX11_cutFrom_8 rfl rfl ?_
  refine rk_g12_0 rk_kX11_7 dX11_cutFrom_9 ?_
  refine rk_iload_n 3 dX11_cutFrom_12 rfl rfl ?_
  refine rk_iconst 4 dX11_cutFrom_13 (by decide) ?_
  refine rk_iadd dX11_cutFrom_14 ?_
  refine rk_rn26 (50 + 7 * p + 4) dX11_cutFrom_15 (by first | rfl | decide | assumption | (simp only [rk_lit, nI_add, pk_mul, nI_1]; done) | (simp only [rk_lit, nI_add, pk_mul, nI_1]; congr 1; omega)) (by first | decide | assumption | omega) ?_
  refine rk_pc (pc' := 16) rfl ?_
  refine rk_i2l dX11_cutFrom_16 ?_
  refine rk_iload_n 2 dX11_cutFrom_17 rfl rfl ?_
  refine rk_i2l dX11_cutFrom_18 ?_
  refine rk_lmul dX11_cutFrom_19 ?_
  refine rk_aload_n 0 dX11_cutFrom_20 rfl rfl ?_
  refine rk_g12_0 rk_kX11_7 dX11_cutFrom_21 ?_
  refine rk_pc (pc' := 24) rfl ?_
  refine rk_iload_n 3 dX11_cutFrom_24 rfl rfl ?_
  refine rk_iconst 3 dX11_cutFrom_25 (by decide) ?_
  refine rk_iadd dX11_cutFrom_26 ?_
  refine rk_rn26 (50 + 7 * p + 3) dX11_cutFrom_27 (by first | rfl | decide | assumption | (simp only [rk_lit, nI_add, pk_mul, nI_1]; done) | (simp only [rk_lit, nI_add, pk_mul, nI_1]; congr 1; omega)) (by first | decide | assumption | omega) ?_
  refine rk_i2l dX11_cutFrom_28 ?_
  refine rk_ldiv dX11_cutFrom_29 (by exact rk_l0 hL) ?_
  refine rk_pc (pc' := 30) rfl ?_
  refine rk_l2i dX11_cutFrom_30 ?_
  refine rk_istore (ls' := [(4, _), (3, _), (0, _), (1, _), (2, _)]) dX11_cutFrom_31 (by decide) rfl ?_
  refine rk_aload_n 0 dX11_cutFrom_33 rfl rfl ?_
  refine rk_g12_0 rk_kX11_7 dX11_cutFrom_34 ?_
  refine rk_iload_n 3 dX11_cutFrom_37 rfl rfl ?_
  refine rk_iconst 3 dX11_cutFrom_38 (by decide) ?_
  refine rk_pc (pc' := 39) rfl ?_
  refine rk_iadd dX11_cutFrom_39 ?_
  refine rk_dup2 dX11_cutFrom_40 rfl rfl ?_
  refine rk_rn26 (50 + 7 * p + 3) dX11_cutFrom_41 (by first | rfl | decide | assumption | (simp only [rk_lit, nI_add, pk_mul, nI_1]; done) | (simp only [rk_lit, nI_add, pk_mul, nI_1]; congr 1; omega)) (by first | decide | assumption | omega) ?_
  refine rk_iload_n 2 dX11_cutFrom_42 rfl rfl ?_
  refine rk_isub dX11_cutFrom_43 ?_
  refine rk_sn26 (50 + 7 * p + 3) dX11_cutFrom_44 (by first | rfl | decide | assumption | (simp only [rk_lit, nI_add, pk_mul, nI_1]; done) | (simp only [rk_lit, nI_add, pk_mul, nI_1]; congr 1; omega)) (by first | decide | assumption | omega) (fun Iz1 eIz1 => ?_)
  have sz1 := rk_ufs eIz1
  have nz1 := rk_ufn eIz1
  have pz1 := md_c1 eIz1
  refine rk_pc (pc' := 45) rfl ?_
  refine rk_aload_n 0 dX11_cutFrom_45 rfl rfl ?_
  refine rk_g12_0 rk_kX11_7 dX11_cutFrom_46 ?_
  refine rk_iload_n 3 dX11_cutFrom_49 rfl rfl ?_
  refine rk_iconst 4 dX11_cutFrom_50 (by decide) ?_
  refine rk_iadd dX11_cutFrom_51 ?_
  refine rk_dup2 dX11_cutFrom_52 rfl rfl ?_
  refine rk_pc (pc' := 53) rfl ?_
  refine rk_rn26 (50 + 7 * p + 4) dX11_cutFrom_53 (by first | rfl | decide | assumption | (simp only [rk_lit, nI_add, pk_mul, nI_1]; done) | (simp only [rk_lit, nI_add, pk_mul, nI_1]; congr 1; omega)) (by first | decide | assumption | omega) ?_
  rw [nz1 (50 + 7 * p + 4) (by omega)]
  refine rk_iload dX11_cutFrom_54 rfl ?_
  refine rk_isub dX11_cutFrom_56 ?_
  refine rk_sn26 (50 + 7 * p + 4) dX11_cutFrom_57 (by first | rfl | decide | assumption | (simp only [rk_lit, nI_add, pk_mul, nI_1]; done) | (simp only [rk_lit, nI_add, pk_mul, nI_1]; congr 1; omega)) (by first | decide | assumption | omega) (fun Iz2 eIz2 => ?_)
  have sz2 := rk_ufs eIz2
  have nz2 := rk_ufn eIz2
  have pz2 := md_ch pz1 eIz2
  refine rk_aload_n 0 dX11_cutFrom_58 rfl rfl ?_
  refine rk_g12_0 rk_kX11_7 dX11_cutFrom_59 ?_
  refine rk_pc (pc' := 62) rfl ?_
  refine rk_iload_n 3 dX11_cutFrom_62 rfl rfl ?_
  refine rk_iconst 3 dX11_cutFrom_63 (by decide) ?_
  refine rk_iadd dX11_cutFrom_64 ?_
  refine rk_rn26 (50 + 7 * p + 3) dX11_cutFrom_65 (by first | rfl | decide | assumption | (simp only [rk_lit, nI_add, pk_mul, nI_1]; done) | (simp only [rk_lit, nI_add, pk_mul, nI_1]; congr 1; omega)) (by first | decide | assumption | omega) ?_
  rw [nz2 (50 + 7 * p + 3) (by omega), sz1]
  refine rk_if_ne 77 dX11_cutFrom_66 (by decide) (fun qz66 => ?_) (fun qz66 => ?_)
  · skip
    refine rk_aload_n 0 dX11_cutFrom_77 rfl rfl ?_
    refine rk_g12_0 rk_kX11_7 dX11_cutFrom_78 ?_
    refine rk_pc (pc' := 81) rfl ?_
    refine rk_iload_n 3 dX11_cutFrom_81 rfl rfl ?_
    refine rk_iconst 3 dX11_cutFrom_82 (by decide) ?_
    refine rk_iadd dX11_cutFrom_83 ?_
    refine rk_rn26 (50 + 7 * p + 3) dX11_cutFrom_84 (by first | rfl | decide | assumption | (simp only [rk_lit, nI_add, pk_mul, nI_1]; done) | (simp only [rk_lit, nI_add, pk_mul, nI_1]; congr 1; omega)) (by first | decide | assumption | omega) ?_
    rw [nz2 (50 + 7 * p + 3) (by omega), sz1]
    refine rk_aload_n 0 dX11_cutFrom_85 rfl rfl ?_
    refine rk_g12_0 rk_kX11_7 dX11_cutFrom_86 ?_
    refine rk_pc (pc' := 89) rfl ?_
    refine rk_bipush 6 dX11_cutFrom_89 (by decide) ?_
    refine rk_rn26 6 dX11_cutFrom_91 rfl (by first | decide | assumption | omega) ?_
    rw [nz2 (6) (by omega), nz1 (6) (by omega)]
    refine rk_icmp_ge 129 dX11_cutFrom_92 (by decide) (fun qz92 => ?_) (fun qz92 => ?_)
    · skip
      refine rk_iload dX11_cutFrom_129 rfl ?_
      refine rk_iretJ dX11_cutFrom_131 rfl rfl ?_
      have e2 : Iz2 = md_a I 26 (R 12 m 0) (sp_cut1 (I 26 (R 12 m 0)) p feet) := pz2
      first | (refine ⟨rfl, rfl, ?_⟩; rw [sp_cut, if_pos qz66, eIz3, e2, md_aa, md_as]; done) | (refine ⟨rfl, rfl, ?_⟩; rw [sp_cut, if_neg qz66, if_neg (Int32.not_lt.mpr qz92)]; exact e2) | (refine ⟨rfl, rfl, ?_⟩; have e3 : Iz3 = md_a I 26 (R 12 m 0) (sp_cut2 (I 26 (R 12 m 0)) p feet) := (by rw [eIz3, e2, md_u, sp_cut2, hsc]; rfl); rw [sp_cut, if_neg qz66, if_pos (Int32.not_le.mp qz92), eIz4, e3, md_aa, md_as])
    · skip
      refine rk_aload_n 0 dX11_cutFrom_95 rfl rfl ?_
      refine rk_g12_0 rk_kX11_7 dX11_cutFrom_96 ?_
      refine rk_bipush 30 dX11_cutFrom_99 (by decide) ?_
      refine rk_pc (pc' := 101) rfl ?_
      refine rk_iconst 4 dX11_cutFrom_101 (by decide) ?_
      refine rk_aload_n 0 dX11_cutFrom_102 rfl rfl ?_
      refine rk_g12_0 rk_kX11_7 dX11_cutFrom_103 ?_
      refine rk_iload_n 3 dX11_cutFrom_106 rfl rfl ?_
      refine rk_rn26 (50 + 7 * p) dX11_cutFrom_107 (by first | rfl | decide | assumption | (simp only [rk_lit, nI_add, pk_mul, nI_1]; done) | (simp only [rk_lit, nI_add, pk_mul, nI_1]; congr 1; omega)) (by first | decide | assumption | omega) ?_
      rw [nz2 (50 + 7 * p) (by omega), nz1 (50 + 7 * p) (by omega)]
      rw [h0]
      refine rk_imul dX11_cutFrom_108 ?_
      refine rk_pc (pc' := 109) rfl ?_
      refine rk_iadd dX11_cutFrom_109 ?_
      refine rk_iconst 3 dX11_cutFrom_110 (by decide) ?_
      refine rk_iadd dX11_cutFrom_111 ?_
      refine rk_dup2 dX11_cutFrom_112 rfl rfl ?_
      refine rk_rn26 (30 + 4 * f + 3) dX11_cutFrom_113 (by first | rfl | decide | assumption | (simp only [rk_lit, nI_add, pk_mul, nI_1]; done) | (simp only [rk_lit, nI_add, pk_mul, nI_1]; congr 1; omega)) (by first | decide | assumption | omega) ?_
      rw [nz2 (30 + 4 * f + 3) (by omega), nz1 (30 + 4 * f + 3) (by omega)]
      refine rk_aload_n 0 dX11_cutFrom_114 rfl rfl ?_
      refine rk_pc (pc' := 115) rfl ?_
      refine rk_g12_0 rk_kX11_7 dX11_cutFrom_115 ?_
      refine rk_iload_n 3 dX11_cutFrom_118 rfl rfl ?_
      refine rk_iconst 4 dX11_cutFrom_119 (by decide) ?_
      refine rk_iadd dX11_cutFrom_120 ?_
      refine rk_rn26 (50 + 7 * p + 4) dX11_cutFrom_121 (by first | rfl | decide | assumption | (simp only [rk_lit, nI_add, pk_mul, nI_1]; done) | (simp only [rk_lit, nI_add, pk_mul, nI_1]; congr 1; omega)) (by first | decide | assumption | omega) ?_
      rw [sz2]
      refine rk_iadd dX11_cutFrom_122 ?_
      refine rk_pc (pc' := 123) rfl ?_
      refine rk_sn26 (30 + 4 * f + 3) dX11_cutFrom_123 (by first | rfl | decide | assumption | (simp only [rk_lit, nI_add, pk_mul, nI_1]; done) | (simp only [rk_lit, nI_add, pk_mul, nI_1]; congr 1; omega)) (by first | decide | assumption | omega) (fun Iz3 eIz3 => ?_)
      have sz3 := rk_ufs eIz3
      have nz3 := rk_ufn eIz3
      have pz3 := md_ch pz2 eIz3
      refine rk_aload_n 0 dX11_cutFrom_124 rfl rfl ?_
      refine rk_iload_n 1 dX11_cutFrom_125 rfl rfl ?_
      refine rk_cVv (cX11_dropPiece_s rfl hc hp (by rw [nz3 12 (by omega), nz2 12 (by omega), nz1 12 (by omega)]; exact h12)) rk_eX11_dropPiece rfl ⟨rfl, rfl⟩ rk_kX11_94 dX11_cutFrom_126 rfl (by decide) (Nat.le_of_ble_eq_true rfl) ⟨Nat.le_refl _, Nat.le_refl _⟩ (fun Iz4 Rz4 hz4 => ?_)
      obtain ⟨qhz4, eIz4⟩ := hz4
      obtain rfl := qhz4.symm
      refine rk_iload dX11_cutFrom_129 rfl ?_
      refine rk_iretJ dX11_cutFrom_131 rfl rfl ?_
      have e2 : Iz2 = md_a I 26 (R 12 m 0) (sp_cut1 (I 26 (R 12 m 0)) p feet) := pz2
      first | (refine ⟨rfl, rfl, ?_⟩; rw [sp_cut, if_pos qz66, eIz3, e2, md_aa, md_as]; done) | (refine ⟨rfl, rfl, ?_⟩; rw [sp_cut, if_neg qz66, if_neg (Int32.not_lt.mpr qz92)]; exact e2) | (refine ⟨rfl, rfl, ?_⟩; have e3 : Iz3 = md_a I 26 (R 12 m 0) (sp_cut2 (I 26 (R 12 m 0)) p feet) := (by rw [eIz3, e2, md_u, sp_cut2, hsc]; rfl); rw [sp_cut, if_neg qz66, if_pos (Int32.not_le.mp qz92), eIz4, e3, md_aa, md_as])
  · skip
    refine rk_aload_n 0 dX11_cutFrom_69 rfl rfl ?_
    refine rk_pc (pc' := 70) rfl ?_
    refine rk_iload_n 1 dX11_cutFrom_70 rfl rfl ?_
    refine rk_cVv (cX11_dropPiece_s rfl hc hp (by rw [nz2 12 (by omega), nz1 12 (by omega)]; exact h12)) rk_eX11_dropPiece rfl ⟨rfl, rfl⟩ rk_kX11_94 dX11_cutFrom_71 rfl (by decide) (Nat.le_of_ble_eq_true rfl) ⟨Nat.le_refl _, Nat.le_refl _⟩ (fun Iz3 Rz3 hz3 => ?_)
    obtain ⟨qhz3, eIz3⟩ := hz3
    obtain rfl := qhz3.symm
    refine rk_goto 129 dX11_cutFrom_74 (by decide) ?_
    refine rk_iload dX11_cutFrom_129 rfl ?_
    refine rk_iretJ dX11_cutFrom_131 rfl rfl ?_
    have e2 : Iz2 = md_a I 26 (R 12 m 0) (sp_cut1 (I 26 (R 12 m 0)) p feet) := pz2
    first | (refine ⟨rfl, rfl, ?_⟩; rw [sp_cut, if_pos qz66, eIz3, e2, md_aa, md_as]; done) | (refine ⟨rfl, rfl, ?_⟩; rw [sp_cut, if_neg qz66, if_neg (Int32.not_lt.mpr qz92)]; exact e2) | (refine ⟨rfl, rfl, ?_⟩; have e3 : Iz3 = md_a I 26 (R 12 m 0) (sp_cut2 (I 26 (R 12 m 0)) p feet) := (by rw [eIz3, e2, md_u, sp_cut2, hsc]; rfl); rw [sp_cut, if_neg qz66, if_pos (Int32.not_le.mp qz92), eIz4, e3, md_aa, md_as])
end MD

