section MP
variable {w : rk_W} {l : Launch} {Sh : rk_Sh} {I : rk_Mm} {R : rk_Rm}
theorem sp_hours_c {N M : Nat → Int32} {s f : Int32} (h2 : M 2 = N 2) (h8 : M 8 = N 8) : sp_hours M s f = sp_hours N s f := by simp only [sp_hours, sp_strand, h2, h8]
theorem sp_qual_c {N M : Nat → Int32} {k : Nat} (h1 : M 1 = N 1) (h2 : M (20 + 3 * k + 1) = N (20 + 3 * k + 1)) : sp_qual M k = sp_qual N k := by simp only [sp_qual, h1, h2]
def sp_layN (N : Nat → Int32) (k c : Nat) (s y ft : Int32) : Nat → Int32 := sp_u (sp_u (sp_u (sp_u (sp_u (sp_u (sp_u (sp_u (sp_u (sp_u N (20 + 3 * k + 2) (N (20 + 3 * k + 2) - s * y * sp_yarn N ft)) 11 (N 11 + sp_hours N s ft)) (50 + 7 * c) (nI k)) (50 + 7 * c + 1) s) (50 + 7 * c + 2) y) (50 + 7 * c + 3) ft) (50 + 7 * c + 4) (s * y * sp_yarn N ft)) (50 + 7 * c + 5) (sp_qual N k)) (50 + 7 * c + 6) 0) 12 (N 12 + 1)
def sp_can (N : Nat → Int32) (k : Nat) (s y f : Int32) : Prop := sp_strand N f ≤ N 0 ∧ s * y * sp_yarn N f ≤ N (20 + 3 * k + 2) ∧ sp_hours N s f ≤ sp_left N
noncomputable def sp_lay (N : Nat → Int32) (f s y ft : Int32) : sp_R := @ite _ (0 ≤ f ∧ f ≤ 2) (Classical.propDecidable _) (@ite _ (((3 ≤ s ∧ s ≤ 4) ∧ (1 ≤ y ∧ y ≤ 40)) ∧ 1 ≤ ft ∧ ft ≤ 2000) (Classical.propDecidable _) (@ite _ (N 12 = 24) (Classical.propDecidable _) (-4, none) (@ite _ (sp_can N f.toNatClampNeg s y ft) (Classical.propDecidable _) (N 12 + 1 - 1, some (sp_layN N f.toNatClampNeg (sp_c N 12) s y ft)) (-5, none))) (-2, none)) (-1, none)
theorem cX11_lay_s {m u c : Nat} (hu : I 12 m 3 = nI u) (hu6 : u ≤ 6) (h12 : I 26 (R 12 m 0) 12 = nI c) (hc : c ≤ 24) (h8 : 1 ≤ I 26 (R 12 m 0) 8) (f s y ft : Int32) : rk_J w l rk_mX11_lay 6 [rk_a 12 m, rk_i f, rk_i s, rk_i y, rk_i ft] Sh I R (md_Q I R m (sp_lay (I 26 (R 12 m 0)) f s y ft)) := by
  have h26 : md_rec I R m 26 = I 26 := md_rec_c (by decide) (by decide)
  have hcc : sp_c (I 26 (R 12 m 0)) 12 = c := sp_cN h12 (by omega)
  refine rk_bJ (ls := [(0, _), (1, _), (2, _), (3, _), (4, _)]) (by decide) rfl (Nat.le_of_ble_eq_true rfl) ?_
  refine rk_iload_n 1 dX11_lay_0 rfl rfl ?_
  refine rk_cSp (cX11_isFibre_s _) rk_eX11_isFibre rfl rk_kX11_57 dX11_lay_1 rfl (by decide) (Nat.le_of_ble_eq_true rfl) ⟨Nat.le_refl _, Nat.le_refl _⟩ ?_
  refine rk_if_ne 9 dX11_lay_4 (by decide) (fun qz4 => ?_) (fun qz4 => ?_)
  · skip
    obtain ⟨k, hk, rfl⟩ := rk_in_n (n := 2) rfl (by decide) (sp_bt qz4)
    have hcl : (nI k).toNatClampNeg = k := nI_clamp (by omega)
    refine rk_iload_n 2 dX11_lay_9 rfl rfl ?_
    refine rk_iload_n 3 dX11_lay_10 rfl rfl ?_
    refine rk_cSp (cX11_areStrands_s _ _) rk_eX11_areStrands rfl rk_kX11_80 dX11_lay_11 rfl (by decide) (Nat.le_of_ble_eq_true rfl) ⟨Nat.le_refl _, Nat.le_refl _⟩ ?_
    refine rk_if_eq 29 dX11_lay_14 (by decide) (fun qz14 => ?_) (fun qz14 => ?_)
    · skip
      refine rk_bipush (-2) dX11_lay_29 (by decide) ?_
      refine rk_pc (pc' := 31) rfl ?_
      refine rk_iretJ dX11_lay_31 rfl rfl ?_
      rw [show sp_lay (I 26 (R 12 m 0)) (nI k) s y ft = (-2, none) from (if_pos (sp_bt qz4)).trans (by first | exact if_neg (fun z => sp_bf qz14 z.1) | exact if_neg (fun z => sp_bf qz26 z.2))]
      exact ⟨rfl, rfl, rfl⟩
    · skip
      refine rk_iload dX11_lay_17 rfl ?_
      refine rk_iconst 1 dX11_lay_19 (by decide) ?_
      refine rk_sipush 2000 dX11_lay_20 (by decide) ?_
      refine rk_cSp (cX11_in_s _ _ _) rk_eX11_in rfl rk_kX11_43 dX11_lay_23 rfl (by decide) (Nat.le_of_ble_eq_true rfl) ⟨Nat.le_refl _, Nat.le_refl _⟩ ?_
      refine rk_if_ne 32 dX11_lay_26 (by decide) (fun qz26 => ?_) (fun qz26 => ?_)
      · skip
        refine rk_aload_n 0 dX11_lay_32 rfl rfl ?_
        refine rk_g12_0 rk_kX11_7 dX11_lay_33 ?_
        refine rk_pc (pc' := 36) rfl ?_
        refine rk_bipush 12 dX11_lay_36 (by decide) ?_
        refine rk_rn26 12 dX11_lay_38 rfl (by first | decide | assumption | omega) ?_
        refine rk_bipush 24 dX11_lay_39 (by decide) ?_
        refine rk_icmp_ne 47 dX11_lay_41 (by decide) (fun qz41 => ?_) (fun qz41 => ?_)
        · skip
          refine rk_aload_n 0 dX11_lay_47 rfl rfl ?_
          refine rk_iload_n 1 dX11_lay_48 rfl rfl ?_
          refine rk_iload_n 2 dX11_lay_49 rfl rfl ?_
          refine rk_pc (pc' := 50) rfl ?_
          refine rk_iload_n 3 dX11_lay_50 rfl rfl ?_
          refine rk_iload dX11_lay_51 rfl ?_
          refine rk_cVp (cX11_canLay_s (by omega) h8 _ _ _) rk_eX11_canLay rfl ⟨rfl, rfl⟩ rk_kX11_84 dX11_lay_53 rfl (by decide) (Nat.le_of_ble_eq_true rfl) ⟨Nat.le_refl _, Nat.le_refl _⟩ ?_
          refine rk_if_ne 62 dX11_lay_56 (by decide) (fun qz56 => ?_) (fun qz56 => ?_)
          · skip
            have hc24 : c < 24 := by
              rcases Nat.lt_or_ge c 24 with g | g
              · exact g
              · obtain rfl : c = 24 := by omega
                exact absurd h12 qz41
            refine rk_aload_n 0 dX11_lay_62 rfl rfl ?_
            refine rk_cVv (cX11_record_s hu hu6) rk_eX11_record rfl ⟨rfl, rfl⟩ rk_kX11_54 dX11_lay_63 rfl (by decide) (Nat.le_of_ble_eq_true rfl) ⟨Nat.le_refl _, Nat.le_refl _⟩ (fun Iz1 Rz1 hz1 => ?_)
            obtain ⟨qhz1, eIz1⟩ := hz1
            obtain rfl := qhz1.symm
            have h26z : Iz1 26 = I 26 := by rw [eIz1, h26]
            refine rk_iload_n 2 dX11_lay_66 rfl rfl ?_
            refine rk_pc (pc' := 67) rfl ?_
            refine rk_iload_n 3 dX11_lay_67 rfl rfl ?_
            refine rk_imul dX11_lay_68 ?_
            refine rk_aload_n 0 dX11_lay_69 rfl rfl ?_
            refine rk_iload dX11_lay_70 rfl ?_
            refine rk_cVp (cX11_yarnOf_s _) rk_eX11_yarnOf rfl ⟨rfl, rfl⟩ rk_kX11_70 dX11_lay_72 rfl (by decide) (Nat.le_of_ble_eq_true rfl) ⟨Nat.le_refl _, Nat.le_refl _⟩ ?_
            rw [h26z]
            refine rk_imul dX11_lay_75 ?_
            refine rk_pc (pc' := 76) rfl ?_
            refine rk_istore (ls' := [(5, _), (0, _), (1, _), (2, _), (3, _), (4, _)]) dX11_lay_76 (by decide) rfl ?_
            refine rk_aload_n 0 dX11_lay_78 rfl rfl ?_
            refine rk_g12_0 rk_kX11_7 dX11_lay_79 ?_
            refine rk_bipush 20 dX11_lay_82 (by decide) ?_
            refine rk_iconst 3 dX11_lay_84 (by decide) ?_
            refine rk_iload_n 1 dX11_lay_85 rfl rfl ?_
            refine rk_pc (pc' := 86) rfl ?_
            refine rk_imul dX11_lay_86 ?_
            refine rk_iadd dX11_lay_87 ?_
            refine rk_iconst 2 dX11_lay_88 (by decide) ?_
            refine rk_iadd dX11_lay_89 ?_
            refine rk_dup2 dX11_lay_90 rfl rfl ?_
            refine rk_rn26 (20 + 3 * k + 2) dX11_lay_91 (by first | rfl | decide | assumption | (simp only [rk_lit, nI_add, pk_mul, nI_1]; done) | (simp only [rk_lit, nI_add, pk_mul, nI_1]; congr 1; omega)) (by first | decide | assumption | omega) ?_
            rw [h26z]
            refine rk_pc (pc' := 92) rfl ?_
            refine rk_iload dX11_lay_92 rfl ?_
            refine rk_isub dX11_lay_94 ?_
            refine rk_sn26 (20 + 3 * k + 2) dX11_lay_95 (by first | rfl | decide | assumption | (simp only [rk_lit, nI_add, pk_mul, nI_1]; done) | (simp only [rk_lit, nI_add, pk_mul, nI_1]; congr 1; omega)) (by first | decide | assumption | omega) (fun Iz2 eIz2 => ?_)
            have sz2 := rk_ufs eIz2
            have nz2 := rk_ufn eIz2
            have pz2 := md_c1 eIz2
            refine rk_aload_n 0 dX11_lay_96 rfl rfl ?_
            refine rk_g12_0 rk_kX11_7 dX11_lay_97 ?_
            refine rk_bipush 11 dX11_lay_100 (by decide) ?_
            refine rk_pc (pc' := 102) rfl ?_
            refine rk_dup2 dX11_lay_102 rfl rfl ?_
            refine rk_rn26 11 dX11_lay_103 rfl (by first | decide | assumption | omega) ?_
            rw [nz2 (11) (by omega)]
            rw [h26z]
            refine rk_aload_n 0 dX11_lay_104 rfl rfl ?_
            refine rk_iload_n 2 dX11_lay_105 rfl rfl ?_
            refine rk_iload dX11_lay_106 rfl ?_
            refine rk_cVp (cX11_hoursOf_s (by rw [nz2 (8) (by omega), h26z]; exact h8) _ _) rk_eX11_hoursOf rfl ⟨rfl, rfl⟩ rk_kX11_73 dX11_lay_108 rfl (by decide) (Nat.le_of_ble_eq_true rfl) ⟨Nat.le_refl _, Nat.le_refl _⟩ ?_
            rw [sp_hours_c (N := I 26 (R 12 m 0)) (by rw [nz2 (2) (by omega), h26z]) (by rw [nz2 (8) (by omega), h26z])]
            refine rk_pc (pc' := 111) rfl ?_
            refine rk_iadd dX11_lay_111 ?_
            refine rk_sn26 11 dX11_lay_112 rfl (by first | decide | assumption | omega) (fun Iz3 eIz3 => ?_)
            have sz3 := rk_ufs eIz3
            have nz3 := rk_ufn eIz3
            have pz3 := md_ch pz2 eIz3
            refine rk_bipush 50 dX11_lay_113 (by decide) ?_
            refine rk_bipush 7 dX11_lay_115 (by decide) ?_
            refine rk_aload_n 0 dX11_lay_117 rfl rfl ?_
            refine rk_g12_0 rk_kX11_7 dX11_lay_118 ?_
            refine rk_pc (pc' := 121) rfl ?_
            refine rk_bipush 12 dX11_lay_121 (by decide) ?_
            refine rk_rn26 12 dX11_lay_123 rfl (by first | decide | assumption | omega) ?_
            rw [nz3 (12) (by omega), nz2 (12) (by omega)]
            rw [h26z, h12]
            refine rk_imul dX11_lay_124 ?_
            refine rk_iadd dX11_lay_125 ?_
            refine rk_istore (ls' := [(6, _), (5, _), (0, _), (1, _), (2, _), (3, _), (4, _)]) dX11_lay_126 (by decide) rfl ?_
            refine rk_aload_n 0 dX11_lay_128 rfl rfl ?_
            refine rk_pc (pc' := 129) rfl ?_
            refine rk_g12_0 rk_kX11_7 dX11_lay_129 ?_
            refine rk_iload dX11_lay_132 rfl ?_
            refine rk_iload_n 1 dX11_lay_134 rfl rfl ?_
            refine rk_sn26 (50 + 7 * c) dX11_lay_135 (by first | rfl | decide | assumption | (simp only [rk_lit, nI_add, pk_mul, nI_1]; done) | (simp only [rk_lit, nI_add, pk_mul, nI_1]; congr 1; omega)) (by first | decide | assumption | omega) (fun Iz4 eIz4 => ?_)
            have sz4 := rk_ufs eIz4
            have nz4 := rk_ufn eIz4
            have pz4 := md_ch pz3 eIz4
            refine rk_aload_n 0 dX11_lay_136 rfl rfl ?_
            refine rk_g12_0 rk_kX11_7 dX11_lay_137 ?_
            refine rk_pc (pc' := 140) rfl ?_
            refine rk_iload dX11_lay_140 rfl ?_
            refine rk_iconst 1 dX11_lay_142 (by decide) ?_
            refine rk_iadd dX11_lay_143 ?_
            refine rk_iload_n 2 dX11_lay_144 rfl rfl ?_
            refine rk_sn26 (50 + 7 * c + 1) dX11_lay_145 (by first | rfl | decide | assumption | (simp only [rk_lit, nI_add, pk_mul, nI_1]; done) | (simp only [rk_lit, nI_add, pk_mul, nI_1]; congr 1; omega)) (by first | decide | assumption | omega) (fun Iz5 eIz5 => ?_)
            have sz5 := rk_ufs eIz5
            have nz5 := rk_ufn eIz5
            have pz5 := md_ch pz4 eIz5
            refine rk_aload_n 0 dX11_lay_146 rfl rfl ?_
            refine rk_pc (pc' := 147) rfl ?_
            refine rk_g12_0 rk_kX11_7 dX11_lay_147 ?_
            refine rk_iload dX11_lay_150 rfl ?_
            refine rk_iconst 2 dX11_lay_152 (by decide) ?_
            refine rk_iadd dX11_lay_153 ?_
            refine rk_iload_n 3 dX11_lay_154 rfl rfl ?_
            refine rk_sn26 (50 + 7 * c + 2) dX11_lay_155 (by first | rfl | decide | assumption | (simp only [rk_lit, nI_add, pk_mul, nI_1]; done) | (simp only [rk_lit, nI_add, pk_mul, nI_1]; congr 1; omega)) (by first | decide | assumption | omega) (fun Iz6 eIz6 => ?_)
            have sz6 := rk_ufs eIz6
            have nz6 := rk_ufn eIz6
            have pz6 := md_ch pz5 eIz6
            refine rk_pc (pc' := 156) rfl ?_
            refine rk_aload_n 0 dX11_lay_156 rfl rfl ?_
            refine rk_g12_0 rk_kX11_7 dX11_lay_157 ?_
            refine rk_iload dX11_lay_160 rfl ?_
            refine rk_iconst 3 dX11_lay_162 (by decide) ?_
            refine rk_iadd dX11_lay_163 ?_
            refine rk_iload dX11_lay_164 rfl ?_
            refine rk_pc (pc' := 166) rfl ?_
            refine rk_sn26 (50 + 7 * c + 3) dX11_lay_166 (by first | rfl | decide | assumption | (simp only [rk_lit, nI_add, pk_mul, nI_1]; done) | (simp only [rk_lit, nI_add, pk_mul, nI_1]; congr 1; omega)) (by first | decide | assumption | omega) (fun Iz7 eIz7 => ?_)
            have sz7 := rk_ufs eIz7
            have nz7 := rk_ufn eIz7
            have pz7 := md_ch pz6 eIz7
            refine rk_aload_n 0 dX11_lay_167 rfl rfl ?_
            refine rk_g12_0 rk_kX11_7 dX11_lay_168 ?_
            refine rk_iload dX11_lay_171 rfl ?_
            refine rk_iconst 4 dX11_lay_173 (by decide) ?_
            refine rk_iadd dX11_lay_174 ?_
            refine rk_pc (pc' := 175) rfl ?_
            refine rk_iload dX11_lay_175 rfl ?_
            refine rk_sn26 (50 + 7 * c + 4) dX11_lay_177 (by first | rfl | decide | assumption | (simp only [rk_lit, nI_add, pk_mul, nI_1]; done) | (simp only [rk_lit, nI_add, pk_mul, nI_1]; congr 1; omega)) (by first | decide | assumption | omega) (fun Iz8 eIz8 => ?_)
            have sz8 := rk_ufs eIz8
            have nz8 := rk_ufn eIz8
            have pz8 := md_ch pz7 eIz8
            refine rk_aload_n 0 dX11_lay_178 rfl rfl ?_
            refine rk_g12_0 rk_kX11_7 dX11_lay_179 ?_
            refine rk_iload dX11_lay_182 rfl ?_
            refine rk_iconst 5 dX11_lay_184 (by decide) ?_
            refine rk_pc (pc' := 185) rfl ?_
            refine rk_iadd dX11_lay_185 ?_
            refine rk_aload_n 0 dX11_lay_186 rfl rfl ?_
            refine rk_iload_n 1 dX11_lay_187 rfl rfl ?_
            refine rk_cVp (cX11_qualityOf_s (by omega)) rk_eX11_qualityOf rfl ⟨rfl, rfl⟩ rk_kX11_88 dX11_lay_188 rfl (by decide) (Nat.le_of_ble_eq_true rfl) ⟨Nat.le_refl _, Nat.le_refl _⟩ ?_
            rw [sp_qual_c (N := I 26 (R 12 m 0)) (by rw [nz8 (1) (by omega), nz7 (1) (by omega), nz6 (1) (by omega), nz5 (1) (by omega), nz4 (1) (by omega), nz3 (1) (by omega), nz2 (1) (by omega), h26z]) (by rw [nz8 (20 + 3 * k + 1) (by omega), nz7 (20 + 3 * k + 1) (by omega), nz6 (20 + 3 * k + 1) (by omega), nz5 (20 + 3 * k + 1) (by omega), nz4 (20 + 3 * k + 1) (by omega), nz3 (20 + 3 * k + 1) (by omega), nz2 (20 + 3 * k + 1) (by omega), h26z])]
            refine rk_sn26 (50 + 7 * c + 5) dX11_lay_191 (by first | rfl | decide | assumption | (simp only [rk_lit, nI_add, pk_mul, nI_1]; done) | (simp only [rk_lit, nI_add, pk_mul, nI_1]; congr 1; omega)) (by first | decide | assumption | omega) (fun Iz9 eIz9 => ?_)
            have sz9 := rk_ufs eIz9
            have nz9 := rk_ufn eIz9
            have pz9 := md_ch pz8 eIz9
            refine rk_aload_n 0 dX11_lay_192 rfl rfl ?_
            refine rk_pc (pc' := 193) rfl ?_
            refine rk_g12_0 rk_kX11_7 dX11_lay_193 ?_
            refine rk_iload dX11_lay_196 rfl ?_
            refine rk_bipush 6 dX11_lay_198 (by decide) ?_
            refine rk_iadd dX11_lay_200 ?_
            refine rk_iconst 0 dX11_lay_201 (by decide) ?_
            refine rk_sn26 (50 + 7 * c + 6) dX11_lay_202 (by first | rfl | decide | assumption | (simp only [rk_lit, nI_add, pk_mul, nI_1]; done) | (simp only [rk_lit, nI_add, pk_mul, nI_1]; congr 1; omega)) (by first | decide | assumption | omega) (fun Iz10 eIz10 => ?_)
            have sz10 := rk_ufs eIz10
            have nz10 := rk_ufn eIz10
            have pz10 := md_ch pz9 eIz10
            refine rk_pc (pc' := 203) rfl ?_
            refine rk_aload_n 0 dX11_lay_203 rfl rfl ?_
            refine rk_g12_0 rk_kX11_7 dX11_lay_204 ?_
            refine rk_bipush 12 dX11_lay_207 (by decide) ?_
            refine rk_dup2 dX11_lay_209 rfl rfl ?_
            refine rk_rn26 12 dX11_lay_210 rfl (by first | decide | assumption | omega) ?_
            rw [nz10 (12) (by omega), nz9 (12) (by omega), nz8 (12) (by omega), nz7 (12) (by omega), nz6 (12) (by omega), nz5 (12) (by omega), nz4 (12) (by omega), nz3 (12) (by omega), nz2 (12) (by omega)]
            rw [h26z]
            refine rk_iconst 1 dX11_lay_211 (by decide) ?_
            refine rk_pc (pc' := 212) rfl ?_
            refine rk_iadd dX11_lay_212 ?_
            refine rk_sn26 12 dX11_lay_213 rfl (by first | decide | assumption | omega) (fun Iz11 eIz11 => ?_)
            have sz11 := rk_ufs eIz11
            have nz11 := rk_ufn eIz11
            have pz11 := md_ch pz10 eIz11
            refine rk_aload_n 0 dX11_lay_214 rfl rfl ?_
            refine rk_g12_0 rk_kX11_7 dX11_lay_215 ?_
            refine rk_bipush 12 dX11_lay_218 (by decide) ?_
            refine rk_rn26 12 dX11_lay_220 rfl (by first | decide | assumption | omega) ?_
            rw [sz11]
            refine rk_pc (pc' := 221) rfl ?_
            refine rk_iconst 1 dX11_lay_221 (by decide) ?_
            refine rk_isub dX11_lay_222 ?_
            refine rk_iretJ dX11_lay_223 rfl rfl ?_
            rw [show sp_lay (I 26 (R 12 m 0)) (nI k) s y ft = (I 26 (R 12 m 0) 12 + 1 - 1, some (sp_layN (I 26 (R 12 m 0)) k c s y ft)) from (if_pos (sp_bt qz4)).trans ((if_pos ⟨sp_bt qz14, sp_bt qz26⟩).trans ((if_neg qz41).trans ((if_pos (by rw [hcl]; exact sp_bt qz56)).trans (by rw [hcl, hcc]))))]
            exact ⟨rfl, rfl, by rw [pz11, eIz1, h26]; rfl⟩
          · skip
            refine rk_bipush (-5) dX11_lay_59 (by decide) ?_
            refine rk_iretJ dX11_lay_61 rfl rfl ?_
            rw [show sp_lay (I 26 (R 12 m 0)) (nI k) s y ft = (-5, none) from (if_pos (sp_bt qz4)).trans ((if_pos ⟨sp_bt qz14, sp_bt qz26⟩).trans ((if_neg qz41).trans (if_neg (by rw [hcl]; exact sp_bf qz56))))]
            exact ⟨rfl, rfl, rfl⟩
        · skip
          refine rk_bipush (-4) dX11_lay_44 (by decide) ?_
          refine rk_iretJ dX11_lay_46 rfl rfl ?_
          rw [show sp_lay (I 26 (R 12 m 0)) (nI k) s y ft = (-4, none) from (if_pos (sp_bt qz4)).trans ((if_pos ⟨sp_bt qz14, sp_bt qz26⟩).trans (if_pos qz41))]
          exact ⟨rfl, rfl, rfl⟩
      · skip
        refine rk_bipush (-2) dX11_lay_29 (by decide) ?_
        refine rk_iretJ dX11_lay_31 rfl rfl ?_
        rw [show sp_lay (I 26 (R 12 m 0)) (nI k) s y ft = (-2, none) from (if_pos (sp_bt qz4)).trans (by first | exact if_neg (fun z => sp_bf qz14 z.1) | exact if_neg (fun z => sp_bf qz26 z.2))]
        exact ⟨rfl, rfl, rfl⟩
  · skip
    refine rk_iconst (-1) dX11_lay_7 (by decide) ?_
    refine rk_pc (pc' := 8) rfl ?_
    refine rk_iretJ dX11_lay_8 rfl rfl ?_
    rw [show sp_lay (I 26 (R 12 m 0)) f s y ft = (-1, none) from if_neg (sp_bf qz4)]
    exact ⟨rfl, rfl, rfl⟩
end MP

