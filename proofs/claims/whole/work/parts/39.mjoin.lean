section MQ1
variable {w : rk_W} {l : Launch} {Sh : rk_Sh} {I : rk_Mm} {R : rk_Rm}
def sp_ispc (N : Nat → Int32) (p : Int32) : Prop := 0 ≤ p ∧ p ≤ N 12 - 1
def sp_isor (N : Nat → Int32) (p : Int32) : Prop := 0 ≤ p ∧ p ≤ N 13 - 1
theorem sp_is_n {x y : Int32} {c : Nat} (hc : y = nI c) (hc2 : c < 2 ^ 31) (h : 0 ≤ x ∧ x ≤ y - 1) : ∃ p, p < c ∧ x = nI p := by
  subst hc
  obtain ⟨j, h1, h2⟩ := nI_of (x := x) (Int32.not_lt.mpr h.1)
  subst h2
  rcases Nat.eq_zero_or_pos c with rfl | h0
  · exact absurd (Int32.le_trans h.1 h.2) (by decide)
  · have h3 := h.2
    rw [rk_pred h0] at h3
    exact ⟨j, by have := (nI_leI h1 (by omega)).mp h3; omega, rfl⟩
theorem sp_n_is {y : Int32} {p c : Nat} (hc : y = nI c) (hc2 : c < 2 ^ 31) (h : p < c) : 0 ≤ nI p ∧ nI p ≤ y - 1 := by
  subst hc
  rw [rk_pred (by omega)]
  exact ⟨nI_pos' (by omega), nI_le (by omega) (by omega)⟩
/-- pieces a < b joined -/
def sp_joinN (N : Nat → Int32) (a b : Nat) : Nat → Int32 := sp_u (sp_u (sp_u (sp_u N (50 + 7 * a + 3) (N (50 + 7 * a + 3) + (N (50 + 7 * b + 3) - N 4))) (50 + 7 * a + 4) (N (50 + 7 * a + 4) + N (50 + 7 * b + 4))) (50 + 7 * a + 5) (if N (50 + 7 * b + 5) < N (50 + 7 * a + 5) then N (50 + 7 * b + 5) else N (50 + 7 * a + 5))) (50 + 7 * a + 6) (N (50 + 7 * a + 6) + (N (50 + 7 * b + 6) + 1))
def sp_lk (N : Nat → Int32) (p q : Nat) : Prop := N (50 + 7 * p + 0) = N (50 + 7 * q + 0) ∧ N (50 + 7 * p + 1) = N (50 + 7 * q + 1) ∧ N (50 + 7 * p + 2) = N (50 + 7 * q + 2)
noncomputable def sp_join (N : Nat → Int32) (p q : Int32) : sp_R := @ite _ (sp_ispc N p ∧ sp_ispc N q ∧ p ≠ q) (Classical.propDecidable _) (@ite _ (sp_lk N p.toNatClampNeg q.toNatClampNeg ∧ N 4 < N (50 + 7 * p.toNatClampNeg + 3) ∧ N 4 < N (50 + 7 * q.toNatClampNeg + 3)) (Classical.propDecidable _) (if p < q then (p, some (sp_gone (sp_joinN N p.toNatClampNeg q.toNatClampNeg) 12 50 q.toNatClampNeg)) else (q, some (sp_gone (sp_joinN N q.toNatClampNeg p.toNatClampNeg) 12 50 p.toNatClampNeg))) (-5, none)) (-1, none)
theorem cX11_join_l {m u c p q : Nat} (hu : I 12 m 3 = nI u) (hu6 : u ≤ 6) (h12 : I 26 (R 12 m 0) 12 = nI c) (hc : c ≤ 24) (hp : p < c) (hq : q < c) (hne : p ≠ q) : ∀ n k : Nat, k + n = 3 → (∀ j, j < k → I 26 (R 12 m 0) (50 + 7 * p + j) = I 26 (R 12 m 0) (50 + 7 * q + j)) → rk_Wp w l rk_mX11_join 3 0 0 (rk_GJ w Sh (md_Q I R m (sp_join (I 26 (R 12 m 0)) (nI p) (nI q)))) 25 [(0, rk_a 12 m), (1, rk_i (nI p)), (2, rk_i (nI q)), (3, rk_i (nI k))] [] (Sh, 0, 0) I R := by
  have h26 : md_rec I R m 26 = I 26 := md_rec_c (by decide) (by decide)
  have clp : (nI p).toNatClampNeg = p := nI_clamp (by omega)
  have clq : (nI q).toNatClampNeg = q := nI_clamp (by omega)
  have hok : sp_ispc (I 26 (R 12 m 0)) (nI p) ∧ sp_ispc (I 26 (R 12 m 0)) (nI q) ∧ nI p ≠ nI q := ⟨sp_n_is h12 (by omega) hp, sp_n_is h12 (by omega) hq, fun z => hne ((nI_eq (by omega) (by omega)).mp z)⟩
  have herr : ¬ (sp_lk (I 26 (R 12 m 0)) p q ∧ I 26 (R 12 m 0) 4 < I 26 (R 12 m 0) (50 + 7 * p + 3) ∧ I 26 (R 12 m 0) 4 < I 26 (R 12 m 0) (50 + 7 * q + 3)) → sp_join (I 26 (R 12 m 0)) (nI p) (nI q) = (-5, none) := fun z => (if_pos hok).trans (if_neg (by rw [clp, clq]; exact z))
  intro n
  induction n with
  | zero =>
    intro k hk hj
    obtain rfl : k = 3 := by omega
    have hlk : sp_lk (I 26 (R 12 m 0)) p q := ⟨hj 0 (by decide), hj 1 (by decide), hj 2 (by decide)⟩
    rcases Nat.lt_or_ge p q with hpq | hpq
    · have hlt : nI p < nI q := nI_lt hpq (by omega)
      refine rk_iload_n 3 dX11_join_25 rfl rfl ?_
      refine rk_iconst 3 dX11_join_26 (by decide) ?_
      refine rk_icmp_ge 54 dX11_join_27 (by decide) (fun qz27 => ?_) (fun qz27 => ?_)
      · skip
        refine rk_aload_n 0 dX11_join_54 rfl rfl ?_
        refine rk_iload_n 1 dX11_join_55 rfl rfl ?_
        refine rk_iconst 3 dX11_join_56 (by decide) ?_
        refine rk_cVp (cX11_ofPiece_s p 3 rfl rfl (by omega) (by decide)) rk_eX11_ofPiece rfl ⟨rfl, rfl⟩ rk_kX11_91 dX11_join_57 rfl (by decide) (Nat.le_of_ble_eq_true rfl) ⟨Nat.le_refl _, Nat.le_refl _⟩ ?_
        refine rk_pc (pc' := 60) rfl ?_
        refine rk_aload_n 0 dX11_join_60 rfl rfl ?_
        refine rk_g12_0 rk_kX11_7 dX11_join_61 ?_
        refine rk_iconst 4 dX11_join_64 (by decide) ?_
        refine rk_rn26 4 dX11_join_65 rfl (by first | decide | assumption | omega) ?_
        refine rk_icmp_le 84 dX11_join_66 (by decide) (fun qz66 => ?_) (fun qz66 => ?_)
        · skip
          refine rk_bipush (-5) dX11_join_84 (by decide) ?_
          refine rk_iretJ dX11_join_86 rfl rfl ?_
          rw [herr (by first | exact fun z => Int32.not_lt.mpr qz66 z.2.1 | exact fun z => qz81 z.2.2)]
          exact ⟨rfl, rfl, rfl⟩
        · skip
          refine rk_aload_n 0 dX11_join_69 rfl rfl ?_
          refine rk_pc (pc' := 70) rfl ?_
          refine rk_iload_n 2 dX11_join_70 rfl rfl ?_
          refine rk_iconst 3 dX11_join_71 (by decide) ?_
          refine rk_cVp (cX11_ofPiece_s q 3 rfl rfl (by omega) (by decide)) rk_eX11_ofPiece rfl ⟨rfl, rfl⟩ rk_kX11_91 dX11_join_72 rfl (by decide) (Nat.le_of_ble_eq_true rfl) ⟨Nat.le_refl _, Nat.le_refl _⟩ ?_
          refine rk_aload_n 0 dX11_join_75 rfl rfl ?_
          refine rk_g12_0 rk_kX11_7 dX11_join_76 ?_
          refine rk_iconst 4 dX11_join_79 (by decide) ?_
          refine rk_pc (pc' := 80) rfl ?_
          refine rk_rn26 4 dX11_join_80 rfl (by first | decide | assumption | omega) ?_
          refine rk_icmp_gt 87 dX11_join_81 (by decide) (fun qz81 => ?_) (fun qz81 => ?_)
          · skip
            refine rk_aload_n 0 dX11_join_87 rfl rfl ?_
            refine rk_cVv (cX11_record_s hu hu6) rk_eX11_record rfl ⟨rfl, rfl⟩ rk_kX11_54 dX11_join_88 rfl (by decide) (Nat.le_of_ble_eq_true rfl) ⟨Nat.le_refl _, Nat.le_refl _⟩ (fun Iz1 Rz1 hz1 => ?_)
            obtain ⟨qhz1, eIz1⟩ := hz1
            obtain rfl := qhz1.symm
            have h26z : Iz1 26 = I 26 := by rw [eIz1, h26]
            refine rk_iload_n 1 dX11_join_91 rfl rfl ?_
            refine rk_iload_n 2 dX11_join_92 rfl rfl ?_
            refine rk_icmp_ge 100 dX11_join_93 (by decide) (fun qz93 => ?_) (fun qz93 => ?_)
            · skip
              exact absurd hlt (Int32.not_lt.mpr qz93)
            · skip
              refine rk_iload_n 1 dX11_join_96 rfl rfl ?_
              refine rk_pc (pc' := 97) rfl ?_
              refine rk_goto 101 dX11_join_97 (by decide) ?_
              refine rk_istore_n 3 (ls' := [(3, _), (0, _), (1, _), (2, _)]) dX11_join_101 rfl (by decide) rfl ?_
              refine rk_iload_n 1 dX11_join_102 rfl rfl ?_
              refine rk_iload_n 2 dX11_join_103 rfl rfl ?_
              refine rk_icmp_ge 111 dX11_join_104 (by decide) (fun qz104 => ?_) (fun qz104 => ?_)
              · skip
                exact absurd hlt (Int32.not_lt.mpr qz104)
              · skip
                refine rk_iload_n 2 dX11_join_107 rfl rfl ?_
                refine rk_goto 112 dX11_join_108 (by decide) ?_
                refine rk_pc (pc' := 112) rfl ?_
                refine rk_istore (ls' := [(4, _), (3, _), (0, _), (1, _), (2, _)]) dX11_join_112 (by decide) rfl ?_
                refine rk_bipush 50 dX11_join_114 (by decide) ?_
                refine rk_bipush 7 dX11_join_116 (by decide) ?_
                refine rk_iload_n 3 dX11_join_118 rfl rfl ?_
                refine rk_imul dX11_join_119 ?_
                refine rk_iadd dX11_join_120 ?_
                refine rk_pc (pc' := 121) rfl ?_
                refine rk_istore (ls' := [(5, _), (4, _), (3, _), (0, _), (1, _), (2, _)]) dX11_join_121 (by decide) rfl ?_
                refine rk_aload_n 0 dX11_join_123 rfl rfl ?_
                refine rk_g12_0 rk_kX11_7 dX11_join_124 ?_
                refine rk_iload dX11_join_127 rfl ?_
                refine rk_iconst 3 dX11_join_129 (by decide) ?_
                refine rk_iadd dX11_join_130 ?_
                refine rk_pc (pc' := 131) rfl ?_
                refine rk_dup2 dX11_join_131 rfl rfl ?_
                refine rk_rn26 (50 + 7 * p + 3) dX11_join_132 (by first | rfl | decide | assumption | (simp only [rk_lit, nI_add, pk_mul, nI_1]; done) | (simp only [rk_lit, nI_add, pk_mul, nI_1]; congr 1; omega)) (by first | decide | assumption | omega) ?_
                rw [h26z]
                refine rk_aload_n 0 dX11_join_133 rfl rfl ?_
                refine rk_iload dX11_join_134 rfl ?_
                refine rk_iconst 3 dX11_join_136 (by decide) ?_
                refine rk_cVp (cX11_ofPiece_s q 3 rfl rfl (by omega) (by decide)) rk_eX11_ofPiece rfl ⟨rfl, rfl⟩ rk_kX11_91 dX11_join_137 rfl (by decide) (Nat.le_of_ble_eq_true rfl) ⟨Nat.le_refl _, Nat.le_refl _⟩ ?_
                rw [Nat.add_zero, h26z]
                refine rk_pc (pc' := 140) rfl ?_
                refine rk_aload_n 0 dX11_join_140 rfl rfl ?_
                refine rk_g12_0 rk_kX11_7 dX11_join_141 ?_
                refine rk_iconst 4 dX11_join_144 (by decide) ?_
                refine rk_rn26 4 dX11_join_145 rfl (by first | decide | assumption | omega) ?_
                rw [h26z]
                refine rk_isub dX11_join_146 ?_
                refine rk_iadd dX11_join_147 ?_
                refine rk_pc (pc' := 148) rfl ?_
                refine rk_sn26 (50 + 7 * p + 3) dX11_join_148 (by first | rfl | decide | assumption | (simp only [rk_lit, nI_add, pk_mul, nI_1]; done) | (simp only [rk_lit, nI_add, pk_mul, nI_1]; congr 1; omega)) (by first | decide | assumption | omega) (fun Iz2 eIz2 => ?_)
                have sz2 := rk_ufs eIz2
                have nz2 := rk_ufn eIz2
                have pz2 := md_c1 eIz2
                refine rk_aload_n 0 dX11_join_149 rfl rfl ?_
                refine rk_g12_0 rk_kX11_7 dX11_join_150 ?_
                refine rk_iload dX11_join_153 rfl ?_
                refine rk_iconst 4 dX11_join_155 (by decide) ?_
                refine rk_iadd dX11_join_156 ?_
                refine rk_pc (pc' := 157) rfl ?_
                refine rk_dup2 dX11_join_157 rfl rfl ?_
                refine rk_rn26 (50 + 7 * p + 4) dX11_join_158 (by first | rfl | decide | assumption | (simp only [rk_lit, nI_add, pk_mul, nI_1]; done) | (simp only [rk_lit, nI_add, pk_mul, nI_1]; congr 1; omega)) (by first | decide | assumption | omega) ?_
                rw [nz2 (50 + 7 * p + 4) (by omega)]
                rw [h26z]
                refine rk_aload_n 0 dX11_join_159 rfl rfl ?_
                refine rk_iload dX11_join_160 rfl ?_
                refine rk_iconst 4 dX11_join_162 (by decide) ?_
                refine rk_cVp (cX11_ofPiece_s q 4 rfl rfl (by omega) (by decide)) rk_eX11_ofPiece rfl ⟨rfl, rfl⟩ rk_kX11_91 dX11_join_163 rfl (by decide) (Nat.le_of_ble_eq_true rfl) ⟨Nat.le_refl _, Nat.le_refl _⟩ ?_
                rw [nz2 (50 + 7 * q + 4) (by omega), h26z]
                refine rk_pc (pc' := 166) rfl ?_
                refine rk_iadd dX11_join_166 ?_
                refine rk_sn26 (50 + 7 * p + 4) dX11_join_167 (by first | rfl | decide | assumption | (simp only [rk_lit, nI_add, pk_mul, nI_1]; done) | (simp only [rk_lit, nI_add, pk_mul, nI_1]; congr 1; omega)) (by first | decide | assumption | omega) (fun Iz3 eIz3 => ?_)
                have sz3 := rk_ufs eIz3
                have nz3 := rk_ufn eIz3
                have pz3 := md_ch pz2 eIz3
                refine rk_aload_n 0 dX11_join_168 rfl rfl ?_
                refine rk_g12_0 rk_kX11_7 dX11_join_169 ?_
                refine rk_iload dX11_join_172 rfl ?_
                refine rk_iconst 5 dX11_join_174 (by decide) ?_
                refine rk_pc (pc' := 175) rfl ?_
                refine rk_iadd dX11_join_175 ?_
                refine rk_aload_n 0 dX11_join_176 rfl rfl ?_
                refine rk_iload dX11_join_177 rfl ?_
                refine rk_iconst 5 dX11_join_179 (by decide) ?_
                refine rk_cVp (cX11_ofPiece_s q 5 rfl rfl (by omega) (by decide)) rk_eX11_ofPiece rfl ⟨rfl, rfl⟩ rk_kX11_91 dX11_join_180 rfl (by decide) (Nat.le_of_ble_eq_true rfl) ⟨Nat.le_refl _, Nat.le_refl _⟩ ?_
                rw [nz3 (50 + 7 * q + 5) (by omega), nz2 (50 + 7 * q + 5) (by omega), h26z]
                refine rk_aload_n 0 dX11_join_183 rfl rfl ?_
                refine rk_pc (pc' := 184) rfl ?_
                refine rk_g12_0 rk_kX11_7 dX11_join_184 ?_
                refine rk_iload dX11_join_187 rfl ?_
                refine rk_iconst 5 dX11_join_189 (by decide) ?_
                refine rk_iadd dX11_join_190 ?_
                refine rk_rn26 (50 + 7 * p + 5) dX11_join_191 (by first | rfl | decide | assumption | (simp only [rk_lit, nI_add, pk_mul, nI_1]; done) | (simp only [rk_lit, nI_add, pk_mul, nI_1]; congr 1; omega)) (by first | decide | assumption | omega) ?_
                rw [nz3 (50 + 7 * p + 5) (by omega), nz2 (50 + 7 * p + 5) (by omega)]
                rw [h26z]
                refine rk_icmp_ge 205 dX11_join_192 (by decide) (fun qz192 => ?_) (fun qz192 => ?_)
                · skip
                  refine rk_aload_n 0 dX11_join_205 rfl rfl ?_
                  refine rk_pc (pc' := 206) rfl ?_
                  refine rk_g12_0 rk_kX11_7 dX11_join_206 ?_
                  refine rk_iload dX11_join_209 rfl ?_
                  refine rk_iconst 5 dX11_join_211 (by decide) ?_
                  refine rk_iadd dX11_join_212 ?_
                  refine rk_rn26 (50 + 7 * p + 5) dX11_join_213 (by first | rfl | decide | assumption | (simp only [rk_lit, nI_add, pk_mul, nI_1]; done) | (simp only [rk_lit, nI_add, pk_mul, nI_1]; congr 1; omega)) (by first | decide | assumption | omega) ?_
                  rw [nz3 (50 + 7 * p + 5) (by omega), nz2 (50 + 7 * p + 5) (by omega)]
                  rw [h26z]
                  refine rk_sn26 (50 + 7 * p + 5) dX11_join_214 (by first | rfl | decide | assumption | (simp only [rk_lit, nI_add, pk_mul, nI_1]; done) | (simp only [rk_lit, nI_add, pk_mul, nI_1]; congr 1; omega)) (by first | decide | assumption | omega) (fun Iz4 eIz4 => ?_)
                  have sz4 := rk_ufs eIz4
                  have nz4 := rk_ufn eIz4
                  have pz4 := md_ch pz3 eIz4
                  refine rk_pc (pc' := 215) rfl ?_
                  refine rk_aload_n 0 dX11_join_215 rfl rfl ?_
                  refine rk_g12_0 rk_kX11_7 dX11_join_216 ?_
                  refine rk_iload dX11_join_219 rfl ?_
                  refine rk_bipush 6 dX11_join_221 (by decide) ?_
                  refine rk_iadd dX11_join_223 ?_
                  refine rk_dup2 dX11_join_224 rfl rfl ?_
                  refine rk_pc (pc' := 225) rfl ?_
                  refine rk_rn26 (50 + 7 * p + 6) dX11_join_225 (by first | rfl | decide | assumption | (simp only [rk_lit, nI_add, pk_mul, nI_1]; done) | (simp only [rk_lit, nI_add, pk_mul, nI_1]; congr 1; omega)) (by first | decide | assumption | omega) ?_
                  rw [nz4 (50 + 7 * p + 6) (by omega), nz3 (50 + 7 * p + 6) (by omega), nz2 (50 + 7 * p + 6) (by omega)]
                  rw [h26z]
                  refine rk_aload_n 0 dX11_join_226 rfl rfl ?_
                  refine rk_iload dX11_join_227 rfl ?_
                  refine rk_bipush 6 dX11_join_229 (by decide) ?_
                  refine rk_cVp (cX11_ofPiece_s q 6 rfl rfl (by omega) (by decide)) rk_eX11_ofPiece rfl ⟨rfl, rfl⟩ rk_kX11_91 dX11_join_231 rfl (by decide) (Nat.le_of_ble_eq_true rfl) ⟨Nat.le_refl _, Nat.le_refl _⟩ ?_
                  rw [nz4 (50 + 7 * q + 6) (by omega), nz3 (50 + 7 * q + 6) (by omega), nz2 (50 + 7 * q + 6) (by omega), h26z]
                  refine rk_iconst 1 dX11_join_234 (by decide) ?_
                  refine rk_pc (pc' := 235) rfl ?_
                  refine rk_iadd dX11_join_235 ?_
                  refine rk_iadd dX11_join_236 ?_
                  refine rk_sn26 (50 + 7 * p + 6) dX11_join_237 (by first | rfl | decide | assumption | (simp only [rk_lit, nI_add, pk_mul, nI_1]; done) | (simp only [rk_lit, nI_add, pk_mul, nI_1]; congr 1; omega)) (by first | decide | assumption | omega) (fun Iz5 eIz5 => ?_)
                  have sz5 := rk_ufs eIz5
                  have nz5 := rk_ufn eIz5
                  have pz5 := md_ch pz4 eIz5
                  refine rk_aload_n 0 dX11_join_238 rfl rfl ?_
                  refine rk_iload dX11_join_239 rfl ?_
                  refine rk_cVv (cX11_dropPiece_s rfl hc hq (by rw [nz5 (12) (by omega), nz4 (12) (by omega), nz3 (12) (by omega), nz2 (12) (by omega), h26z]; exact h12)) rk_eX11_dropPiece rfl ⟨rfl, rfl⟩ rk_kX11_94 dX11_join_241 rfl (by decide) (Nat.le_of_ble_eq_true rfl) ⟨Nat.le_refl _, Nat.le_refl _⟩ (fun Iz6 Rz6 hz6 => ?_)
                  obtain ⟨qhz6, eIz6⟩ := hz6
                  obtain rfl := qhz6.symm
                  refine rk_pc (pc' := 244) rfl ?_
                  refine rk_iload_n 3 dX11_join_244 rfl rfl ?_
                  refine rk_iretJ dX11_join_245 rfl rfl ?_
                  rw [show sp_join (I 26 (R 12 m 0)) (nI p) (nI q) = (nI p, some (sp_gone (sp_joinN (I 26 (R 12 m 0)) p q) 12 50 q)) from (if_pos hok).trans ((if_pos (by rw [clp, clq]; exact ⟨hlk, Int32.not_le.mp qz66, qz81⟩)).trans ((if_pos hlt).trans (by rw [clp, clq])))]
                  refine ⟨rfl, rfl, ?_⟩
                  have e2 : Iz5 = md_a (md_rec I R m) 26 (R 12 m 0) (sp_joinN (I 26 (R 12 m 0)) p q) := by rw [pz5, eIz1, h26, sp_joinN]; first | rw [if_pos (Int32.not_le.mp qz192)] | rw [if_neg (Int32.not_lt.mpr qz192)]
                  rw [eIz6, e2, md_aa, md_as]
                  rfl
                · skip
                  refine rk_aload_n 0 dX11_join_195 rfl rfl ?_
                  refine rk_iload dX11_join_196 rfl ?_
                  refine rk_iconst 5 dX11_join_198 (by decide) ?_
                  refine rk_cVp (cX11_ofPiece_s q 5 rfl rfl (by omega) (by decide)) rk_eX11_ofPiece rfl ⟨rfl, rfl⟩ rk_kX11_91 dX11_join_199 rfl (by decide) (Nat.le_of_ble_eq_true rfl) ⟨Nat.le_refl _, Nat.le_refl _⟩ ?_
                  rw [nz3 (50 + 7 * q + 5) (by omega), nz2 (50 + 7 * q + 5) (by omega), h26z]
                  refine rk_goto 214 dX11_join_202 (by decide) ?_
                  refine rk_pc (pc' := 214) rfl ?_
                  refine rk_sn26 (50 + 7 * p + 5) dX11_join_214 (by first | rfl | decide | assumption | (simp only [rk_lit, nI_add, pk_mul, nI_1]; done) | (simp only [rk_lit, nI_add, pk_mul, nI_1]; congr 1; omega)) (by first | decide | assumption | omega) (fun Iz4 eIz4 => ?_)
                  have sz4 := rk_ufs eIz4
                  have nz4 := rk_ufn eIz4
                  have pz4 := md_ch pz3 eIz4
                  refine rk_aload_n 0 dX11_join_215 rfl rfl ?_
                  refine rk_g12_0 rk_kX11_7 dX11_join_216 ?_
                  refine rk_iload dX11_join_219 rfl ?_
                  refine rk_bipush 6 dX11_join_221 (by decide) ?_
                  refine rk_iadd dX11_join_223 ?_
                  refine rk_pc (pc' := 224) rfl ?_
                  refine rk_dup2 dX11_join_224 rfl rfl ?_
                  refine rk_rn26 (50 + 7 * p + 6) dX11_join_225 (by first | rfl | decide | assumption | (simp only [rk_lit, nI_add, pk_mul, nI_1]; done) | (simp only [rk_lit, nI_add, pk_mul, nI_1]; congr 1; omega)) (by first | decide | assumption | omega) ?_
                  rw [nz4 (50 + 7 * p + 6) (by omega), nz3 (50 + 7 * p + 6) (by omega), nz2 (50 + 7 * p + 6) (by omega)]
                  rw [h26z]
                  refine rk_aload_n 0 dX11_join_226 rfl rfl ?_
                  refine rk_iload dX11_join_227 rfl ?_
                  refine rk_bipush 6 dX11_join_229 (by decide) ?_
                  refine rk_cVp (cX11_ofPiece_s q 6 rfl rfl (by omega) (by decide)) rk_eX11_ofPiece rfl ⟨rfl, rfl⟩ rk_kX11_91 dX11_join_231 rfl (by decide) (Nat.le_of_ble_eq_true rfl) ⟨Nat.le_refl _, Nat.le_refl _⟩ ?_
                  rw [nz4 (50 + 7 * q + 6) (by omega), nz3 (50 + 7 * q + 6) (by omega), nz2 (50 + 7 * q + 6) (by omega), h26z]
                  refine rk_pc (pc' := 234) rfl ?_
                  refine rk_iconst 1 dX11_join_234 (by decide) ?_
                  refine rk_iadd dX11_join_235 ?_
                  refine rk_iadd dX11_join_236 ?_
                  refine rk_sn26 (50 + 7 * p + 6) dX11_join_237 (by first | rfl | decide | assumption | (simp only [rk_lit, nI_add, pk_mul, nI_1]; done) | (simp only [rk_lit, nI_add, pk_mul, nI_1]; congr 1; omega)) (by first | decide | assumption | omega) (fun Iz5 eIz5 => ?_)
                  have sz5 := rk_ufs eIz5
                  have nz5 := rk_ufn eIz5
                  have pz5 := md_ch pz4 eIz5
                  refine rk_aload_n 0 dX11_join_238 rfl rfl ?_
                  refine rk_iload dX11_join_239 rfl ?_
                  refine rk_pc (pc' := 241) rfl ?_
                  refine rk_cVv (cX11_dropPiece_s rfl hc hq (by rw [nz5 (12) (by omega), nz4 (12) (by omega), nz3 (12) (by omega), nz2 (12) (by omega), h26z]; exact h12)) rk_eX11_dropPiece rfl ⟨rfl, rfl⟩ rk_kX11_94 dX11_join_241 rfl (by decide) (Nat.le_of_ble_eq_true rfl) ⟨Nat.le_refl _, Nat.le_refl _⟩ (fun Iz6 Rz6 hz6 => ?_)
                  obtain ⟨qhz6, eIz6⟩ := hz6
                  obtain rfl := qhz6.symm
                  refine rk_iload_n 3 dX11_join_244 rfl rfl ?_
                  refine rk_iretJ dX11_join_245 rfl rfl ?_
                  rw [show sp_join (I 26 (R 12 m 0)) (nI p) (nI q) = (nI p, some (sp_gone (sp_joinN (I 26 (R 12 m 0)) p q) 12 50 q)) from (if_pos hok).trans ((if_pos (by rw [clp, clq]; exact ⟨hlk, Int32.not_le.mp qz66, qz81⟩)).trans ((if_pos hlt).trans (by rw [clp, clq])))]
                  refine ⟨rfl, rfl, ?_⟩
                  have e2 : Iz5 = md_a (md_rec I R m) 26 (R 12 m 0) (sp_joinN (I 26 (R 12 m 0)) p q) := by rw [pz5, eIz1, h26, sp_joinN]; first | rw [if_pos (Int32.not_le.mp qz192)] | rw [if_neg (Int32.not_lt.mpr qz192)]
                  rw [eIz6, e2, md_aa, md_as]
                  rfl
          · skip
            refine rk_bipush (-5) dX11_join_84 (by decide) ?_
            refine rk_iretJ dX11_join_86 rfl rfl ?_
            rw [herr (by first | exact fun z => Int32.not_lt.mpr qz66 z.2.1 | exact fun z => qz81 z.2.2)]
            exact ⟨rfl, rfl, rfl⟩
      · skip
        exact absurd (by decide) qz27
    · have hlt : ¬ nI p < nI q := Int32.not_lt.mpr (nI_le hpq (by omega))
      refine rk_iload_n 3 dX11_join_25 rfl rfl ?_
      refine rk_iconst 3 dX11_join_26 (by decide) ?_
      refine rk_icmp_ge 54 dX11_join_27 (by decide) (fun qz27 => ?_) (fun qz27 => ?_)
      · skip
        refine rk_aload_n 0 dX11_join_54 rfl rfl ?_
        refine rk_iload_n 1 dX11_join_55 rfl rfl ?_
        refine rk_iconst 3 dX11_join_56 (by decide) ?_
        refine rk_cVp (cX11_ofPiece_s p 3 rfl rfl (by omega) (by decide)) rk_eX11_ofPiece rfl ⟨rfl, rfl⟩ rk_kX11_91 dX11_join_57 rfl (by decide) (Nat.le_of_ble_eq_true rfl) ⟨Nat.le_refl _, Nat.le_refl _⟩ ?_
        refine rk_pc (pc' := 60) rfl ?_
        refine rk_aload_n 0 dX11_join_60 rfl rfl ?_
        refine rk_g12_0 rk_kX11_7 dX11_join_61 ?_
        refine rk_iconst 4 dX11_join_64 (by decide) ?_
        refine rk_rn26 4 dX11_join_65 rfl (by first | decide | assumption | omega) ?_
        refine rk_icmp_le 84 dX11_join_66 (by decide) (fun qz66 => ?_) (fun qz66 => ?_)
        · skip
          refine rk_bipush (-5) dX11_join_84 (by decide) ?_
          refine rk_iretJ dX11_join_86 rfl rfl ?_
          rw [herr (by first | exact fun z => Int32.not_lt.mpr qz66 z.2.1 | exact fun z => qz81 z.2.2)]
          exact ⟨rfl, rfl, rfl⟩
        · skip
          refine rk_aload_n 0 dX11_join_69 rfl rfl ?_
          refine rk_pc (pc' := 70) rfl ?_
          refine rk_iload_n 2 dX11_join_70 rfl rfl ?_
          refine rk_iconst 3 dX11_join_71 (by decide) ?_
          refine rk_cVp (cX11_ofPiece_s q 3 rfl rfl (by omega) (by decide)) rk_eX11_ofPiece rfl ⟨rfl, rfl⟩ rk_kX11_91 dX11_join_72 rfl (by decide) (Nat.le_of_ble_eq_true rfl) ⟨Nat.le_refl _, Nat.le_refl _⟩ ?_
          refine rk_aload_n 0 dX11_join_75 rfl rfl ?_
          refine rk_g12_0 rk_kX11_7 dX11_join_76 ?_
          refine rk_iconst 4 dX11_join_79 (by decide) ?_
          refine rk_pc (pc' := 80) rfl ?_
          refine rk_rn26 4 dX11_join_80 rfl (by first | decide | assumption | omega) ?_
          refine rk_icmp_gt 87 dX11_join_81 (by decide) (fun qz81 => ?_) (fun qz81 => ?_)
          · skip
            refine rk_aload_n 0 dX11_join_87 rfl rfl ?_
            refine rk_cVv (cX11_record_s hu hu6) rk_eX11_record rfl ⟨rfl, rfl⟩ rk_kX11_54 dX11_join_88 rfl (by decide) (Nat.le_of_ble_eq_true rfl) ⟨Nat.le_refl _, Nat.le_refl _⟩ (fun Iz1 Rz1 hz1 => ?_)
            obtain ⟨qhz1, eIz1⟩ := hz1
            obtain rfl := qhz1.symm
            have h26z : Iz1 26 = I 26 := by rw [eIz1, h26]
            refine rk_iload_n 1 dX11_join_91 rfl rfl ?_
            refine rk_iload_n 2 dX11_join_92 rfl rfl ?_
            refine rk_icmp_ge 100 dX11_join_93 (by decide) (fun qz93 => ?_) (fun qz93 => ?_)
            · skip
              refine rk_iload_n 2 dX11_join_100 rfl rfl ?_
              refine rk_pc (pc' := 101) rfl ?_
              refine rk_istore_n 3 (ls' := [(3, _), (0, _), (1, _), (2, _)]) dX11_join_101 rfl (by decide) rfl ?_
              refine rk_iload_n 1 dX11_join_102 rfl rfl ?_
              refine rk_iload_n 2 dX11_join_103 rfl rfl ?_
              refine rk_icmp_ge 111 dX11_join_104 (by decide) (fun qz104 => ?_) (fun qz104 => ?_)
              · skip
                refine rk_iload_n 1 dX11_join_111 rfl rfl ?_
                refine rk_istore (ls' := [(4, _), (3, _), (0, _), (1, _), (2, _)]) dX11_join_112 (by decide) rfl ?_
                refine rk_bipush 50 dX11_join_114 (by decide) ?_
                refine rk_pc (pc' := 116) rfl ?_
                refine rk_bipush 7 dX11_join_116 (by decide) ?_
                refine rk_iload_n 3 dX11_join_118 rfl rfl ?_
                refine rk_imul dX11_join_119 ?_
                refine rk_iadd dX11_join_120 ?_
                refine rk_istore (ls' := [(5, _), (4, _), (3, _), (0, _), (1, _), (2, _)]) dX11_join_121 (by decide) rfl ?_
                refine rk_aload_n 0 dX11_join_123 rfl rfl ?_
                refine rk_pc (pc' := 124) rfl ?_
                refine rk_g12_0 rk_kX11_7 dX11_join_124 ?_
                refine rk_iload dX11_join_127 rfl ?_
                refine rk_iconst 3 dX11_join_129 (by decide) ?_
                refine rk_iadd dX11_join_130 ?_
                refine rk_dup2 dX11_join_131 rfl rfl ?_
                refine rk_rn26 (50 + 7 * q + 3) dX11_join_132 (by first | rfl | decide | assumption | (simp only [rk_lit, nI_add, pk_mul, nI_1]; done) | (simp only [rk_lit, nI_add, pk_mul, nI_1]; congr 1; omega)) (by first | decide | assumption | omega) ?_
                rw [h26z]
                refine rk_pc (pc' := 133) rfl ?_
                refine rk_aload_n 0 dX11_join_133 rfl rfl ?_
                refine rk_iload dX11_join_134 rfl ?_
                refine rk_iconst 3 dX11_join_136 (by decide) ?_
                refine rk_cVp (cX11_ofPiece_s p 3 rfl rfl (by omega) (by decide)) rk_eX11_ofPiece rfl ⟨rfl, rfl⟩ rk_kX11_91 dX11_join_137 rfl (by decide) (Nat.le_of_ble_eq_true rfl) ⟨Nat.le_refl _, Nat.le_refl _⟩ ?_
                rw [Nat.add_zero, h26z]
                refine rk_aload_n 0 dX11_join_140 rfl rfl ?_
                refine rk_g12_0 rk_kX11_7 dX11_join_141 ?_
                refine rk_pc (pc' := 144) rfl ?_
                refine rk_iconst 4 dX11_join_144 (by decide) ?_
                refine rk_rn26 4 dX11_join_145 rfl (by first | decide | assumption | omega) ?_
                rw [h26z]
                refine rk_isub dX11_join_146 ?_
                refine rk_iadd dX11_join_147 ?_
                refine rk_sn26 (50 + 7 * q + 3) dX11_join_148 (by first | rfl | decide | assumption | (simp only [rk_lit, nI_add, pk_mul, nI_1]; done) | (simp only [rk_lit, nI_add, pk_mul, nI_1]; congr 1; omega)) (by first | decide | assumption | omega) (fun Iz2 eIz2 => ?_)
                have sz2 := rk_ufs eIz2
                have nz2 := rk_ufn eIz2
                have pz2 := md_c1 eIz2
                refine rk_aload_n 0 dX11_join_149 rfl rfl ?_
                refine rk_pc (pc' := 150) rfl ?_
                refine rk_g12_0 rk_kX11_7 dX11_join_150 ?_
                refine rk_iload dX11_join_153 rfl ?_
                refine rk_iconst 4 dX11_join_155 (by decide) ?_
                refine rk_iadd dX11_join_156 ?_
                refine rk_dup2 dX11_join_157 rfl rfl ?_
                refine rk_rn26 (50 + 7 * q + 4) dX11_join_158 (by first | rfl | decide | assumption | (simp only [rk_lit, nI_add, pk_mul, nI_1]; done) | (simp only [rk_lit, nI_add, pk_mul, nI_1]; congr 1; omega)) (by first | decide | assumption | omega) ?_
                rw [nz2 (50 + 7 * q + 4) (by omega)]
                rw [h26z]
                refine rk_pc (pc' := 159) rfl ?_
                refine rk_aload_n 0 dX11_join_159 rfl rfl ?_
                refine rk_iload dX11_join_160 rfl ?_
                refine rk_iconst 4 dX11_join_162 (by decide) ?_
                refine rk_cVp (cX11_ofPiece_s p 4 rfl rfl (by omega) (by decide)) rk_eX11_ofPiece rfl ⟨rfl, rfl⟩ rk_kX11_91 dX11_join_163 rfl (by decide) (Nat.le_of_ble_eq_true rfl) ⟨Nat.le_refl _, Nat.le_refl _⟩ ?_
                rw [nz2 (50 + 7 * p + 4) (by omega), h26z]
                refine rk_iadd dX11_join_166 ?_
                refine rk_sn26 (50 + 7 * q + 4) dX11_join_167 (by first | rfl | decide | assumption | (simp only [rk_lit, nI_add, pk_mul, nI_1]; done) | (simp only [rk_lit, nI_add, pk_mul, nI_1]; congr 1; omega)) (by first | decide | assumption | omega) (fun Iz3 eIz3 => ?_)
                have sz3 := rk_ufs eIz3
                have nz3 := rk_ufn eIz3
                have pz3 := md_ch pz2 eIz3
                refine rk_pc (pc' := 168) rfl ?_
                refine rk_aload_n 0 dX11_join_168 rfl rfl ?_
                refine rk_g12_0 rk_kX11_7 dX11_join_169 ?_
                refine rk_iload dX11_join_172 rfl ?_
                refine rk_iconst 5 dX11_join_174 (by decide) ?_
                refine rk_iadd dX11_join_175 ?_
                refine rk_aload_n 0 dX11_join_176 rfl rfl ?_
                refine rk_pc (pc' := 177) rfl ?_
                refine rk_iload dX11_join_177 rfl ?_
                refine rk_iconst 5 dX11_join_179 (by decide) ?_
                refine rk_cVp (cX11_ofPiece_s p 5 rfl rfl (by omega) (by decide)) rk_eX11_ofPiece rfl ⟨rfl, rfl⟩ rk_kX11_91 dX11_join_180 rfl (by decide) (Nat.le_of_ble_eq_true rfl) ⟨Nat.le_refl _, Nat.le_refl _⟩ ?_
                rw [nz3 (50 + 7 * p + 5) (by omega), nz2 (50 + 7 * p + 5) (by omega), h26z]
                refine rk_aload_n 0 dX11_join_183 rfl rfl ?_
                refine rk_g12_0 rk_kX11_7 dX11_join_184 ?_
                refine rk_iload dX11_join_187 rfl ?_
                refine rk_pc (pc' := 189) rfl ?_
                refine rk_iconst 5 dX11_join_189 (by decide) ?_
                refine rk_iadd dX11_join_190 ?_
                refine rk_rn26 (50 + 7 * q + 5) dX11_join_191 (by first | rfl | decide | assumption | (simp only [rk_lit, nI_add, pk_mul, nI_1]; done) | (simp only [rk_lit, nI_add, pk_mul, nI_1]; congr 1; omega)) (by first | decide | assumption | omega) ?_
                rw [nz3 (50 + 7 * q + 5) (by omega), nz2 (50 + 7 * q + 5) (by omega)]
                rw [h26z]
                refine rk_icmp_ge 205 dX11_join_192 (by decide) (fun qz192 => ?_) (fun qz192 => ?_)
                · skip
                  refine rk_aload_n 0 dX11_join_205 rfl rfl ?_
                  refine rk_g12_0 rk_kX11_7 dX11_join_206 ?_
                  refine rk_iload dX11_join_209 rfl ?_
                  refine rk_pc (pc' := 211) rfl ?_
                  refine rk_iconst 5 dX11_join_211 (by decide) ?_
                  refine rk_iadd dX11_join_212 ?_
                  refine rk_rn26 (50 + 7 * q + 5) dX11_join_213 (by first | rfl | decide | assumption | (simp only [rk_lit, nI_add, pk_mul, nI_1]; done) | (simp only [rk_lit, nI_add, pk_mul, nI_1]; congr 1; omega)) (by first | decide | assumption | omega) ?_
                  rw [nz3 (50 + 7 * q + 5) (by omega), nz2 (50 + 7 * q + 5) (by omega)]
                  rw [h26z]
                  refine rk_sn26 (50 + 7 * q + 5) dX11_join_214 (by first | rfl | decide | assumption | (simp only [rk_lit, nI_add, pk_mul, nI_1]; done) | (simp only [rk_lit, nI_add, pk_mul, nI_1]; congr 1; omega)) (by first | decide | assumption | omega) (fun Iz4 eIz4 => ?_)
                  have sz4 := rk_ufs eIz4
                  have nz4 := rk_ufn eIz4
                  have pz4 := md_ch pz3 eIz4
                  refine rk_aload_n 0 dX11_join_215 rfl rfl ?_
                  refine rk_g12_0 rk_kX11_7 dX11_join_216 ?_
                  refine rk_pc (pc' := 219) rfl ?_
                  refine rk_iload dX11_join_219 rfl ?_
                  refine rk_bipush 6 dX11_join_221 (by decide) ?_
                  refine rk_iadd dX11_join_223 ?_
                  refine rk_dup2 dX11_join_224 rfl rfl ?_
                  refine rk_rn26 (50 + 7 * q + 6) dX11_join_225 (by first | rfl | decide | assumption | (simp only [rk_lit, nI_add, pk_mul, nI_1]; done) | (simp only [rk_lit, nI_add, pk_mul, nI_1]; congr 1; omega)) (by first | decide | assumption | omega) ?_
                  rw [nz4 (50 + 7 * q + 6) (by omega), nz3 (50 + 7 * q + 6) (by omega), nz2 (50 + 7 * q + 6) (by omega)]
                  rw [h26z]
                  refine rk_aload_n 0 dX11_join_226 rfl rfl ?_
                  refine rk_pc (pc' := 227) rfl ?_
                  refine rk_iload dX11_join_227 rfl ?_
                  refine rk_bipush 6 dX11_join_229 (by decide) ?_
                  refine rk_cVp (cX11_ofPiece_s p 6 rfl rfl (by omega) (by decide)) rk_eX11_ofPiece rfl ⟨rfl, rfl⟩ rk_kX11_91 dX11_join_231 rfl (by decide) (Nat.le_of_ble_eq_true rfl) ⟨Nat.le_refl _, Nat.le_refl _⟩ ?_
                  rw [nz4 (50 + 7 * p + 6) (by omega), nz3 (50 + 7 * p + 6) (by omega), nz2 (50 + 7 * p + 6) (by omega), h26z]
                  refine rk_iconst 1 dX11_join_234 (by decide) ?_
                  refine rk_iadd dX11_join_235 ?_
                  refine rk_iadd dX11_join_236 ?_
                  refine rk_pc (pc' := 237) rfl ?_
                  refine rk_sn26 (50 + 7 * q + 6) dX11_join_237 (by first | rfl | decide | assumption | (simp only [rk_lit, nI_add, pk_mul, nI_1]; done) | (simp only [rk_lit, nI_add, pk_mul, nI_1]; congr 1; omega)) (by first | decide | assumption | omega) (fun Iz5 eIz5 => ?_)
                  have sz5 := rk_ufs eIz5
                  have nz5 := rk_ufn eIz5
                  have pz5 := md_ch pz4 eIz5
                  refine rk_aload_n 0 dX11_join_238 rfl rfl ?_
                  refine rk_iload dX11_join_239 rfl ?_
                  refine rk_cVv (cX11_dropPiece_s rfl hc hp (by rw [nz5 (12) (by omega), nz4 (12) (by omega), nz3 (12) (by omega), nz2 (12) (by omega), h26z]; exact h12)) rk_eX11_dropPiece rfl ⟨rfl, rfl⟩ rk_kX11_94 dX11_join_241 rfl (by decide) (Nat.le_of_ble_eq_true rfl) ⟨Nat.le_refl _, Nat.le_refl _⟩ (fun Iz6 Rz6 hz6 => ?_)
                  obtain ⟨qhz6, eIz6⟩ := hz6
                  obtain rfl := qhz6.symm
                  refine rk_iload_n 3 dX11_join_244 rfl rfl ?_
                  refine rk_iretJ dX11_join_245 rfl rfl ?_
                  rw [show sp_join (I 26 (R 12 m 0)) (nI p) (nI q) = (nI q, some (sp_gone (sp_joinN (I 26 (R 12 m 0)) q p) 12 50 p)) from (if_pos hok).trans ((if_pos (by rw [clp, clq]; exact ⟨hlk, Int32.not_le.mp qz66, qz81⟩)).trans ((if_neg hlt).trans (by rw [clp, clq])))]
                  refine ⟨rfl, rfl, ?_⟩
                  have e2 : Iz5 = md_a (md_rec I R m) 26 (R 12 m 0) (sp_joinN (I 26 (R 12 m 0)) q p) := by rw [pz5, eIz1, h26, sp_joinN]; first | rw [if_pos (Int32.not_le.mp qz192)] | rw [if_neg (Int32.not_lt.mpr qz192)]
                  rw [eIz6, e2, md_aa, md_as]
                  rfl
                · skip
                  refine rk_aload_n 0 dX11_join_195 rfl rfl ?_
                  refine rk_pc (pc' := 196) rfl ?_
                  refine rk_iload dX11_join_196 rfl ?_
                  refine rk_iconst 5 dX11_join_198 (by decide) ?_
                  refine rk_cVp (cX11_ofPiece_s p 5 rfl rfl (by omega) (by decide)) rk_eX11_ofPiece rfl ⟨rfl, rfl⟩ rk_kX11_91 dX11_join_199 rfl (by decide) (Nat.le_of_ble_eq_true rfl) ⟨Nat.le_refl _, Nat.le_refl _⟩ ?_
                  rw [nz3 (50 + 7 * p + 5) (by omega), nz2 (50 + 7 * p + 5) (by omega), h26z]
                  refine rk_goto 214 dX11_join_202 (by decide) ?_
                  refine rk_sn26 (50 + 7 * q + 5) dX11_join_214 (by first | rfl | decide | assumption | (simp only [rk_lit, nI_add, pk_mul, nI_1]; done) | (simp only [rk_lit, nI_add, pk_mul, nI_1]; congr 1; omega)) (by first | decide | assumption | omega) (fun Iz4 eIz4 => ?_)
                  have sz4 := rk_ufs eIz4
                  have nz4 := rk_ufn eIz4
                  have pz4 := md_ch pz3 eIz4
                  refine rk_aload_n 0 dX11_join_215 rfl rfl ?_
                  refine rk_pc (pc' := 216) rfl ?_
                  refine rk_g12_0 rk_kX11_7 dX11_join_216 ?_
                  refine rk_iload dX11_join_219 rfl ?_
                  refine rk_bipush 6 dX11_join_221 (by decide) ?_
                  refine rk_iadd dX11_join_223 ?_
                  refine rk_dup2 dX11_join_224 rfl rfl ?_
                  refine rk_rn26 (50 + 7 * q + 6) dX11_join_225 (by first | rfl | decide | assumption | (simp only [rk_lit, nI_add, pk_mul, nI_1]; done) | (simp only [rk_lit, nI_add, pk_mul, nI_1]; congr 1; omega)) (by first | decide | assumption | omega) ?_
                  rw [nz4 (50 + 7 * q + 6) (by omega), nz3 (50 + 7 * q + 6) (by omega), nz2 (50 + 7 * q + 6) (by omega)]
                  rw [h26z]
                  refine rk_pc (pc' := 226) rfl ?_
                  refine rk_aload_n 0 dX11_join_226 rfl rfl ?_
                  refine rk_iload dX11_join_227 rfl ?_
                  refine rk_bipush 6 dX11_join_229 (by decide) ?_
                  refine rk_cVp (cX11_ofPiece_s p 6 rfl rfl (by omega) (by decide)) rk_eX11_ofPiece rfl ⟨rfl, rfl⟩ rk_kX11_91 dX11_join_231 rfl (by decide) (Nat.le_of_ble_eq_true rfl) ⟨Nat.le_refl _, Nat.le_refl _⟩ ?_
                  rw [nz4 (50 + 7 * p + 6) (by omega), nz3 (50 + 7 * p + 6) (by omega), nz2 (50 + 7 * p + 6) (by omega), h26z]
                  refine rk_iconst 1 dX11_join_234 (by decide) ?_
                  refine rk_iadd dX11_join_235 ?_
                  refine rk_pc (pc' := 236) rfl ?_
                  refine rk_iadd dX11_join_236 ?_
                  refine rk_sn26 (50 + 7 * q + 6) dX11_join_237 (by first | rfl | decide | assumption | (simp only [rk_lit, nI_add, pk_mul, nI_1]; done) | (simp only [rk_lit, nI_add, pk_mul, nI_1]; congr 1; omega)) (by first | decide | assumption | omega) (fun Iz5 eIz5 => ?_)
                  have sz5 := rk_ufs eIz5
                  have nz5 := rk_ufn eIz5
                  have pz5 := md_ch pz4 eIz5
                  refine rk_aload_n 0 dX11_join_238 rfl rfl ?_
                  refine rk_iload dX11_join_239 rfl ?_
                  refine rk_cVv (cX11_dropPiece_s rfl hc hp (by rw [nz5 (12) (by omega), nz4 (12) (by omega), nz3 (12) (by omega), nz2 (12) (by omega), h26z]; exact h12)) rk_eX11_dropPiece rfl ⟨rfl, rfl⟩ rk_kX11_94 dX11_join_241 rfl (by decide) (Nat.le_of_ble_eq_true rfl) ⟨Nat.le_refl _, Nat.le_refl _⟩ (fun Iz6 Rz6 hz6 => ?_)
                  obtain ⟨qhz6, eIz6⟩ := hz6
                  obtain rfl := qhz6.symm
                  refine rk_iload_n 3 dX11_join_244 rfl rfl ?_
                  refine rk_pc (pc' := 245) rfl ?_
                  refine rk_iretJ dX11_join_245 rfl rfl ?_
                  rw [show sp_join (I 26 (R 12 m 0)) (nI p) (nI q) = (nI q, some (sp_gone (sp_joinN (I 26 (R 12 m 0)) q p) 12 50 p)) from (if_pos hok).trans ((if_pos (by rw [clp, clq]; exact ⟨hlk, Int32.not_le.mp qz66, qz81⟩)).trans ((if_neg hlt).trans (by rw [clp, clq])))]
                  refine ⟨rfl, rfl, ?_⟩
                  have e2 : Iz5 = md_a (md_rec I R m) 26 (R 12 m 0) (sp_joinN (I 26 (R 12 m 0)) q p) := by rw [pz5, eIz1, h26, sp_joinN]; first | rw [if_pos (Int32.not_le.mp qz192)] | rw [if_neg (Int32.not_lt.mpr qz192)]
                  rw [eIz6, e2, md_aa, md_as]
                  rfl
              · skip
                exact absurd (Int32.not_le.mp qz104) hlt
            · skip
              exact absurd (Int32.not_le.mp qz93) hlt
          · skip
            refine rk_bipush (-5) dX11_join_84 (by decide) ?_
            refine rk_iretJ dX11_join_86 rfl rfl ?_
            rw [herr (by first | exact fun z => Int32.not_lt.mpr qz66 z.2.1 | exact fun z => qz81 z.2.2)]
            exact ⟨rfl, rfl, rfl⟩
      · skip
        exact absurd (by decide) qz27
  | succ n ih =>
    intro k hk hj
    have hlt : ¬ nI 3 ≤ nI k := nI_ge (by omega) (by omega)
    refine rk_iload_n 3 dX11_join_25 rfl rfl ?_
    refine rk_iconst 3 dX11_join_26 (by decide) ?_
    refine rk_icmp_ge 54 dX11_join_27 (by decide) (fun qz27 => ?_) (fun qz27 => ?_)
    · skip
      exact absurd qz27 hlt
    · skip
      refine rk_aload_n 0 dX11_join_30 rfl rfl ?_
      refine rk_iload_n 1 dX11_join_31 rfl rfl ?_
      refine rk_iload_n 3 dX11_join_32 rfl rfl ?_
      refine rk_cVp (cX11_ofPiece_s p k rfl rfl (by omega) (by omega)) rk_eX11_ofPiece rfl ⟨rfl, rfl⟩ rk_kX11_91 dX11_join_33 rfl (by decide) (Nat.le_of_ble_eq_true rfl) ⟨Nat.le_refl _, Nat.le_refl _⟩ ?_
      refine rk_pc (pc' := 36) rfl ?_
      refine rk_aload_n 0 dX11_join_36 rfl rfl ?_
      refine rk_iload_n 2 dX11_join_37 rfl rfl ?_
      refine rk_iload_n 3 dX11_join_38 rfl rfl ?_
      refine rk_cVp (cX11_ofPiece_s q k rfl rfl (by omega) (by omega)) rk_eX11_ofPiece rfl ⟨rfl, rfl⟩ rk_kX11_91 dX11_join_39 rfl (by decide) (Nat.le_of_ble_eq_true rfl) ⟨Nat.le_refl _, Nat.le_refl _⟩ ?_
      refine rk_icmp_eq 48 dX11_join_42 (by decide) (fun qz42 => ?_) (fun qz42 => ?_)
      · skip
        refine rk_iinc 1 (ls' := [(3, _), (0, _), (1, _), (2, _)]) dX11_join_48 (by decide) rfl (by decide) rfl ?_
        refine rk_goto 25 dX11_join_51 (by decide) ?_
        refine rk_pc (pc' := 25) rfl ?_
        refine rk_ord [0, 1, 2, 3] (ls' := [(0, _), (1, _), (2, _), (3, _)]) rfl ?_
        rw [nI_1]
        exact ih (k + 1) (by omega) (fun j hj2 => by rcases Nat.lt_succ_iff_lt_or_eq.mp hj2 with g | rfl; exact hj j g; exact qz42)
      · skip
        refine rk_bipush (-5) dX11_join_45 (by decide) ?_
        refine rk_iretJ dX11_join_47 rfl rfl ?_
        rw [herr (fun z => qz42 (by rcases (by omega : k = 0 ∨ k = 1 ∨ k = 2) with rfl | rfl | rfl; exact z.1.1; exact z.1.2.1; exact z.1.2.2))]
        exact ⟨rfl, rfl, rfl⟩
theorem cX11_join_s {m u c : Nat} (hu : I 12 m 3 = nI u) (hu6 : u ≤ 6) (h12 : I 26 (R 12 m 0) 12 = nI c) (hc : c ≤ 24) (x y : Int32) : rk_J w l rk_mX11_join 3 [rk_a 12 m, rk_i x, rk_i y] Sh I R (md_Q I R m (sp_join (I 26 (R 12 m 0)) x y)) := by
  refine rk_bJ (ls := [(0, _), (1, _), (2, _)]) (by decide) rfl (Nat.le_of_ble_eq_true rfl) ?_
  refine rk_aload_n 0 dX11_join_0 rfl rfl ?_
  refine rk_iload_n 1 dX11_join_1 rfl rfl ?_
  refine rk_cVp (cX11_isPiece_s _) rk_eX11_isPiece rfl ⟨rfl, rfl⟩ rk_kX11_98 dX11_join_2 rfl (by decide) (Nat.le_of_ble_eq_true rfl) ⟨Nat.le_refl _, Nat.le_refl _⟩ ?_
  refine rk_if_eq 21 dX11_join_5 (by decide) (fun qz5 => ?_) (fun qz5 => ?_)
  · skip
    refine rk_iconst (-1) dX11_join_21 (by decide) ?_
    refine rk_iretJ dX11_join_22 rfl rfl ?_
    rw [show sp_join (I 26 (R 12 m 0)) x y = (-1, none) from if_neg (by first | exact fun z => sp_bf qz5 z.1 | exact fun z => sp_bf qz13 z.2.1 | exact fun z => z.2.2 qz18)]
    exact ⟨rfl, rfl, rfl⟩
  · skip
    refine rk_aload_n 0 dX11_join_8 rfl rfl ?_
    refine rk_iload_n 2 dX11_join_9 rfl rfl ?_
    refine rk_pc (pc' := 10) rfl ?_
    refine rk_cVp (cX11_isPiece_s _) rk_eX11_isPiece rfl ⟨rfl, rfl⟩ rk_kX11_98 dX11_join_10 rfl (by decide) (Nat.le_of_ble_eq_true rfl) ⟨Nat.le_refl _, Nat.le_refl _⟩ ?_
    refine rk_if_eq 21 dX11_join_13 (by decide) (fun qz13 => ?_) (fun qz13 => ?_)
    · skip
      refine rk_iconst (-1) dX11_join_21 (by decide) ?_
      refine rk_iretJ dX11_join_22 rfl rfl ?_
      rw [show sp_join (I 26 (R 12 m 0)) x y = (-1, none) from if_neg (by first | exact fun z => sp_bf qz5 z.1 | exact fun z => sp_bf qz13 z.2.1 | exact fun z => z.2.2 qz18)]
      exact ⟨rfl, rfl, rfl⟩
    · skip
      refine rk_iload_n 1 dX11_join_16 rfl rfl ?_
      refine rk_iload_n 2 dX11_join_17 rfl rfl ?_
      refine rk_icmp_ne 23 dX11_join_18 (by decide) (fun qz18 => ?_) (fun qz18 => ?_)
      · skip
        refine rk_iconst 0 dX11_join_23 (by decide) ?_
        refine rk_istore_n 3 (ls' := [(3, _), (0, _), (1, _), (2, _)]) dX11_join_24 rfl (by decide) rfl ?_
        refine rk_pc (pc' := 25) rfl ?_
        refine rk_ord [0, 1, 2, 3] (ls' := [(0, _), (1, _), (2, _), (3, _)]) rfl ?_
        obtain ⟨p, hp, rfl⟩ := sp_is_n h12 (by omega) (sp_bt qz5)
        obtain ⟨q, hq, rfl⟩ := sp_is_n h12 (by omega) (sp_bt qz13)
        exact cX11_join_l hu hu6 h12 hc hp hq (fun z => qz18 (by rw [z])) 3 0 rfl (fun j hj => by omega)
      · skip
        refine rk_iconst (-1) dX11_join_21 (by decide) ?_
        refine rk_iretJ dX11_join_22 rfl rfl ?_
        rw [show sp_join (I 26 (R 12 m 0)) x y = (-1, none) from if_neg (by first | exact fun z => sp_bf qz5 z.1 | exact fun z => sp_bf qz13 z.2.1 | exact fun z => z.2.2 qz18)]
        exact ⟨rfl, rfl, rfl⟩
end MQ1

