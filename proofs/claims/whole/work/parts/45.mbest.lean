section MB
variable {w : rk_W} {l : Launch} {Sh : rk_Sh} {I : rk_Mm} {R : rk_Rm}
def sp_bit (s o : Nat) : Prop := nI s >>> (nI o &&& 31) &&& 1 = 1
/-- the orders of the set s are filled, from order o on, n of them looked at -/
noncomputable def sp_tr (s : Nat) : Nat → Nat → (Nat → Int32) → (Nat → Int32)
  | 0, _, N => N
  | n + 1, o, N => sp_tr s n (o + 1) (@ite _ (sp_bit s o) (Classical.propDecidable _) (sp_cf o (sp_c N (220 + 7 * o + 3)) N).1 N)
/-- how many orders of the set -/
noncomputable def sp_nb (s : Nat) : Nat → Nat → Nat
  | 0, _ => 0
  | n + 1, o => sp_nb s n (o + 1) + @ite _ (sp_bit s o) (Classical.propDecidable _) 1 0
theorem sp_nb_le {s : Nat} : ∀ n o, sp_nb s n o ≤ n := by
  intro n
  induction n with
  | zero => intro o; exact Nat.le_refl _
  | succ n ih => intro o; simp only [sp_nb]; have := ih (o + 1); split <;> omega
/-- orders o .. o + n - 1 are well made, and pieces -/
def sp_ow (T : Int) (N : Nat → Int32) (o n : Nat) : Prop := (∃ c, sp_pv T N c) ∧ ∀ i, o ≤ i → i < o + n → sp_ov N i ∧ ∃ k, k < 2 ^ 20 ∧ N (220 + 7 * i + 3) = nI k
theorem sp_ow_cf {T : Int} {N : Nat → Int32} {o n k : Nat} (h : sp_ow T N o (n + 1)) (ho : o < 16) (hk : k < 2 ^ 20) (hn : N (220 + 7 * o + 3) = nI k) : sp_ow T (sp_cf o k N).1 (o + 1) n ∧ ∀ j, 340 ≤ j ∨ j = 13 → (sp_cf o k N).1 j = N j := by
  obtain ⟨⟨c, hv⟩, ha⟩ := h
  obtain ⟨h1, _⟩ := ha o (Nat.le_refl _) (by omega)
  obtain ⟨i1, ⟨c', _, i2⟩, i3, i4⟩ := sp_cf_inv ho k c N hk hv h1 hn
  refine ⟨⟨⟨c', i2⟩, fun i hi hi2 => ?_⟩, fun j hj => i1 j (by omega)⟩
  obtain ⟨⟨⟨g, hg, hg0⟩, hf⟩, kk, hkk, hkn⟩ := ha i (by omega) (by omega)
  exact ⟨⟨⟨g, hg, by rw [i1 _ (by omega)]; exact hg0⟩, by rw [i1 _ (by omega)]; exact hf⟩, kk, hkk, by rw [i1 _ (by omega)]; exact hkn⟩
theorem sp_ow_s {T : Int} {N : Nat → Int32} {o n : Nat} (h : sp_ow T N o (n + 1)) : sp_ow T N (o + 1) n := ⟨h.1, fun i hi hi2 => h.2 i (by omega) (by omega)⟩
theorem sp_tr_x {T : Int} {s : Nat} : ∀ n o N, o + n ≤ 16 → sp_ow T N o n → ∀ j, 340 ≤ j ∨ j = 13 → sp_tr s n o N j = N j := by
  intro n
  induction n with
  | zero => intro o N _ _ j _; rfl
  | succ n ih =>
    intro o N ho h j hj
    obtain ⟨k, hk, hkn⟩ := (h.2 o (Nat.le_refl _) (by omega)).2
    obtain ⟨g1, g2⟩ := sp_ow_cf h (by omega) hk hkn
    simp only [sp_tr]
    rw [sp_cN hkn (by omega)]
    by_cases hb : sp_bit s o
    · rw [if_pos hb, ih _ _ (by omega) g1 j hj, g2 j hj]
    · rw [if_neg hb, ih _ _ (by omega) (sp_ow_s h) j hj]
theorem cX11_bestSet_in {m many s : Nat} {T : Int} {x b mo fe : Int32} {G : List Frame → Array Value → State → State → Prop} (hm : many ≤ 10) (A : rk_Mm) (Xf : Nat → Int32) (nf : Nat) (hk : ∀ J : rk_Mm, J = md_a A 26 (R 12 m 0) Xf → rk_Wp w l rk_mX11_bestSet 6 0 0 G 103 [(0, rk_a 12 m), (1, rk_i x), (2, rk_i (nI many)), (3, rk_i b), (4, rk_i mo), (5, rk_i fe), (6, rk_i (nI s)), (7, rk_i (nI nf)), (8, rk_i (nI many))] [] (Sh, 0, 0) J R) : ∀ (n o k : Nat) (N : Nat → Int32) (J : rk_Mm), o + n = many → sp_ow T N o n → J = md_a A 26 (R 12 m 0) N → Xf = sp_tr s n o N → nf = k + sp_nb s n o → rk_Wp w l rk_mX11_bestSet 6 0 0 G 70 [(0, rk_a 12 m), (1, rk_i x), (2, rk_i (nI many)), (3, rk_i b), (4, rk_i mo), (5, rk_i fe), (6, rk_i (nI s)), (7, rk_i (nI k)), (8, rk_i (nI o))] [] (Sh, 0, 0) J R := by
  intro n
  induction n with
  | zero =>
    intro o k N J ho hw hJ hX hn
    obtain rfl : o = many := by omega
    obtain rfl : nf = k := by rw [hn]; rfl
    subst hX
    refine rk_iload dX11_bestSet_70 rfl ?_
    refine rk_iload_n 2 dX11_bestSet_72 rfl rfl ?_
    refine rk_icmp_ge 103 dX11_bestSet_73 (by decide) (fun qz73 => ?_) (fun qz73 => ?_)
    · skip
      exact hk _ hJ
    · skip
      exact absurd (nI_le (Nat.le_refl o) (by omega)) qz73
  | succ n ih =>
    intro o k N J ho hw hJ hX hn
    have hlt : ¬ nI many ≤ nI o := nI_ge (by omega) (by omega)
    have hJa : J 26 (R 12 m 0) = N := by rw [hJ, md_as]
    obtain ⟨q, hq, hqn⟩ := (hw.2 o (Nat.le_refl _) (by omega)).2
    obtain ⟨g1, g2⟩ := sp_ow_cf hw (by omega) hq hqn
    obtain ⟨c, hv⟩ := hw.1
    have hov := (hw.2 o (Nat.le_refl _) (by omega)).1
    refine rk_iload dX11_bestSet_70 rfl ?_
    refine rk_iload_n 2 dX11_bestSet_72 rfl rfl ?_
    refine rk_icmp_ge 103 dX11_bestSet_73 (by decide) (fun qz73 => ?_) (fun qz73 => ?_)
    · skip
      exact absurd qz73 hlt
    · skip
      refine rk_iload dX11_bestSet_76 rfl ?_
      refine rk_iload dX11_bestSet_78 rfl ?_
      refine rk_ishr dX11_bestSet_80 ?_
      refine rk_iconst 1 dX11_bestSet_81 (by decide) ?_
      refine rk_pc (pc' := 82) rfl ?_
      refine rk_iand dX11_bestSet_82 ?_
      refine rk_iconst 1 dX11_bestSet_83 (by decide) ?_
      refine rk_icmp_ne 97 dX11_bestSet_84 (by decide) (fun qz84 => ?_) (fun qz84 => ?_)
      · skip
        refine rk_iinc 1 (ls' := [(8, _), (0, _), (1, _), (2, _), (3, _), (4, _), (5, _), (6, _), (7, _)]) dX11_bestSet_97 (by decide) rfl (by decide) rfl ?_
        refine rk_goto 70 dX11_bestSet_100 (by decide) ?_
        refine rk_ord [0, 1, 2, 3, 4, 5, 6, 7, 8] (ls' := [(0, _), (1, _), (2, _), (3, _), (4, _), (5, _), (6, _), (7, _), (8, _)]) rfl ?_
        rw [nI_1]
        first | (rw [nI_1]; exact ih (o + 1) (k + 1) _ _ (by omega) g1 (by rw [eIz1, hJ, md_aa]) (by rw [hX]; simp only [sp_tr]; rw [if_pos (show sp_bit s o from qz84), sp_cN hqn (by omega)]) (by rw [hn]; simp only [sp_nb]; rw [if_pos (show sp_bit s o from qz84)]; omega)) | exact ih (o + 1) k _ _ (by omega) (sp_ow_s hw) hJ (by rw [hX]; simp only [sp_tr]; rw [if_neg (show ¬ sp_bit s o from qz84)]) (by rw [hn]; simp only [sp_nb]; rw [if_neg (show ¬ sp_bit s o from qz84)]; omega)
      · skip
        refine rk_aload_n 0 dX11_bestSet_87 rfl rfl ?_
        refine rk_iload dX11_bestSet_88 rfl ?_
        refine rk_pc (pc' := 90) rfl ?_
        refine rk_cVi (cX11_cutFor_s (T := T) (n := q) rfl (by omega) (by rw [hJa]; exact hv) (by rw [hJa]; exact hov) (by omega) (by rw [hJa]; exact hqn)) rk_eX11_cutFor rfl ⟨rfl, rfl⟩ rk_kX11_121 dX11_bestSet_90 rfl (by decide) (Nat.le_of_ble_eq_true rfl) ⟨Nat.le_refl _, Nat.le_refl _⟩ (fun xz1 Iz1 Rz1 hz1 => ?_)
        rw [hJa] at hz1
        obtain ⟨rfl, qhz1, eIz1⟩ := hz1
        obtain rfl := qhz1.symm
        refine rk_pop dX11_bestSet_93 rfl ?_
        refine rk_iinc 1 (ls' := [(7, _), (0, _), (1, _), (2, _), (3, _), (4, _), (5, _), (6, _), (8, _)]) dX11_bestSet_94 (by decide) rfl (by decide) rfl ?_
        refine rk_iinc 1 (ls' := [(8, _), (7, _), (0, _), (1, _), (2, _), (3, _), (4, _), (5, _), (6, _)]) dX11_bestSet_97 (by decide) rfl (by decide) rfl ?_
        refine rk_goto 70 dX11_bestSet_100 (by decide) ?_
        refine rk_ord [0, 1, 2, 3, 4, 5, 6, 7, 8] (ls' := [(0, _), (1, _), (2, _), (3, _), (4, _), (5, _), (6, _), (7, _), (8, _)]) rfl ?_
        rw [nI_1]
        first | (rw [nI_1]; exact ih (o + 1) (k + 1) _ _ (by omega) g1 (by rw [eIz1, hJ, md_aa]) (by rw [hX]; simp only [sp_tr]; rw [if_pos (show sp_bit s o from qz84), sp_cN hqn (by omega)]) (by rw [hn]; simp only [sp_nb]; rw [if_pos (show sp_bit s o from qz84)]; omega)) | exact ih (o + 1) k _ _ (by omega) (sp_ow_s hw) hJ (by rw [hX]; simp only [sp_tr]; rw [if_neg (show ¬ sp_bit s o from qz84)]) (by rw [hn]; simp only [sp_nb]; rw [if_neg (show ¬ sp_bit s o from qz84)]; omega)
noncomputable def sp_bst (N : Nat → Int32) (many s : Nat) (t : Nat × Int32 × Nat) : Nat × Int32 × Nat := @ite _ (t.2.1 < sp_tr s many 0 N 15 - N 15 ∨ (sp_tr s many 0 N 15 - N 15 = t.2.1 ∧ sp_nb s many 0 < t.2.2)) (Classical.propDecidable _) (s, sp_tr s many 0 N 15 - N 15, sp_nb s many 0) t
/-- the best of n sets from set s on -/
noncomputable def sp_bs (N : Nat → Int32) (many : Nat) : Nat → Nat → Nat × Int32 × Nat → Nat × Int32 × Nat
  | 0, _, t => t
  | n + 1, s, t => sp_bs N many n (s + 1) (sp_bst N many s t)
theorem sp_pow : ∀ m : Nat, m < 11 → (1 : Int32) <<< (nI m &&& 31) = nI (2 ^ m) := by decide +kernel
theorem sp_pow_le : ∀ m : Nat, m < 11 → 2 ^ m ≤ 1024 := by decide +kernel
noncomputable def sp_bk (K X : Nat → Int32) (N : Nat → Int32) : Prop := (∀ j, j < 340 → K j = N j) ∧ ∀ j, 340 ≤ j → X j = N j
theorem sp_bk_cp {K X N : Nat → Int32} (h : (∀ j, j < 340 → K j = N j) ∧ ∀ j, 340 ≤ j → X j = N j) : sp_cp X K 0 0 340 = N := by
  funext j
  simp only [sp_cp]
  by_cases hj : 0 ≤ j ∧ j < 0 + 340
  · rw [if_pos hj, show 0 + (j - 0) = j by omega]; exact h.1 j (by omega)
  · rw [if_neg hj]; exact h.2 j (by omega)
theorem cX11_bestSet_t {m many s n b : Nat} {x mo : Int32} {G : List Frame → Array Value → State → State → Prop} {N K : Nat → Int32} {t : Nat × Int32 × Nat} {A J2 : rk_Mm} (hm : many ≤ 10) (ha : J2 26 (R 12 m 0) = sp_tr s many 0 N) (hkk : J2 27 (R 12 m 1) = K) (hK : ∀ j, j < 340 → K j = N j) (hs : s + (n + 1) = 2 ^ many) (ht : t.2.2 ≤ 10) (hJ : J2 = md_a A 26 (R 12 m 0) (sp_tr s many 0 N)) (hb : (sp_bs N many (n + 1) s t).1 = b) (hmo : (sp_bs N many (n + 1) s t).2.1 = mo) (hk : ∀ t2 : Nat × Int32 × Nat, t2.2.2 ≤ 10 → (sp_bs N many n (s + 1) t2).1 = b → (sp_bs N many n (s + 1) t2).2.1 = mo → rk_Wp w l rk_mX11_bestSet 6 0 0 G 52 [(0, rk_a 12 m), (1, rk_i x), (2, rk_i (nI many)), (3, rk_i (nI t2.1)), (4, rk_i t2.2.1), (5, rk_i (nI t2.2.2)), (6, rk_i (nI (s + 1)))] [] (Sh, 0, 0) J2 R) : rk_Wp w l rk_mX11_bestSet 6 0 0 G 103 [(0, rk_a 12 m), (1, rk_i x), (2, rk_i (nI many)), (3, rk_i (nI t.1)), (4, rk_i t.2.1), (5, rk_i (nI t.2.2)), (6, rk_i (nI s)), (7, rk_i (nI (sp_nb s many 0))), (8, rk_i (nI many))] [] (Sh, 0, 0) J2 R := by
  have hnb := sp_nb_le (s := s) many 0
  have hp := sp_pow_le many (by omega)
  have hyes : (t.2.1 < sp_tr s many 0 N 15 - N 15 ∨ (sp_tr s many 0 N 15 - N 15 = t.2.1 ∧ sp_nb s many 0 < t.2.2)) → sp_bst N many s t = (s, sp_tr s many 0 N 15 - N 15, sp_nb s many 0) := fun h => if_pos h
  have hno : ¬ (t.2.1 < sp_tr s many 0 N 15 - N 15 ∨ (sp_tr s many 0 N 15 - N 15 = t.2.1 ∧ sp_nb s many 0 < t.2.2)) → sp_bst N many s t = t := fun h => if_neg h
  have e1 : sp_bs N many (n + 1) s t = sp_bs N many n (s + 1) (sp_bst N many s t) := rfl
  rw [e1] at hb hmo
  refine rk_aload_n 0 dX11_bestSet_103 rfl rfl ?_
  refine rk_g12_0 rk_kX11_7 dX11_bestSet_104 ?_
  refine rk_bipush 15 dX11_bestSet_107 (by decide) ?_
  refine rk_rn26 15 dX11_bestSet_109 rfl (by first | decide | assumption | omega) ?_
  rw [ha]
  refine rk_aload_n 0 dX11_bestSet_110 rfl rfl ?_
  refine rk_g12_1 rk_kX11_13 dX11_bestSet_111 ?_
  refine rk_pc (pc' := 114) rfl ?_
  refine rk_bipush 15 dX11_bestSet_114 (by decide) ?_
  refine rk_rn27 15 dX11_bestSet_116 rfl (by first | decide | assumption | omega) ?_
  rw [hkk, hK 15 (by omega)]
  refine rk_isub dX11_bestSet_117 ?_
  refine rk_istore (ls' := [(8, _), (0, _), (1, _), (2, _), (3, _), (4, _), (5, _), (6, _), (7, _)]) dX11_bestSet_118 (by decide) rfl ?_
  refine rk_iload dX11_bestSet_120 rfl ?_
  refine rk_iload dX11_bestSet_122 rfl ?_
  refine rk_pc (pc' := 124) rfl ?_
  refine rk_icmp_gt 141 dX11_bestSet_124 (by decide) (fun qz124 => ?_) (fun qz124 => ?_)
  · skip
    refine rk_iload dX11_bestSet_141 rfl ?_
    refine rk_istore_n 3 (ls' := [(3, _), (8, _), (0, _), (1, _), (2, _), (4, _), (5, _), (6, _), (7, _)]) dX11_bestSet_143 rfl (by decide) rfl ?_
    refine rk_iload dX11_bestSet_144 rfl ?_
    refine rk_istore (ls' := [(4, _), (3, _), (8, _), (0, _), (1, _), (2, _), (5, _), (6, _), (7, _)]) dX11_bestSet_146 (by decide) rfl ?_
    refine rk_iload dX11_bestSet_148 rfl ?_
    refine rk_istore (ls' := [(5, _), (4, _), (3, _), (8, _), (0, _), (1, _), (2, _), (6, _), (7, _)]) dX11_bestSet_150 (by decide) rfl ?_
    refine rk_pc (pc' := 152) rfl ?_
    refine rk_iinc 1 (ls' := [(6, _), (5, _), (4, _), (3, _), (8, _), (0, _), (1, _), (2, _), (7, _)]) dX11_bestSet_152 (by decide) rfl (by decide) rfl ?_
    refine rk_goto 52 dX11_bestSet_155 (by decide) ?_
    refine rk_ord [0, 1, 2, 3, 4, 5, 6] (ls' := [(0, _), (1, _), (2, _), (3, _), (4, _), (5, _), (6, _)]) rfl ?_
    rw [nI_1]
    first | (rw [hyes (Or.inl qz124)] at hb hmo; exact hk (s, sp_tr s many 0 N 15 - N 15, sp_nb s many 0) (by show sp_nb s many 0 ≤ 10; omega) hb hmo) | (rw [hyes (Or.inr ⟨qz131, (nI_ltI (by omega) (by omega)).mp (Int32.not_le.mp qz138)⟩)] at hb hmo; exact hk (s, sp_tr s many 0 N 15 - N 15, sp_nb s many 0) (by show sp_nb s many 0 ≤ 10; omega) hb hmo) | (rw [hno (fun z => z.elim qz124 (fun z => qz131 z.1))] at hb hmo; exact hk t ht hb hmo) | (rw [hno (fun z => z.elim qz124 (fun z => (Int32.not_lt.mpr qz138) ((nI_ltI (by omega) (by omega)).mpr z.2)))] at hb hmo; exact hk t ht hb hmo)
  · skip
    refine rk_iload dX11_bestSet_127 rfl ?_
    refine rk_iload dX11_bestSet_129 rfl ?_
    refine rk_icmp_ne 152 dX11_bestSet_131 (by decide) (fun qz131 => ?_) (fun qz131 => ?_)
    · skip
      refine rk_iinc 1 (ls' := [(6, _), (8, _), (0, _), (1, _), (2, _), (3, _), (4, _), (5, _), (7, _)]) dX11_bestSet_152 (by decide) rfl (by decide) rfl ?_
      refine rk_goto 52 dX11_bestSet_155 (by decide) ?_
      refine rk_pc (pc' := 52) rfl ?_
      refine rk_ord [0, 1, 2, 3, 4, 5, 6] (ls' := [(0, _), (1, _), (2, _), (3, _), (4, _), (5, _), (6, _)]) rfl ?_
      rw [nI_1]
      first | (rw [hyes (Or.inl qz124)] at hb hmo; exact hk (s, sp_tr s many 0 N 15 - N 15, sp_nb s many 0) (by show sp_nb s many 0 ≤ 10; omega) hb hmo) | (rw [hyes (Or.inr ⟨qz131, (nI_ltI (by omega) (by omega)).mp (Int32.not_le.mp qz138)⟩)] at hb hmo; exact hk (s, sp_tr s many 0 N 15 - N 15, sp_nb s many 0) (by show sp_nb s many 0 ≤ 10; omega) hb hmo) | (rw [hno (fun z => z.elim qz124 (fun z => qz131 z.1))] at hb hmo; exact hk t ht hb hmo) | (rw [hno (fun z => z.elim qz124 (fun z => (Int32.not_lt.mpr qz138) ((nI_ltI (by omega) (by omega)).mpr z.2)))] at hb hmo; exact hk t ht hb hmo)
    · skip
      refine rk_iload dX11_bestSet_134 rfl ?_
      refine rk_iload dX11_bestSet_136 rfl ?_
      refine rk_icmp_ge 152 dX11_bestSet_138 (by decide) (fun qz138 => ?_) (fun qz138 => ?_)
      · skip
        refine rk_iinc 1 (ls' := [(6, _), (8, _), (0, _), (1, _), (2, _), (3, _), (4, _), (5, _), (7, _)]) dX11_bestSet_152 (by decide) rfl (by decide) rfl ?_
        refine rk_goto 52 dX11_bestSet_155 (by decide) ?_
        refine rk_ord [0, 1, 2, 3, 4, 5, 6] (ls' := [(0, _), (1, _), (2, _), (3, _), (4, _), (5, _), (6, _)]) rfl ?_
        rw [nI_1]
        first | (rw [hyes (Or.inl qz124)] at hb hmo; exact hk (s, sp_tr s many 0 N 15 - N 15, sp_nb s many 0) (by show sp_nb s many 0 ≤ 10; omega) hb hmo) | (rw [hyes (Or.inr ⟨qz131, (nI_ltI (by omega) (by omega)).mp (Int32.not_le.mp qz138)⟩)] at hb hmo; exact hk (s, sp_tr s many 0 N 15 - N 15, sp_nb s many 0) (by show sp_nb s many 0 ≤ 10; omega) hb hmo) | (rw [hno (fun z => z.elim qz124 (fun z => qz131 z.1))] at hb hmo; exact hk t ht hb hmo) | (rw [hno (fun z => z.elim qz124 (fun z => (Int32.not_lt.mpr qz138) ((nI_ltI (by omega) (by omega)).mpr z.2)))] at hb hmo; exact hk t ht hb hmo)
      · skip
        refine rk_iload dX11_bestSet_141 rfl ?_
        refine rk_istore_n 3 (ls' := [(3, _), (8, _), (0, _), (1, _), (2, _), (4, _), (5, _), (6, _), (7, _)]) dX11_bestSet_143 rfl (by decide) rfl ?_
        refine rk_pc (pc' := 144) rfl ?_
        refine rk_iload dX11_bestSet_144 rfl ?_
        refine rk_istore (ls' := [(4, _), (3, _), (8, _), (0, _), (1, _), (2, _), (5, _), (6, _), (7, _)]) dX11_bestSet_146 (by decide) rfl ?_
        refine rk_iload dX11_bestSet_148 rfl ?_
        refine rk_istore (ls' := [(5, _), (4, _), (3, _), (8, _), (0, _), (1, _), (2, _), (6, _), (7, _)]) dX11_bestSet_150 (by decide) rfl ?_
        refine rk_iinc 1 (ls' := [(6, _), (5, _), (4, _), (3, _), (8, _), (0, _), (1, _), (2, _), (7, _)]) dX11_bestSet_152 (by decide) rfl (by decide) rfl ?_
        refine rk_goto 52 dX11_bestSet_155 (by decide) ?_
        refine rk_pc (pc' := 52) rfl ?_
        refine rk_ord [0, 1, 2, 3, 4, 5, 6] (ls' := [(0, _), (1, _), (2, _), (3, _), (4, _), (5, _), (6, _)]) rfl ?_
        rw [nI_1]
        first | (rw [hyes (Or.inl qz124)] at hb hmo; exact hk (s, sp_tr s many 0 N 15 - N 15, sp_nb s many 0) (by show sp_nb s many 0 ≤ 10; omega) hb hmo) | (rw [hyes (Or.inr ⟨qz131, (nI_ltI (by omega) (by omega)).mp (Int32.not_le.mp qz138)⟩)] at hb hmo; exact hk (s, sp_tr s many 0 N 15 - N 15, sp_nb s many 0) (by show sp_nb s many 0 ≤ 10; omega) hb hmo) | (rw [hno (fun z => z.elim qz124 (fun z => qz131 z.1))] at hb hmo; exact hk t ht hb hmo) | (rw [hno (fun z => z.elim qz124 (fun z => (Int32.not_lt.mpr qz138) ((nI_ltI (by omega) (by omega)).mpr z.2)))] at hb hmo; exact hk t ht hb hmo)
theorem cX11_bestSet_l {m many : Nat} {T : Int} {x : Int32} {G : List Frame → Array Value → State → State → Prop} (hm : many ≤ 10) (N K : Nat → Int32) (hw : sp_ow T N 0 many) (hK : ∀ j, j < 340 → K j = N j) (b : Nat) (mo : Int32) (A : rk_Mm) (hA : A 27 (R 12 m 1) = K) (hk : ∀ J : rk_Mm, (∃ X, J = md_a A 26 (R 12 m 0) X ∧ ∀ j, 340 ≤ j → X j = N j) → rk_Wp w l rk_mX11_bestSet 6 0 0 G 158 [(0, rk_a 12 m), (1, rk_i x), (2, rk_i (nI many)), (3, rk_i (nI b)), (4, rk_i mo)] [] (Sh, 0, 0) J R) : ∀ (n s : Nat) (t : Nat × Int32 × Nat) (J : rk_Mm) (X : Nat → Int32), s + n = 2 ^ many → t.2.2 ≤ 10 → J = md_a A 26 (R 12 m 0) X → (∀ j, 340 ≤ j → X j = N j) → (sp_bs N many n s t).1 = b → (sp_bs N many n s t).2.1 = mo → rk_Wp w l rk_mX11_bestSet 6 0 0 G 52 [(0, rk_a 12 m), (1, rk_i x), (2, rk_i (nI many)), (3, rk_i (nI t.1)), (4, rk_i t.2.1), (5, rk_i (nI t.2.2)), (6, rk_i (nI s))] [] (Sh, 0, 0) J R := by
  intro n
  induction n with
  | zero =>
    intro s t J X hs ht hJ hX hb hmo
    have hp := sp_pow_le many (by omega)
    obtain rfl : s = 2 ^ many := by omega
    subst hb
    subst hmo
    refine rk_iload dX11_bestSet_52 rfl ?_
    refine rk_iconst 1 dX11_bestSet_54 (by decide) ?_
    refine rk_iload_n 2 dX11_bestSet_55 rfl rfl ?_
    refine rk_ishl dX11_bestSet_56 ?_
    rw [sp_pow many (by omega)]
    refine rk_icmp_ge 158 dX11_bestSet_57 (by decide) (fun qz57 => ?_) (fun qz57 => ?_)
    · skip
      refine rk_ord [0, 1, 2, 3, 4] (ls' := [(0, _), (1, _), (2, _), (3, _), (4, _)]) rfl ?_
      exact hk _ ⟨X, hJ, hX⟩
    · skip
      exact absurd (nI_le (Nat.le_refl _) (by omega)) qz57
  | succ n ih =>
    intro s t J X hs ht hJ hX hb hmo
    have hp := sp_pow_le many (by omega)
    have hlt : ¬ nI (2 ^ many) ≤ nI s := nI_ge (by omega) (by omega)
    have hJa : J 26 (R 12 m 0) = X := by rw [hJ, md_as]
    have hJk : J 27 (R 12 m 1) = K := by rw [hJ, md_ac (by decide), hA]
    have hnb := sp_nb_le (s := s) many 0
    refine rk_iload dX11_bestSet_52 rfl ?_
    refine rk_iconst 1 dX11_bestSet_54 (by decide) ?_
    refine rk_iload_n 2 dX11_bestSet_55 rfl rfl ?_
    refine rk_ishl dX11_bestSet_56 ?_
    rw [sp_pow many (by omega)]
    refine rk_icmp_ge 158 dX11_bestSet_57 (by decide) (fun qz57 => ?_) (fun qz57 => ?_)
    · skip
      exact absurd qz57 hlt
    · skip
      refine rk_aload_n 0 dX11_bestSet_60 rfl rfl ?_
      refine rk_cVv (cX11_comeBack_s) rk_eX11_comeBack rfl ⟨rfl, rfl⟩ rk_kX11_143 dX11_bestSet_61 rfl (by decide) (Nat.le_of_ble_eq_true rfl) ⟨Nat.le_refl _, Nat.le_refl _⟩ (fun Iz1 Rz1 hz1 => ?_)
      rw [hJa, hJk, sp_bk_cp ⟨hK, hX⟩, hJ, md_aa] at hz1
      obtain ⟨qhz1, eIz1⟩ := hz1
      obtain rfl := qhz1.symm
      refine rk_pc (pc' := 64) rfl ?_
      refine rk_iconst 0 dX11_bestSet_64 (by decide) ?_
      refine rk_istore (ls' := [(7, _), (0, _), (1, _), (2, _), (3, _), (4, _), (5, _), (6, _)]) dX11_bestSet_65 (by decide) rfl ?_
      refine rk_iconst 0 dX11_bestSet_67 (by decide) ?_
      refine rk_istore (ls' := [(8, _), (7, _), (0, _), (1, _), (2, _), (3, _), (4, _), (5, _), (6, _)]) dX11_bestSet_68 (by decide) rfl ?_
      refine rk_ord [0, 1, 2, 3, 4, 5, 6, 7, 8] (ls' := [(0, _), (1, _), (2, _), (3, _), (4, _), (5, _), (6, _), (7, _), (8, _)]) rfl ?_
      refine cX11_bestSet_in hm A (sp_tr s many 0 N) (sp_nb s many 0) ?_ many 0 0 N _ (by omega) hw eIz1 rfl (by omega)
      intro J2 hJ2
      have hJ2a : J2 26 (R 12 m 0) = sp_tr s many 0 N := by rw [hJ2, md_as]
      have hJ2k : J2 27 (R 12 m 1) = K := by rw [hJ2, md_ac (by decide), hA]
      exact cX11_bestSet_t hm hJ2a hJ2k hK hs ht hJ2 hb hmo (fun t2 h2 hb2 hmo2 => ih (s + 1) t2 J2 _ (by omega) h2 hJ2 (fun j hj => sp_tr_x many 0 N (by omega) hw j (Or.inl hj)) hb2 hmo2)
noncomputable def sp_best (N : Nat → Int32) (c : Nat) (x : Int32) : Int32 := @ite _ (0 ≤ x ∧ x ≤ 1) (Classical.propDecidable _) (if x = 0 then nI (sp_bs N (min c 10) (2 ^ min c 10 - 1) 1 (0, 0, 0)).1 else (sp_bs N (min c 10) (2 ^ min c 10 - 1) 1 (0, 0, 0)).2.1) (-2)
theorem cX11_bestSet_s {m c oc : Nat} {T : Int} (hv : sp_pv T (I 26 (R 12 m 0)) c) (hoc : oc ≤ 16) (h13 : I 26 (R 12 m 0) 13 = nI oc) (hov : ∀ o, o < oc → sp_ov (I 26 (R 12 m 0)) o ∧ ∃ n, n < 2 ^ 20 ∧ I 26 (R 12 m 0) (220 + 7 * o + 3) = nI n) (x : Int32) : rk_J w l rk_mX11_bestSet 6 [rk_a 12 m, rk_i x] Sh I R (fun r I' R' => r = sp_best (I 26 (R 12 m 0)) oc x ∧ R' = R ∧ ∃ K, I' = md_a I 27 (R 12 m 1) K) := by
  have hgo : ∀ many : Nat, min oc 10 = many → (0 ≤ x ∧ x ≤ 1) → ∀ I1 : rk_Mm, I1 = md_a I 27 (R 12 m 1) (sp_cp (I 27 (R 12 m 1)) (I 26 (R 12 m 0)) 0 0 340) → rk_Wp w l rk_mX11_bestSet 6 0 0 (rk_GJ w Sh (fun r I' R' => r = sp_best (I 26 (R 12 m 0)) oc x ∧ R' = R ∧ ∃ K, I' = md_a I 27 (R 12 m 1) K)) 52 [(0, rk_a 12 m), (1, rk_i x), (2, rk_i (nI many)), (3, rk_i (nI 0)), (4, rk_i 0), (5, rk_i (nI 0)), (6, rk_i (nI 1))] [] (Sh, 0, 0) I1 R := by
    intro many hmin hx I1 hI1
    have hpos : 1 ≤ 2 ^ many := Nat.one_le_two_pow
    refine cX11_bestSet_l (T := T) (x := x) (by omega) (I 26 (R 12 m 0)) (sp_cp (I 27 (R 12 m 1)) (I 26 (R 12 m 0)) 0 0 340) ⟨⟨c, hv⟩, fun i _ h2 => hov i (by omega)⟩ (fun j hj => ?_) (sp_bs (I 26 (R 12 m 0)) many (2 ^ many - 1) 1 (0, 0, 0)).1 (sp_bs (I 26 (R 12 m 0)) many (2 ^ many - 1) 1 (0, 0, 0)).2.1 I1 (by rw [hI1, md_as]) ?_ (2 ^ many - 1) 1 (0, 0, 0) I1 (I 26 (R 12 m 0)) (by omega) (by decide) ?_ (fun _ _ => rfl) rfl rfl
    · simp only [sp_cp]
      rw [if_pos (by omega)]
      congr 1; omega
    · intro J hJ
      obtain ⟨X, hJ, hX⟩ := hJ
      have hJa : J 26 (R 12 m 0) = X := by rw [hJ, md_as]
      have hJk : J 27 (R 12 m 1) = sp_cp (I 27 (R 12 m 1)) (I 26 (R 12 m 0)) 0 0 340 := by rw [hJ, md_ac (by decide), hI1, md_as]
      have hback : sp_cp X (sp_cp (I 27 (R 12 m 1)) (I 26 (R 12 m 0)) 0 0 340) 0 0 340 = I 26 (R 12 m 0) := sp_bk_cp ⟨fun j hj => by
        simp only [sp_cp]
        rw [if_pos (by omega)]
        congr 1; omega, hX⟩
      have e9 : ∀ J : rk_Mm, J 26 (R 12 m 0) = I 26 (R 12 m 0) → md_a J 26 (R 12 m 0) (I 26 (R 12 m 0)) = J := fun J h => by rw [← h, md_self]
      refine rk_aload_n 0 dX11_bestSet_158 rfl rfl ?_
      refine rk_cVv (cX11_comeBack_s) rk_eX11_comeBack rfl ⟨rfl, rfl⟩ rk_kX11_143 dX11_bestSet_159 rfl (by decide) (Nat.le_of_ble_eq_true rfl) ⟨Nat.le_refl _, Nat.le_refl _⟩ (fun Iz1 Rz1 hz1 => ?_)
      rw [hJa, hJk, hback, hJ, md_aa, e9 I1 (by rw [hI1]; exact md_ac (show (26 : Nat) ≠ 27 by decide))] at hz1
      obtain ⟨qhz1, eIz1⟩ := hz1
      obtain rfl := qhz1.symm
      refine rk_iload_n 1 dX11_bestSet_162 rfl rfl ?_
      refine rk_if_ne 170 dX11_bestSet_163 (by decide) (fun qz163 => ?_) (fun qz163 => ?_)
      · skip
        refine rk_iload dX11_bestSet_170 rfl ?_
        refine rk_iretJ dX11_bestSet_172 rfl rfl ?_
        subst hmin
        refine ⟨?_, rfl, _, eIz1.trans hI1⟩
        first | exact ((if_pos hx).trans (if_pos qz163)).symm | exact ((if_pos hx).trans (if_neg qz163)).symm
      · skip
        refine rk_iload_n 3 dX11_bestSet_166 rfl rfl ?_
        refine rk_goto 172 dX11_bestSet_167 (by decide) ?_
        refine rk_pc (pc' := 172) rfl ?_
        refine rk_iretJ dX11_bestSet_172 rfl rfl ?_
        subst hmin
        refine ⟨?_, rfl, _, eIz1.trans hI1⟩
        first | exact ((if_pos hx).trans (if_pos qz163)).symm | exact ((if_pos hx).trans (if_neg qz163)).symm
    · have e9 : ∀ J : rk_Mm, J 26 (R 12 m 0) = I 26 (R 12 m 0) → md_a J 26 (R 12 m 0) (I 26 (R 12 m 0)) = J := fun J h => by rw [← h, md_self]
      exact (e9 I1 (by rw [hI1]; exact md_ac (show (26 : Nat) ≠ 27 by decide))).symm
  refine rk_bJ (ls := [(0, _), (1, _)]) (by decide) rfl (Nat.le_of_ble_eq_true rfl) ?_
  refine rk_iload_n 1 dX11_bestSet_0 rfl rfl ?_
  refine rk_iconst 0 dX11_bestSet_1 (by decide) ?_
  refine rk_iconst 1 dX11_bestSet_2 (by decide) ?_
  refine rk_cSp (cX11_in_s _ _ _) rk_eX11_in rfl rk_kX11_43 dX11_bestSet_3 rfl (by decide) (Nat.le_of_ble_eq_true rfl) ⟨Nat.le_refl _, Nat.le_refl _⟩ ?_
  refine rk_if_ne 12 dX11_bestSet_6 (by decide) (fun qz6 => ?_) (fun qz6 => ?_)
  · skip
    refine rk_aload_n 0 dX11_bestSet_12 rfl rfl ?_
    refine rk_cVv (cX11_keep_s) rk_eX11_keep rfl ⟨rfl, rfl⟩ rk_kX11_140 dX11_bestSet_13 rfl (by decide) (Nat.le_of_ble_eq_true rfl) ⟨Nat.le_refl _, Nat.le_refl _⟩ (fun Iz1 Rz1 hz1 => ?_)
    obtain ⟨qhz1, eIz1⟩ := hz1
    obtain rfl := qhz1.symm
    have h26z : Iz1 26 = I 26 := by rw [eIz1]; funext b; exact md_ac (by decide)
    refine rk_pc (pc' := 16) rfl ?_
    refine rk_aload_n 0 dX11_bestSet_16 rfl rfl ?_
    refine rk_g12_0 rk_kX11_7 dX11_bestSet_17 ?_
    refine rk_bipush 13 dX11_bestSet_20 (by decide) ?_
    refine rk_rn26 13 dX11_bestSet_22 rfl (by first | decide | assumption | omega) ?_
    rw [h26z, h13]
    refine rk_bipush 10 dX11_bestSet_23 (by decide) ?_
    refine rk_icmp_ge 38 dX11_bestSet_25 (by decide) (fun qz25 => ?_) (fun qz25 => ?_)
    · skip
      refine rk_bipush 10 dX11_bestSet_38 (by decide) ?_
      refine rk_pc (pc' := 40) rfl ?_
      refine rk_istore_n 2 (ls' := [(2, _), (0, _), (1, _)]) dX11_bestSet_40 rfl (by decide) rfl ?_
      refine rk_iconst 0 dX11_bestSet_41 (by decide) ?_
      refine rk_istore_n 3 (ls' := [(3, _), (2, _), (0, _), (1, _)]) dX11_bestSet_42 rfl (by decide) rfl ?_
      refine rk_iconst 0 dX11_bestSet_43 (by decide) ?_
      refine rk_istore (ls' := [(4, _), (3, _), (2, _), (0, _), (1, _)]) dX11_bestSet_44 (by decide) rfl ?_
      refine rk_iconst 0 dX11_bestSet_46 (by decide) ?_
      refine rk_pc (pc' := 47) rfl ?_
      refine rk_istore (ls' := [(5, _), (4, _), (3, _), (2, _), (0, _), (1, _)]) dX11_bestSet_47 (by decide) rfl ?_
      refine rk_iconst 1 dX11_bestSet_49 (by decide) ?_
      refine rk_istore (ls' := [(6, _), (5, _), (4, _), (3, _), (2, _), (0, _), (1, _)]) dX11_bestSet_50 (by decide) rfl ?_
      refine rk_ord [0, 1, 2, 3, 4, 5, 6] (ls' := [(0, _), (1, _), (2, _), (3, _), (4, _), (5, _), (6, _)]) rfl ?_
      first | exact hgo oc (Nat.min_eq_left (by have := (nI_ltI (a := oc) (b := 10) (by omega) (by decide)).mp (Int32.not_le.mp qz25); omega)) (sp_bt qz6) _ eIz1 | exact hgo 10 (Nat.min_eq_right ((nI_leI (a := 10) (b := oc) (by decide) (by omega)).mp qz25)) (sp_bt qz6) _ eIz1
    · skip
      refine rk_aload_n 0 dX11_bestSet_28 rfl rfl ?_
      refine rk_g12_0 rk_kX11_7 dX11_bestSet_29 ?_
      refine rk_bipush 13 dX11_bestSet_32 (by decide) ?_
      refine rk_pc (pc' := 34) rfl ?_
      refine rk_rn26 13 dX11_bestSet_34 rfl (by first | decide | assumption | omega) ?_
      rw [h26z, h13]
      refine rk_goto 40 dX11_bestSet_35 (by decide) ?_
      refine rk_istore_n 2 (ls' := [(2, _), (0, _), (1, _)]) dX11_bestSet_40 rfl (by decide) rfl ?_
      refine rk_iconst 0 dX11_bestSet_41 (by decide) ?_
      refine rk_istore_n 3 (ls' := [(3, _), (2, _), (0, _), (1, _)]) dX11_bestSet_42 rfl (by decide) rfl ?_
      refine rk_iconst 0 dX11_bestSet_43 (by decide) ?_
      refine rk_pc (pc' := 44) rfl ?_
      refine rk_istore (ls' := [(4, _), (3, _), (2, _), (0, _), (1, _)]) dX11_bestSet_44 (by decide) rfl ?_
      refine rk_iconst 0 dX11_bestSet_46 (by decide) ?_
      refine rk_istore (ls' := [(5, _), (4, _), (3, _), (2, _), (0, _), (1, _)]) dX11_bestSet_47 (by decide) rfl ?_
      refine rk_iconst 1 dX11_bestSet_49 (by decide) ?_
      refine rk_istore (ls' := [(6, _), (5, _), (4, _), (3, _), (2, _), (0, _), (1, _)]) dX11_bestSet_50 (by decide) rfl ?_
      refine rk_ord [0, 1, 2, 3, 4, 5, 6] (ls' := [(0, _), (1, _), (2, _), (3, _), (4, _), (5, _), (6, _)]) rfl ?_
      first | exact hgo oc (Nat.min_eq_left (by have := (nI_ltI (a := oc) (b := 10) (by omega) (by decide)).mp (Int32.not_le.mp qz25); omega)) (sp_bt qz6) _ eIz1 | exact hgo 10 (Nat.min_eq_right ((nI_leI (a := 10) (b := oc) (by decide) (by omega)).mp qz25)) (sp_bt qz6) _ eIz1
  · skip
    refine rk_bipush (-2) dX11_bestSet_9 (by decide) ?_
    refine rk_pc (pc' := 11) rfl ?_
    refine rk_iretJ dX11_bestSet_11 rfl rfl ?_
    exact ⟨(if_neg (sp_bf qz6)).symm, rfl, I 27 (R 12 m 1), md_self.symm⟩
end MB

