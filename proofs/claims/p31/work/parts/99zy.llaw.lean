section PO
variable {w : rk_W} {l : Launch} {rg : Nat → Nat} {N M : Nat → Int32} {x b : Nat} {G : List Frame → Array Value → State → State → Prop}
abbrev rk_mL_law : rk_M := (yL_law, cL_law, 3, some .boolean)
theorem rk_keep {kd kd' : Nat → Nat} (h : ∀ a, kd a ≠ 0 → kd' a = kd a) (hrg : ∀ q, kd q = 0 → rg q = 104) : ∀ q, kd' q = 0 → rg q = 104 := fun q hq => hrg q (Classical.byContradiction (fun z => z (by rw [← h q z]; exact hq)))
/-- the sixty acts -/
theorem cL_law_l (hw : cl_W w) (hL : (rk_fz w 5).2.1 ≤ 260) (hq : ∀ (Sh : rk_Sh) (I : rk_Mm) (R : rk_Rm) (z : Int32), rk_Wp w l rk_mL_law 10 991 9111 G 189 [(0, rk_a 105 b), (1, rk_a 11 x), (2, rk_i z)] [] (Sh, 871 + 2 * 60, 6231 + 48 * 60) I R) : ∀ (n i : Nat) (Sh : rk_Sh) (I : rk_Mm) (R : rk_Rm) (N : Nat → Int32), i + n = 60 → (∀ q, Sh.2 q = 0 → rg q = 104) → lX rg I R x (10 + 2 * i) N → rk_Wp w l rk_mL_law 10 991 9111 G 153 [(0, rk_a 105 b), (1, rk_a 11 x), (2, rk_i (nI i))] [] (Sh, 871 + 2 * i, 6231 + 48 * i) I R := by
  intro n
  induction n with
  | zero =>
    intro i Sh I R N hi hrg h
    obtain rfl : i = 60 := by omega
    refine rk_iload_n 2 dL_law_153 rfl rfl ?_
    refine rk_bipush 60 dL_law_154 (by decide) ?_
    refine rk_icmp_ge 189 dL_law_156 (by decide) (fun qz156 => ?_) (fun qz156 => ?_)
    · skip
      exact hq Sh I R _
    · skip
      exact absurd (show (60 : Int32) ≤ nI 60 by decide) qz156
  | succ n ih =>
    intro i Sh I R N hi hrg h
    have hn : ¬ (60 : Int32) ≤ nI i := (show ¬ nI 60 ≤ nI i from nI_ge (by omega) (by omega))
    have ea : (10 : Int32) + 6 * nI i = nI (10 + 6 * i) := by rw [rk_lit 10, rk_lit 6, pk_mul, nI_add]
    have next : ∀ (u : rk_S), (∀ a, Sh.2 a ≠ 0 → u.1.2 a = Sh.2 a) → (∃ N', lX rg u.2.1 u.2.2 x (10 + 2 * i + 1 + 1) N') → rk_Wp w l rk_mL_law 10 991 9111 G 183 [(0, rk_a 105 b), (1, rk_a 11 x), (2, rk_i (nI i))] [] (u.1, 871 + 2 * i + 2, 6231 + 48 * i + 48) u.2.1 u.2.2 := by
      intro u hkd hN
      obtain ⟨N', hX⟩ := hN
      have g := ih (i + 1) u.1 u.2.1 u.2.2 N' (by omega) (rk_keep hkd hrg) (hX.mo (by omega))
      rw [show 871 + 2 * (i + 1) = 871 + 2 * i + 2 by omega, show 6231 + 48 * (i + 1) = 6231 + 48 * i + 48 by omega] at g
      refine rk_iinc 1 (ls' := [(2, _), (0, _), (1, _)]) dL_law_183 (by decide) rfl (by decide) rfl ?_
      refine rk_goto 153 dL_law_186 (by decide) ?_
      refine rk_ord [0, 1, 2] (ls' := [(0, _), (1, _), (2, _)]) rfl ?_
      rw [nI_1]
      exact g
    refine rk_iload_n 2 dL_law_153 rfl rfl ?_
    refine rk_bipush 60 dL_law_154 (by decide) ?_
    refine rk_icmp_ge 189 dL_law_156 (by decide) (fun qz156 => ?_) (fun qz156 => ?_)
    · skip
      exact absurd qz156 hn
    · skip
      refine rk_aload_n 1 dL_law_159 rfl rfl ?_
      refine rk_aload_n 0 dL_law_160 rfl rfl ?_
      refine rk_bipush 10 dL_law_161 (by decide) ?_
      refine rk_bipush 6 dL_law_163 (by decide) ?_
      refine rk_pc (pc' := 165) rfl ?_
      refine rk_iload_n 2 dL_law_165 rfl rfl ?_
      refine rk_imul dL_law_166 ?_
      refine rk_iadd dL_law_167 ?_
      rw [ea]
      refine rk_cSn (cL_isAct_s hw hL h (by omega) hrg (by omega)) rk_eL_isAct rfl rk_kL_136 dL_law_168 rfl (by decide) ⟨by dsimp only; omega, by dsimp only; omega⟩ (Nat.le_of_ble_eq_true rfl) (fun xz1 uz1 hz1 => ?_)
      obtain ⟨hkd, e2, hN⟩ := hz1
      obtain rfl := e2
      have hN2 := hN
      obtain ⟨N', hX⟩ := hN2
      refine rk_if_eq 181 dL_law_171 (by decide) (fun qz171 => ?_) (fun qz171 => ?_)
      · skip
        exact absurd qz171 (by decide)
      · skip
        refine rk_aload_n 1 dL_law_174 rfl rfl ?_
        refine rk_cSp (cL_agree_s hX.1 hX.2.1) rk_eL_agree rfl rk_kL_140 dL_law_175 rfl (by decide) (Nat.le_of_ble_eq_true rfl) ⟨by dsimp only; omega, by dsimp only; omega⟩ ?_
        refine rk_if_ne 183 dL_law_178 (by decide) (fun qz178 => ?_) (fun qz178 => ?_)
        · skip
          exact next _ hkd hN
        · skip
          exact absurd qz178 (by decide)
/-- the yarn at the start -/
theorem cL_law_f {Sh : rk_Sh} (hL : (rk_fz w 5).2.1 ≤ 260) (hq : ∀ (I : rk_Mm) (R : rk_Rm) (N : Nat → Int32) (z : Int32), lX rg I R x 10 N → rk_Wp w l rk_mL_law 10 991 9111 G 151 [(0, rk_a 105 b), (1, rk_a 11 x)] [] (Sh, 871, 6231) I R) : ∀ (n f : Nat) (I : rk_Mm) (R : rk_Rm) (N : Nat → Int32), f + n = 3 → lX rg I R x (7 + f) N → rk_Wp w l rk_mL_law 10 991 9111 G 117 [(0, rk_a 105 b), (1, rk_a 11 x), (2, rk_i (nI f))] [] (Sh, 871, 6231) I R := by
  intro n
  induction n with
  | zero =>
    intro f I R N hf h
    obtain rfl : f = 3 := by omega
    refine rk_iload_n 2 dL_law_117 rfl rfl ?_
    refine rk_iconst 3 dL_law_118 (by decide) ?_
    refine rk_icmp_ge 151 dL_law_119 (by decide) (fun qz119 => ?_) (fun qz119 => ?_)
    · skip
      refine rk_ord [0, 1] (ls' := [(0, _), (1, _)]) rfl ?_
      exact hq I R N 0 h
    · skip
      exact absurd (show (3 : Int32) ≤ nI 3 by decide) qz119
  | succ n ih =>
    intro f I R N hf h
    have hn : ¬ (3 : Int32) ≤ nI f := (show ¬ nI 3 ≤ nI f from nI_ge (by omega) (by omega))
    have b1 : 50000 + cellv w (7 + f) 400000 ≤ 3000000 := by have := cellv_lt (w := w) (k := 7 + f) (n := 400000) (by decide); omega
    refine rk_iload_n 2 dL_law_117 rfl rfl ?_
    refine rk_iconst 3 dL_law_118 (by decide) ?_
    refine rk_icmp_ge 151 dL_law_119 (by decide) (fun qz119 => ?_) (fun qz119 => ?_)
    · skip
      exact absurd qz119 hn
    · skip
      refine rk_aload_n 1 dL_law_122 rfl rfl ?_
      refine rk_iload_n 2 dL_law_123 rfl rfl ?_
      refine rk_ldc 50000 dL_law_124 (by first | exact rk_inT 717 (by decide +kernel) (by decide +kernel)) ?_
      refine rk_aload_n 0 dL_law_126 rfl rfl ?_
      refine rk_pc (pc' := 127) rfl ?_
      refine rk_bipush 7 dL_law_127 (by decide) ?_
      refine rk_iload_n 2 dL_law_129 rfl rfl ?_
      refine rk_iadd dL_law_130 ?_
      refine rk_ldc 400000 dL_law_131 (by first | exact rk_inT 718 (by decide +kernel) (by decide +kernel)) ?_
      refine rk_cSp (cL_cell_v (n := 400000) hL (nI_add 7 f) rfl (by omega) (by decide) (by decide)) rk_eL_cell rfl rk_kL_95 dL_law_133 rfl (by decide) (Nat.le_of_ble_eq_true rfl) ⟨Nat.le_of_ble_eq_true rfl, Nat.le_of_ble_eq_true rfl⟩ ?_
      refine rk_iadd dL_law_136 ?_
      rw [show (50000 : Int32) + nI (cellv w (7 + f) 400000) = nI (50000 + cellv w (7 + f) 400000) from nI_add 50000 _]
      refine rk_pc (pc' := 137) rfl ?_
      refine rk_cSi (cL_isSpun_s h (by omega) (by omega) (by omega) b1) rk_eL_isSpun rfl rk_kL_121 dL_law_137 rfl (by decide) (Nat.le_of_ble_eq_true rfl) ⟨Nat.le_of_ble_eq_true rfl, Nat.le_of_ble_eq_true rfl⟩ (fun xz1 Iz1 Rz1 hz1 => ?_)
      obtain ⟨e2, N', hX⟩ := hz1
      obtain rfl := e2
      refine rk_if_ne 145 dL_law_140 (by decide) (fun qz140 => ?_) (fun qz140 => ?_)
      · skip
        refine rk_iinc 1 (ls' := [(2, _), (0, _), (1, _)]) dL_law_145 (by decide) rfl (by decide) rfl ?_
        refine rk_goto 117 dL_law_148 (by decide) ?_
        refine rk_ord [0, 1, 2] (ls' := [(0, _), (1, _), (2, _)]) rfl ?_
        rw [nI_1]
        exact ih (f + 1) _ _ N' (by omega) hX
      · skip
        exact absurd qz140 (by decide)
/-- the settings at the start -/
theorem cL_law_s {Sh : rk_Sh} {I : rk_Mm} {R : rk_Rm} (hw : cl_W w) (hL : (rk_fz w 5).2.1 ≤ 260) (h0 : lX rg I R x 0 N) (hq : ∀ (I : rk_Mm) (R : rk_Rm) (N : Nat → Int32), lX rg I R x 7 N → rk_Wp w l rk_mL_law 10 991 9111 G 117 [(0, rk_a 105 b), (1, rk_a 11 x), (2, rk_i (nI 0))] [] (Sh, 871, 6231) I R) : rk_Wp w l rk_mL_law 10 991 9111 G 8 [(0, rk_a 105 b), (1, rk_a 11 x)] [] (Sh, 871, 6231) I R := by
  refine rk_aload_n 1 dL_law_8 rfl rfl ?_
  refine rk_iconst 1 dL_law_9 (by decide) ?_
  refine rk_bipush 10 dL_law_10 (by decide) ?_
  refine rk_aload_n 0 dL_law_12 rfl rfl ?_
  refine rk_iconst 0 dL_law_13 (by decide) ?_
  refine rk_bipush 51 dL_law_14 (by decide) ?_
  refine rk_pc (pc' := 16) rfl ?_
  refine rk_cSp (cL_cell_v (j := 0) (n := 51) hL rfl rfl (by omega) (by decide) (by decide)) rk_eL_cell rfl rk_kL_95 dL_law_16 rfl (by decide) (Nat.le_of_ble_eq_true rfl) ⟨Nat.le_of_ble_eq_true rfl, Nat.le_of_ble_eq_true rfl⟩ ?_
  refine rk_iadd dL_law_19 ?_
  refine rk_cVi (lq_set hw h0.1 _ _) rk_eX10_set rfl ⟨rfl, rfl⟩ rk_kL_124 dL_law_20 rfl (by decide) (Nat.le_of_ble_eq_true rfl) ⟨Nat.le_of_ble_eq_true rfl, Nat.le_of_ble_eq_true rfl⟩ (fun xz1 Iz1 Rz1 hz1 => ?_)
  obtain ⟨N1, h1⟩ := h0.set hz1
  refine rk_pop dL_law_23 rfl ?_
  refine rk_aload_n 1 dL_law_24 rfl rfl ?_
  refine rk_iconst 2 dL_law_25 (by decide) ?_
  refine rk_pc (pc' := 26) rfl ?_
  refine rk_aload_n 0 dL_law_26 rfl rfl ?_
  refine rk_iconst 1 dL_law_27 (by decide) ?_
  refine rk_bipush 41 dL_law_28 (by decide) ?_
  refine rk_cSp (cL_cell_v (j := 1) (n := 41) hL rfl rfl (by omega) (by decide) (by decide)) rk_eL_cell rfl rk_kL_95 dL_law_30 rfl (by decide) (Nat.le_of_ble_eq_true rfl) ⟨Nat.le_of_ble_eq_true rfl, Nat.le_of_ble_eq_true rfl⟩ ?_
  refine rk_cVi (lq_set hw h1.1 _ _) rk_eX10_set rfl ⟨rfl, rfl⟩ rk_kL_124 dL_law_33 rfl (by decide) (Nat.le_of_ble_eq_true rfl) ⟨Nat.le_of_ble_eq_true rfl, Nat.le_of_ble_eq_true rfl⟩ (fun xz2 Iz2 Rz2 hz2 => ?_)
  obtain ⟨N2, h2⟩ := h1.set hz2
  refine rk_pop dL_law_36 rfl ?_
  refine rk_pc (pc' := 37) rfl ?_
  refine rk_aload_n 1 dL_law_37 rfl rfl ?_
  refine rk_iconst 3 dL_law_38 (by decide) ?_
  refine rk_aload_n 0 dL_law_39 rfl rfl ?_
  refine rk_iconst 2 dL_law_40 (by decide) ?_
  refine rk_bipush 61 dL_law_41 (by decide) ?_
  refine rk_cSp (cL_cell_v (j := 2) (n := 61) hL rfl rfl (by omega) (by decide) (by decide)) rk_eL_cell rfl rk_kL_95 dL_law_43 rfl (by decide) (Nat.le_of_ble_eq_true rfl) ⟨Nat.le_of_ble_eq_true rfl, Nat.le_of_ble_eq_true rfl⟩ ?_
  refine rk_pc (pc' := 46) rfl ?_
  refine rk_cVi (lq_set hw h2.1 _ _) rk_eX10_set rfl ⟨rfl, rfl⟩ rk_kL_124 dL_law_46 rfl (by decide) (Nat.le_of_ble_eq_true rfl) ⟨Nat.le_of_ble_eq_true rfl, Nat.le_of_ble_eq_true rfl⟩ (fun xz3 Iz3 Rz3 hz3 => ?_)
  obtain ⟨N3, h3⟩ := h2.set hz3
  refine rk_pop dL_law_49 rfl ?_
  refine rk_aload_n 1 dL_law_50 rfl rfl ?_
  refine rk_iconst 4 dL_law_51 (by decide) ?_
  refine rk_iconst 1 dL_law_52 (by decide) ?_
  refine rk_aload_n 0 dL_law_53 rfl rfl ?_
  refine rk_pc (pc' := 54) rfl ?_
  refine rk_iconst 3 dL_law_54 (by decide) ?_
  refine rk_bipush 30 dL_law_55 (by decide) ?_
  refine rk_cSp (cL_cell_v (j := 3) (n := 30) hL rfl rfl (by omega) (by decide) (by decide)) rk_eL_cell rfl rk_kL_95 dL_law_57 rfl (by decide) (Nat.le_of_ble_eq_true rfl) ⟨Nat.le_of_ble_eq_true rfl, Nat.le_of_ble_eq_true rfl⟩ ?_
  refine rk_iadd dL_law_60 ?_
  refine rk_cVi (lq_set hw h3.1 _ _) rk_eX10_set rfl ⟨rfl, rfl⟩ rk_kL_124 dL_law_61 rfl (by decide) (Nat.le_of_ble_eq_true rfl) ⟨Nat.le_of_ble_eq_true rfl, Nat.le_of_ble_eq_true rfl⟩ (fun xz4 Iz4 Rz4 hz4 => ?_)
  obtain ⟨N4, h4⟩ := h3.set hz4
  refine rk_pop dL_law_64 rfl ?_
  refine rk_pc (pc' := 65) rfl ?_
  refine rk_aload_n 1 dL_law_65 rfl rfl ?_
  refine rk_iconst 5 dL_law_66 (by decide) ?_
  refine rk_iconst 1 dL_law_67 (by decide) ?_
  refine rk_aload_n 0 dL_law_68 rfl rfl ?_
  refine rk_iconst 4 dL_law_69 (by decide) ?_
  refine rk_bipush 30 dL_law_70 (by decide) ?_
  refine rk_pc (pc' := 72) rfl ?_
  refine rk_cSp (cL_cell_v (j := 4) (n := 30) hL rfl rfl (by omega) (by decide) (by decide)) rk_eL_cell rfl rk_kL_95 dL_law_72 rfl (by decide) (Nat.le_of_ble_eq_true rfl) ⟨Nat.le_of_ble_eq_true rfl, Nat.le_of_ble_eq_true rfl⟩ ?_
  refine rk_iadd dL_law_75 ?_
  refine rk_cVi (lq_set hw h4.1 _ _) rk_eX10_set rfl ⟨rfl, rfl⟩ rk_kL_124 dL_law_76 rfl (by decide) (Nat.le_of_ble_eq_true rfl) ⟨Nat.le_of_ble_eq_true rfl, Nat.le_of_ble_eq_true rfl⟩ (fun xz5 Iz5 Rz5 hz5 => ?_)
  obtain ⟨N5, h5⟩ := h4.set hz5
  refine rk_pop dL_law_79 rfl ?_
  refine rk_aload_n 1 dL_law_80 rfl rfl ?_
  refine rk_bipush 6 dL_law_81 (by decide) ?_
  refine rk_pc (pc' := 83) rfl ?_
  refine rk_iconst 1 dL_law_83 (by decide) ?_
  refine rk_aload_n 0 dL_law_84 rfl rfl ?_
  refine rk_iconst 5 dL_law_85 (by decide) ?_
  refine rk_bipush 40 dL_law_86 (by decide) ?_
  refine rk_cSp (cL_cell_v (j := 5) (n := 40) hL rfl rfl (by omega) (by decide) (by decide)) rk_eL_cell rfl rk_kL_95 dL_law_88 rfl (by decide) (Nat.le_of_ble_eq_true rfl) ⟨Nat.le_of_ble_eq_true rfl, Nat.le_of_ble_eq_true rfl⟩ ?_
  refine rk_iadd dL_law_91 ?_
  refine rk_pc (pc' := 92) rfl ?_
  refine rk_cVi (lq_set hw h5.1 _ _) rk_eX10_set rfl ⟨rfl, rfl⟩ rk_kL_124 dL_law_92 rfl (by decide) (Nat.le_of_ble_eq_true rfl) ⟨Nat.le_of_ble_eq_true rfl, Nat.le_of_ble_eq_true rfl⟩ (fun xz6 Iz6 Rz6 hz6 => ?_)
  obtain ⟨N6, h6⟩ := h5.set hz6
  refine rk_pop dL_law_95 rfl ?_
  refine rk_aload_n 1 dL_law_96 rfl rfl ?_
  refine rk_bipush 8 dL_law_97 (by decide) ?_
  refine rk_bipush 100 dL_law_99 (by decide) ?_
  refine rk_aload_n 0 dL_law_101 rfl rfl ?_
  refine rk_pc (pc' := 102) rfl ?_
  refine rk_bipush 6 dL_law_102 (by decide) ?_
  refine rk_sipush 401 dL_law_104 (by decide) ?_
  refine rk_cSp (cL_cell_v (j := 6) (n := 401) hL rfl rfl (by omega) (by decide) (by decide)) rk_eL_cell rfl rk_kL_95 dL_law_107 rfl (by decide) (Nat.le_of_ble_eq_true rfl) ⟨Nat.le_of_ble_eq_true rfl, Nat.le_of_ble_eq_true rfl⟩ ?_
  refine rk_iadd dL_law_110 ?_
  refine rk_cVi (lq_set hw h6.1 _ _) rk_eX10_set rfl ⟨rfl, rfl⟩ rk_kL_124 dL_law_111 rfl (by decide) (Nat.le_of_ble_eq_true rfl) ⟨Nat.le_of_ble_eq_true rfl, Nat.le_of_ble_eq_true rfl⟩ (fun xz7 Iz7 Rz7 hz7 => ?_)
  obtain ⟨N7, h7⟩ := h6.set hz7
  refine rk_pop dL_law_114 rfl ?_
  refine rk_pc (pc' := 115) rfl ?_
  refine rk_iconst 0 dL_law_115 (by decide) ?_
  refine rk_istore_n 2 (ls' := [(2, _), (0, _), (1, _)]) dL_law_116 rfl (by decide) rfl ?_
  refine rk_ord [0, 1, 2] (ls' := [(0, _), (1, _), (2, _)]) rfl ?_
  exact hq _ _ N7 h7
theorem si_N0 : si 0 (md_N0 3) := by
  have hc : sp_c (md_N0 3) 12 = 0 := by decide +kernel
  refine ⟨fun p hp => absurd hp (by rw [hc]; exact Nat.not_lt_zero p), fun f hf => ?_⟩
  rw [hc]
  have hs : sy (md_N0 3) f 0 = 0 := rfl
  rw [hs]
  rcases (by omega : f = 0 ∨ f = 1 ∨ f = 2) with rfl | rfl | rfl <;> decide +kernel
/-- the law from its first instruction -/
theorem cL_start (hw : cl_W w) (hL : (rk_fz w 5).2.1 ≤ 260) (hq : ∀ (x : Nat) (Sh : rk_Sh) (I : rk_Mm) (R : rk_Rm) (z : Int32), rk_Wp w l rk_mL_law 10 991 9111 G 189 [(0, rk_a 105 b), (1, rk_a 11 x), (2, rk_i z)] [] (Sh, 871 + 2 * 60, 6231 + 48 * 60) I R) {I : rk_Mm} {R : rk_Rm} : rk_Wp w l rk_mL_law 10 991 9111 G 0 [(0, rk_a 105 b)] [] (([], fun _ => 0), 0, 0) I R := by
  refine rk_nw11 (by exact rk_inT 14 (by decide +kernel) (by decide +kernel)) (by first | omega | (dsimp only; omega)) (by first | omega | (dsimp only; omega)) dL_law_0 (fun nz1 hn1 => ?_)
  refine rk_dup dL_law_3 rfl ?_
  have q1 : (rk_nS (([], fun _ => 0) : rk_Sh) nz1 61).2 nz1 = 61 := va_up_self _ _ _
  refine rk_cIe _ _ _ _ (cX10_init_s hw q1) rk_eX10_init rfl rk_kL_133 dL_law_4 rfl (by decide) (by first | omega | (dsimp only; omega)) (Nat.le_of_ble_eq_true rfl) (fun u1 hu1 => ?_)
  obtain ⟨k1, P1, Kx, X0, Gx⟩ := hu1
  refine rk_pub 11 (by decide) (fun f hf => rk_rk11 (P := fun f z => u1.1.2 (u1.2.2 11 nz1 f) = z) Kx.1 Kx.2.1 Kx.2.2.1 Kx.2.2.2.1 Kx.2.2.2.2.1 Kx.2.2.2.2.2.1 Kx.2.2.2.2.2.2 hf) rfl rfl ?_
  refine rk_astore_n 1 (ls' := [(1, _), (0, _)]) dL_law_7 rfl (by decide) rfl ?_
  refine rk_ord [0, 1] (ls' := [(0, _), (1, _)]) rfl ?_
  refine rk_wt (fun hW0 => ?_)
  have W1 : rk_WT (rk_pS u1.1 nz1 11).2 u1.2.2 := hW0
  have v1 : (rk_pS u1.1 nz1 11).2 nz1 = 11 := va_up_self _ _ _
  obtain ⟨rg1, -, xs1, g, hs1⟩ := Gx (fun _ => 100) rfl
  obtain ⟨rg2, hrg2⟩ : ∃ rg2 : Nat → Nat, rg2 = fun a => if (rk_pS u1.1 nz1 11).2 a ≠ 0 then rg1 a else 104 := ⟨_, rfl⟩
  have r1 : ∀ a, (rk_pS u1.1 nz1 11).2 a ≠ 0 → rg2 a = rg1 a := fun a h => by rw [hrg2]; exact if_pos h
  have r0 : ∀ a, (rk_pS u1.1 nz1 11).2 a = 0 → rg2 a = 104 := fun a h => by rw [hrg2]; exact if_neg (fun z => z h)
  have hk : ∀ a, (rk_pS u1.1 nz1 11).2 a ≠ 0 → (rk_pS u1.1 nz1 11).2 a < 50 → rg2 a = rg1 a ∧ ∀ c j, u1.2.2 c a j = u1.2.2 c a j := fun a h _ => ⟨r1 a h, fun _ _ => rfl⟩
  have xs2 : cl_xs rg2 u1.2.2 nz1 := cn_xs W1 v1 hk xs1
  have w1 := cn_wt (f := 1) (e := 2) W1 v1 (by decide) rfl (by decide)
  have hs2 : cl_hs rg2 u1.2.2 (u1.2.2 11 nz1 1) g := cn_hs W1 w1 hk hs1
  obtain ⟨X1, X2, X3, X4, X5⟩ := X0
  have hX : cl_X rg2 u1.2.1 u1.2.2 nz1 (md_N0 3) 0 (fun _ _ => 0) (fun _ => 0) (fun _ _ => 0) (fun _ => 0) 0 := by
    refine ⟨xs2, ?_, ⟨g, hs2, ?_, fun i hi => absurd hi (Nat.not_lt_zero i)⟩, fun c hc => ⟨?_, Or.inl rfl, fun h => absurd rfl h⟩, ?_, fun j hj => absurd hj (Nat.not_lt_zero j)⟩
    · exact cl_y_first (u := u1) hw X1 X2 xs2.2.2.2.1
    · exact X3.trans nI_0.symm
    · exact X4 c
    · exact X5.trans nI_0.symm
  have hY : lY rg2 u1.2.1 u1.2.2 nz1 0 (md_N0 3) := ⟨0, fun _ _ => 0, fun _ => 0, fun _ _ => 0, ⟨vs_N0, by decide, fun i hi => absurd hi (Nat.not_lt_zero i), fun c hc h => absurd rfl h, by decide, trivial⟩, hX⟩
  have e10 : (md_N0 3 10).toInt = 0 := by decide +kernel
  have h0 : lX rg2 u1.2.1 u1.2.2 nz1 0 (md_N0 3) := ⟨hY.mo (by omega), si_N0.mo (by omega), by omega⟩
  refine rk_zc (c' := 871) (z' := 6231) (by dsimp only) (by dsimp only) ?_
  refine cL_law_s (rg := rg2) hw hL h0 (fun I R N h7 => ?_)
  refine cL_law_f (rg := rg2) hL (fun I R N z h10 => ?_) 3 0 I R N (by omega) h7
  have hl := cL_law_l (rg := rg2) (b := b) (G := G) hw hL (fun Sh I R z => hq nz1 Sh I R z) 60 0 (rk_pS u1.1 nz1 11) I R N (by omega) r0 h10
  refine rk_iconst 0 dL_law_151 (by decide) ?_
  refine rk_istore_n 2 (ls' := [(2, _), (0, _), (1, _)]) dL_law_152 rfl (by decide) rfl ?_
  refine rk_ord [0, 1, 2] (ls' := [(0, _), (1, _), (2, _)]) rfl ?_
  exact hl
end PO

