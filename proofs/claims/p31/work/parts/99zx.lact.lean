section PN
variable {w : rk_W} {l : Launch} {Sh : rk_Sh} {rg : Nat → Nat} {I I1 : rk_Mm} {R R1 : rk_Rm} {N M : Nat → Int32} {T T' U : Int} {x k : Nat} {r : Int32}
theorem lX.mo {k' : Nat} (h : lX rg I R x k N) (e : k ≤ k') : lX rg I R x k' N := ⟨h.1.mo (by omega), h.2.1.mo (by omega), by have := h.2.2; omega⟩
theorem cL_cell_v {b j n : Nat} {kk nn : Int32} (hL : (rk_fz w 5).2.1 ≤ 260) (ek : kk = nI j) (en : nn = nI n) (hk : j ≤ 1000) (hn0 : 0 < n) (hn : n < 2 ^ 31) : rk_P w l rk_mL_cell 1 [rk_a 105 b, rk_i kk, rk_i nn] Sh I R (nI (cellv w j n)) := by
  subst ek en
  exact cL_cell_s hL hk hn0 hn
/-- a setting that is changed, or not -/
theorem lX.set {s v : Int32} (h : lX rg I R x k N) (q : lA rg I R x (k : Int) N (sp_set N s v) r I1 R1) : ∃ N', lX rg I1 R1 x (k + 1) N' := by
  obtain ⟨hY, hs, hd⟩ := h
  obtain ⟨c, hc2, hc⟩ := hY.c12
  obtain ⟨-, q2, -⟩ := q
  unfold sp_set at q2
  split at q2
  · next hin =>
    obtain ⟨j, hj9, rfl⟩ := rk_in_n (n := 9) rfl (by decide) hin.1
    rw [nI_clamp (by omega)] at q2
    have gx : ∀ i, 10 ≤ i → sp_u N j v i = N i := fun i hi => sp_un (by omega)
    exact ⟨sp_u N j v, lX.of q2 (hs.cg hc hc2 (gx 12 (by decide)) (fun i hi => gx i (by omega)) (fun p hp => ⟨gx _ (by omega), gx _ (by omega)⟩)) (by rw [gx 10 (by decide)]; exact hd)⟩
  · exact ⟨N, lX.of q2 hs hd⟩
theorem lst_0 : ∀ j, j < 10 → 0 ≤ sp_lst j := by decide +kernel
theorem lst_30 : ∀ j, j < 10 → j ≠ 0 → j ≠ 7 → sp_lst j ≤ 30 ∧ 30 ≤ sp_mst j := by decide +kernel
theorem lst_no : ¬ (sp_lst 0 ≤ 30 ∧ 30 ≤ sp_mst 0) ∧ ¬ (sp_lst 7 ≤ 30 ∧ 30 ≤ sp_mst 7) := by decide +kernel
theorem set_yes {j : Nat} (hr : sp_rl N) (hj : j < 10) (h0 : j ≠ 0) (h7 : j ≠ 7) : sp_set N (nI j) 30 = (N j, some (sp_u N j 30)) ∧ ¬ N j < 0 := by
  have hin : ((0 : Int32) ≤ nI j ∧ nI j ≤ 9) ∧ sp_lst (nI j).toNatClampNeg ≤ 30 ∧ 30 ≤ sp_mst (nI j).toNatClampNeg := by
    rw [nI_clamp (by omega)]
    exact ⟨⟨nI_pos' (by omega), nI_le (b := 9) (by omega) (by decide)⟩, lst_30 j hj h0 h7⟩
  refine ⟨?_, Int32.not_lt.mpr (Int32.le_trans (lst_0 j hj) (hr.1 j hj).1)⟩
  unfold sp_set
  rw [if_pos hin, nI_clamp (by omega)]
theorem set_no {j : Nat} (h : j = 0 ∨ j = 7) : sp_set N (nI j) 30 = (-2, none) := by
  unfold sp_set
  rw [if_neg]
  rcases h with rfl | rfl
  · exact fun z => lst_no.1 z.2
  · exact fun z => lst_no.2 z.2
theorem fibre_ge {f st tw : Nat} (hr : sp_rl N) (hf : f < 3) (h1 : 1 ≤ st ∧ st ≤ 200) (h2 : 10 ≤ tw ∧ tw ≤ 60) : sp_fibre N (nI f) (nI st) (nI tw) = (100 * N (20 + 3 * f) + N (20 + 3 * f + 1), some (sp_u (sp_u N (20 + 3 * f) (nI st)) (20 + 3 * f + 1) (nI tw))) ∧ ¬ 100 * N (20 + 3 * f) + N (20 + 3 * f + 1) < 110 := by
  obtain ⟨⟨g1, g2⟩, g3, g4⟩ := hr.2 f hf
  obtain ⟨a, ha, ea⟩ := rk_nat (m := 200) (by decide) (Int32.le_trans (show (0 : Int32) ≤ 1 by decide) g1) g2
  obtain ⟨b, hb, eb⟩ := rk_nat (m := 60) (by decide) (Int32.le_trans (show (0 : Int32) ≤ 10 by decide) g3) g4
  rw [ea] at g1
  rw [eb] at g3
  have a1 : 1 ≤ a := (nI_leI (a := 1) (by decide) (by omega)).mp g1
  have b1 : 10 ≤ b := (nI_leI (a := 10) (by decide) (by omega)).mp g3
  refine ⟨?_, ?_⟩
  · unfold sp_fibre
    rw [if_pos (rk_fibre hf), if_pos ⟨⟨nI_le (a := 1) h1.1 (by omega), nI_le (b := 200) h1.2 (by decide)⟩, nI_le (a := 10) h2.1 (by omega), nI_le (b := 60) h2.2 (by decide)⟩, nI_clamp (by omega)]
  · rw [ea, eb, rk_lit 100, pk_mul, nI_add]
    exact nI_nlt (b := 110) (by omega) (by omega)
theorem cL_isAct_s {a b : Nat} (hw : cl_W w) (hL : (rk_fz w 5).2.1 ≤ 260) (h : lX rg I R x k N) (hk : k + 1 ≤ 200) (hrg : ∀ q, Sh.2 q = 0 → rg q = 104) (ha : a ≤ 900) : rk_N w l rk_mL_isAct 9 2 48 [rk_a 11 x, rk_a 105 b, rk_i (nI a)] Sh I R (lZ rg x (k + 1)) := by
  have hY := h.1
  obtain ⟨c, hc2, hc⟩ := hY.c12
  obtain ⟨oc, hoc, h13⟩ := hY.c13
  have ec1 : N 12 + 1 = nI (c + 1) := by rw [hc, nI_1]
  have eo1 : N 13 + 1 = nI (oc + 1) := by rw [h13, nI_1]
  have k25 : ∀ f : Nat, f < 3 → rk_Wp w l rk_mL_isAct 9 2 48 (rk_G w (fun r u => ∃ x', r = some (rk_i x') ∧ (∀ q, Sh.2 q ≠ 0 → u.1.2 q = Sh.2 q) ∧ lZ rg x (k + 1) x' u) 2 48) 25 [(0, rk_a 11 x), (1, rk_a 105 b), (2, rk_i (nI a)), (3, rk_i (nI f))] [] (Sh, 0, 0) I R := by
    intro f hf
    have hs : 3 ≤ 3 + cellv w (a + 2) 2 ∧ 3 + cellv w (a + 2) 2 ≤ 4 := by have := cellv_lt (w := w) (k := a + 2) (n := 2) (by decide); omega
    have hy : 1 ≤ 1 + cellv w (a + 3) 4 ∧ 1 + cellv w (a + 3) 4 ≤ 4 := by have := cellv_lt (w := w) (k := a + 3) (n := 4) (by decide); omega
    have k100 : rk_Wp w l rk_mL_isAct 9 2 48 (rk_G w (fun r u => ∃ x', r = some (rk_i x') ∧ (∀ q, Sh.2 q ≠ 0 → u.1.2 q = Sh.2 q) ∧ lZ rg x (k + 1) x' u) 2 48) 100 [(0, rk_a 11 x), (1, rk_a 105 b), (2, rk_i (nI a)), (3, rk_i (nI f))] [] (Sh, 0, 0) I R := by
      have eft : ∀ n : Nat, 0 < n → n ≤ 2000 → ∃ ft, (1 ≤ ft ∧ ft ≤ 2000) ∧ 1 + nI (cellv w (a + 4) n) = nI ft := fun n h1 h2 => ⟨1 + cellv w (a + 4) n, by have := cellv_lt (w := w) (k := a + 4) (n := n) h1; omega, nI_add 1 _⟩
      refine rk_aload_n 0 dL_isAct_100 rfl rfl ?_
      refine rk_iload_n 3 dL_isAct_101 rfl rfl ?_
      refine rk_iconst 3 dL_isAct_102 (by decide) ?_
      refine rk_aload_n 1 dL_isAct_103 rfl rfl ?_
      refine rk_iload_n 2 dL_isAct_104 rfl rfl ?_
      refine rk_iconst 2 dL_isAct_105 (by decide) ?_
      refine rk_pc (pc' := 106) rfl ?_
      refine rk_iadd dL_isAct_106 ?_
      refine rk_iconst 2 dL_isAct_107 (by decide) ?_
      refine rk_cSp (cL_cell_v (n := 2) hL (nI_add a 2) rfl (by omega) (by decide) (by decide)) rk_eL_cell rfl rk_kL_95 dL_isAct_108 rfl (by decide) (Nat.le_of_ble_eq_true rfl) ⟨Nat.le_of_ble_eq_true rfl, Nat.le_of_ble_eq_true rfl⟩ ?_
      refine rk_iadd dL_isAct_111 ?_
      rw [show (3 : Int32) + nI (cellv w (a + 2) 2) = nI (3 + cellv w (a + 2) 2) from nI_add 3 _]
      refine rk_iconst 1 dL_isAct_112 (by decide) ?_
      refine rk_aload_n 1 dL_isAct_113 rfl rfl ?_
      refine rk_pc (pc' := 114) rfl ?_
      refine rk_iload_n 2 dL_isAct_114 rfl rfl ?_
      refine rk_iconst 3 dL_isAct_115 (by decide) ?_
      refine rk_iadd dL_isAct_116 ?_
      refine rk_iconst 4 dL_isAct_117 (by decide) ?_
      refine rk_cSp (cL_cell_v (n := 4) hL (nI_add a 3) rfl (by omega) (by decide) (by decide)) rk_eL_cell rfl rk_kL_95 dL_isAct_118 rfl (by decide) (Nat.le_of_ble_eq_true rfl) ⟨Nat.le_of_ble_eq_true rfl, Nat.le_of_ble_eq_true rfl⟩ ?_
      refine rk_iadd dL_isAct_121 ?_
      rw [show (1 : Int32) + nI (cellv w (a + 3) 4) = nI (1 + cellv w (a + 3) 4) from nI_add 1 _]
      refine rk_pc (pc' := 122) rfl ?_
      refine rk_iconst 1 dL_isAct_122 (by decide) ?_
      refine rk_aload_n 1 dL_isAct_123 rfl rfl ?_
      refine rk_iload_n 2 dL_isAct_124 rfl rfl ?_
      refine rk_iconst 4 dL_isAct_125 (by decide) ?_
      refine rk_iadd dL_isAct_126 ?_
      refine rk_aload_n 1 dL_isAct_127 rfl rfl ?_
      refine rk_pc (pc' := 128) rfl ?_
      refine rk_iload_n 2 dL_isAct_128 rfl rfl ?_
      refine rk_iconst 5 dL_isAct_129 (by decide) ?_
      refine rk_iadd dL_isAct_130 ?_
      refine rk_iconst 5 dL_isAct_131 (by decide) ?_
      refine rk_cSp (cL_cell_v (n := 5) hL (nI_add a 5) rfl (by omega) (by decide) (by decide)) rk_eL_cell rfl rk_kL_95 dL_isAct_132 rfl (by decide) (Nat.le_of_ble_eq_true rfl) ⟨Nat.le_of_ble_eq_true rfl, Nat.le_of_ble_eq_true rfl⟩ ?_
      refine rk_if_ne 144 dL_isAct_135 (by decide) (fun qz135 => ?_) (fun qz135 => ?_)
      · skip
        refine rk_bipush 120 dL_isAct_144 (by decide) ?_
        obtain ⟨n, hn, hn2, en⟩ : ∃ n : Nat, 0 < n ∧ n ≤ 2000 ∧ (120 : Int32) = nI n := ⟨120, by decide, by decide, rfl⟩
        refine rk_pc (pc' := 146) rfl ?_
        refine rk_cSp (cL_cell_v (n := n) hL (nI_add a 4) en (by omega) hn (by omega)) rk_eL_cell rfl rk_kL_95 dL_isAct_146 rfl (by decide) (Nat.le_of_ble_eq_true rfl) ⟨Nat.le_of_ble_eq_true rfl, Nat.le_of_ble_eq_true rfl⟩ ?_
        refine rk_iadd dL_isAct_149 ?_
        obtain ⟨ft, hft, e1⟩ := eft n hn hn2
        rw [e1]
        refine rk_cSi (cL_isLaid_s h (by omega) hf hs hy hft) rk_eL_isLaid rfl rk_kL_99 dL_isAct_150 rfl (by decide) (Nat.le_of_ble_eq_true rfl) ⟨Nat.le_of_ble_eq_true rfl, Nat.le_of_ble_eq_true rfl⟩ (fun xz1 Iz1 Rz1 hz1 => ?_)
        obtain ⟨e2, N', hX⟩ := hz1
        obtain rfl := e2
        refine rk_iretN dL_isAct_153 rfl (by decide) ?_
        exact ⟨⟨Nat.le_of_ble_eq_true rfl, Nat.le_of_ble_eq_true rfl⟩, fun _ _ => rfl, rfl, N', hX.mo (by omega)⟩
      · skip
        refine rk_sipush 2000 dL_isAct_138 (by decide) ?_
        obtain ⟨n, hn, hn2, en⟩ : ∃ n : Nat, 0 < n ∧ n ≤ 2000 ∧ (2000 : Int32) = nI n := ⟨2000, by decide, by decide, rfl⟩
        refine rk_goto 146 dL_isAct_141 (by decide) ?_
        refine rk_cSp (cL_cell_v (n := n) hL (nI_add a 4) en (by omega) hn (by omega)) rk_eL_cell rfl rk_kL_95 dL_isAct_146 rfl (by decide) (Nat.le_of_ble_eq_true rfl) ⟨Nat.le_of_ble_eq_true rfl, Nat.le_of_ble_eq_true rfl⟩ ?_
        refine rk_pc (pc' := 149) rfl ?_
        refine rk_iadd dL_isAct_149 ?_
        obtain ⟨ft, hft, e1⟩ := eft n hn hn2
        rw [e1]
        refine rk_cSi (cL_isLaid_s h (by omega) hf hs hy hft) rk_eL_isLaid rfl rk_kL_99 dL_isAct_150 rfl (by decide) (Nat.le_of_ble_eq_true rfl) ⟨Nat.le_of_ble_eq_true rfl, Nat.le_of_ble_eq_true rfl⟩ (fun xz1 Iz1 Rz1 hz1 => ?_)
        obtain ⟨e2, N', hX⟩ := hz1
        obtain rfl := e2
        refine rk_iretN dL_isAct_153 rfl (by decide) ?_
        exact ⟨⟨Nat.le_of_ble_eq_true rfl, Nat.le_of_ble_eq_true rfl⟩, fun _ _ => rfl, rfl, N', hX.mo (by omega)⟩
    have k154 : rk_Wp w l rk_mL_isAct 9 2 48 (rk_G w (fun r u => ∃ x', r = some (rk_i x') ∧ (∀ q, Sh.2 q ≠ 0 → u.1.2 q = Sh.2 q) ∧ lZ rg x (k + 1) x' u) 2 48) 154 [(0, rk_a 11 x), (1, rk_a 105 b), (2, rk_i (nI a)), (3, rk_i (nI f))] [] (Sh, 0, 0) I R := by
      have b1 : cellv w (a + 1) (c + 1) ≤ c := by have := cellv_lt (w := w) (k := a + 1) (n := c + 1) (by omega); omega
      have b2 : cellv w (a + 2) (c + 1) ≤ c := by have := cellv_lt (w := w) (k := a + 2) (n := c + 1) (by omega); omega
      refine rk_aload_n 0 dL_isAct_154 rfl rfl ?_
      refine rk_aload_n 1 dL_isAct_155 rfl rfl ?_
      refine rk_iload_n 2 dL_isAct_156 rfl rfl ?_
      refine rk_iconst 1 dL_isAct_157 (by decide) ?_
      refine rk_iadd dL_isAct_158 ?_
      refine rk_aload_n 0 dL_isAct_159 rfl rfl ?_
      refine rk_pc (pc' := 160) rfl ?_
      refine rk_iconst 1 dL_isAct_160 (by decide) ?_
      refine rk_cVp (qc1 hY) rk_eX10_count rfl ⟨rfl, rfl⟩ rk_kL_8 dL_isAct_161 rfl (by decide) (Nat.le_of_ble_eq_true rfl) ⟨Nat.le_of_ble_eq_true rfl, Nat.le_of_ble_eq_true rfl⟩ ?_
      refine rk_iconst 1 dL_isAct_164 (by decide) ?_
      refine rk_iadd dL_isAct_165 ?_
      refine rk_cSp (cL_cell_v (n := c + 1) hL (nI_add a 1) ec1 (by omega) (by omega) (by omega)) rk_eL_cell rfl rk_kL_95 dL_isAct_166 rfl (by decide) (Nat.le_of_ble_eq_true rfl) ⟨Nat.le_of_ble_eq_true rfl, Nat.le_of_ble_eq_true rfl⟩ ?_
      refine rk_aload_n 1 dL_isAct_169 rfl rfl ?_
      refine rk_pc (pc' := 170) rfl ?_
      refine rk_iload_n 2 dL_isAct_170 rfl rfl ?_
      refine rk_iconst 2 dL_isAct_171 (by decide) ?_
      refine rk_iadd dL_isAct_172 ?_
      refine rk_aload_n 0 dL_isAct_173 rfl rfl ?_
      refine rk_iconst 1 dL_isAct_174 (by decide) ?_
      refine rk_cVp (qc1 hY) rk_eX10_count rfl ⟨rfl, rfl⟩ rk_kL_8 dL_isAct_175 rfl (by decide) (Nat.le_of_ble_eq_true rfl) ⟨Nat.le_of_ble_eq_true rfl, Nat.le_of_ble_eq_true rfl⟩ ?_
      refine rk_pc (pc' := 178) rfl ?_
      refine rk_iconst 1 dL_isAct_178 (by decide) ?_
      refine rk_iadd dL_isAct_179 ?_
      refine rk_cSp (cL_cell_v (n := c + 1) hL (nI_add a 2) ec1 (by omega) (by omega) (by omega)) rk_eL_cell rfl rk_kL_95 dL_isAct_180 rfl (by decide) (Nat.le_of_ble_eq_true rfl) ⟨Nat.le_of_ble_eq_true rfl, Nat.le_of_ble_eq_true rfl⟩ ?_
      refine rk_cSn (cL_isJoined_s h (by omega) hrg hc hc2 b1 b2) rk_eL_isJoined rfl rk_kL_103 dL_isAct_183 rfl (by decide) ⟨Nat.le_of_ble_eq_true rfl, Nat.le_of_ble_eq_true rfl⟩ (Nat.le_of_ble_eq_true rfl) (fun xz1 uz1 hz1 => ?_)
      obtain ⟨hkd, e2, N', hX⟩ := hz1
      obtain rfl := e2
      refine rk_iretN dL_isAct_186 rfl (by decide) ?_
      exact ⟨⟨Nat.le_of_ble_eq_true rfl, Nat.le_of_ble_eq_true rfl⟩, hkd, rfl, N', hX.mo (by omega)⟩
    have k187 : rk_Wp w l rk_mL_isAct 9 2 48 (rk_G w (fun r u => ∃ x', r = some (rk_i x') ∧ (∀ q, Sh.2 q ≠ 0 → u.1.2 q = Sh.2 q) ∧ lZ rg x (k + 1) x' u) 2 48) 187 [(0, rk_a 11 x), (1, rk_a 105 b), (2, rk_i (nI a)), (3, rk_i (nI f))] [] (Sh, 0, 0) I R := by
      have b1 : cellv w (a + 1) (c + 1) ≤ c := by have := cellv_lt (w := w) (k := a + 1) (n := c + 1) (by omega); omega
      refine rk_aload_n 0 dL_isAct_187 rfl rfl ?_
      refine rk_aload_n 1 dL_isAct_188 rfl rfl ?_
      refine rk_iload_n 2 dL_isAct_189 rfl rfl ?_
      refine rk_iconst 1 dL_isAct_190 (by decide) ?_
      refine rk_iadd dL_isAct_191 ?_
      refine rk_aload_n 0 dL_isAct_192 rfl rfl ?_
      refine rk_pc (pc' := 193) rfl ?_
      refine rk_iconst 1 dL_isAct_193 (by decide) ?_
      refine rk_cVp (qc1 hY) rk_eX10_count rfl ⟨rfl, rfl⟩ rk_kL_8 dL_isAct_194 rfl (by decide) (Nat.le_of_ble_eq_true rfl) ⟨Nat.le_of_ble_eq_true rfl, Nat.le_of_ble_eq_true rfl⟩ ?_
      refine rk_iconst 1 dL_isAct_197 (by decide) ?_
      refine rk_iadd dL_isAct_198 ?_
      refine rk_cSp (cL_cell_v (n := c + 1) hL (nI_add a 1) ec1 (by omega) (by omega) (by omega)) rk_eL_cell rfl rk_kL_95 dL_isAct_199 rfl (by decide) (Nat.le_of_ble_eq_true rfl) ⟨Nat.le_of_ble_eq_true rfl, Nat.le_of_ble_eq_true rfl⟩ ?_
      refine rk_cSn (cL_isTested_s h (by omega) hrg hc hc2 b1) rk_eL_isTested rfl rk_kL_106 dL_isAct_202 rfl (by decide) ⟨Nat.le_of_ble_eq_true rfl, Nat.le_of_ble_eq_true rfl⟩ (Nat.le_of_ble_eq_true rfl) (fun xz1 uz1 hz1 => ?_)
      obtain ⟨hkd, e2, N', hX⟩ := hz1
      obtain rfl := e2
      refine rk_iretN dL_isAct_205 rfl (by decide) ?_
      exact ⟨⟨Nat.le_of_ble_eq_true rfl, Nat.le_of_ble_eq_true rfl⟩, hkd, rfl, N', hX.mo (by omega)⟩
    have k206 : rk_Wp w l rk_mL_isAct 9 2 48 (rk_G w (fun r u => ∃ x', r = some (rk_i x') ∧ (∀ q, Sh.2 q ≠ 0 → u.1.2 q = Sh.2 q) ∧ lZ rg x (k + 1) x' u) 2 48) 206 [(0, rk_a 11 x), (1, rk_a 105 b), (2, rk_i (nI a)), (3, rk_i (nI f))] [] (Sh, 0, 0) I R := by
      have b1 : 1 ≤ 1 + cellv w (a + 2) 600 ∧ 1 + cellv w (a + 2) 600 ≤ 600 := by have := cellv_lt (w := w) (k := a + 2) (n := 600) (by decide); omega
      have b2 : 1 ≤ 1 + cellv w (a + 3) 60 ∧ 1 + cellv w (a + 3) 60 ≤ 60 := by have := cellv_lt (w := w) (k := a + 3) (n := 60) (by decide); omega
      have b3 : 1 ≤ 1 + cellv w (a + 4) 6 ∧ 1 + cellv w (a + 4) 6 ≤ 6 := by have := cellv_lt (w := w) (k := a + 4) (n := 6) (by decide); omega
      have b4 : cellv w (a + 5) 12 ≤ 11 := by have := cellv_lt (w := w) (k := a + 5) (n := 12) (by decide); omega
      refine rk_aload_n 0 dL_isAct_206 rfl rfl ?_
      refine rk_iload_n 3 dL_isAct_207 rfl rfl ?_
      refine rk_iconst 1 dL_isAct_208 (by decide) ?_
      refine rk_aload_n 1 dL_isAct_209 rfl rfl ?_
      refine rk_iload_n 2 dL_isAct_210 rfl rfl ?_
      refine rk_iconst 2 dL_isAct_211 (by decide) ?_
      refine rk_pc (pc' := 212) rfl ?_
      refine rk_iadd dL_isAct_212 ?_
      refine rk_sipush 600 dL_isAct_213 (by decide) ?_
      refine rk_cSp (cL_cell_v (n := 600) hL (nI_add a 2) rfl (by omega) (by decide) (by decide)) rk_eL_cell rfl rk_kL_95 dL_isAct_216 rfl (by decide) (Nat.le_of_ble_eq_true rfl) ⟨Nat.le_of_ble_eq_true rfl, Nat.le_of_ble_eq_true rfl⟩ ?_
      refine rk_iadd dL_isAct_219 ?_
      rw [show (1 : Int32) + nI (cellv w (a + 2) 600) = nI (1 + cellv w (a + 2) 600) from nI_add 1 _]
      refine rk_iconst 1 dL_isAct_220 (by decide) ?_
      refine rk_aload_n 1 dL_isAct_221 rfl rfl ?_
      refine rk_pc (pc' := 222) rfl ?_
      refine rk_iload_n 2 dL_isAct_222 rfl rfl ?_
      refine rk_iconst 3 dL_isAct_223 (by decide) ?_
      refine rk_iadd dL_isAct_224 ?_
      refine rk_bipush 60 dL_isAct_225 (by decide) ?_
      refine rk_cSp (cL_cell_v (n := 60) hL (nI_add a 3) rfl (by omega) (by decide) (by decide)) rk_eL_cell rfl rk_kL_95 dL_isAct_227 rfl (by decide) (Nat.le_of_ble_eq_true rfl) ⟨Nat.le_of_ble_eq_true rfl, Nat.le_of_ble_eq_true rfl⟩ ?_
      refine rk_iadd dL_isAct_230 ?_
      rw [show (1 : Int32) + nI (cellv w (a + 3) 60) = nI (1 + cellv w (a + 3) 60) from nI_add 1 _]
      refine rk_pc (pc' := 231) rfl ?_
      refine rk_iconst 1 dL_isAct_231 (by decide) ?_
      refine rk_aload_n 1 dL_isAct_232 rfl rfl ?_
      refine rk_iload_n 2 dL_isAct_233 rfl rfl ?_
      refine rk_iconst 4 dL_isAct_234 (by decide) ?_
      refine rk_iadd dL_isAct_235 ?_
      refine rk_bipush 6 dL_isAct_236 (by decide) ?_
      refine rk_pc (pc' := 238) rfl ?_
      refine rk_cSp (cL_cell_v (n := 6) hL (nI_add a 4) rfl (by omega) (by decide) (by decide)) rk_eL_cell rfl rk_kL_95 dL_isAct_238 rfl (by decide) (Nat.le_of_ble_eq_true rfl) ⟨Nat.le_of_ble_eq_true rfl, Nat.le_of_ble_eq_true rfl⟩ ?_
      refine rk_iadd dL_isAct_241 ?_
      rw [show (1 : Int32) + nI (cellv w (a + 4) 6) = nI (1 + cellv w (a + 4) 6) from nI_add 1 _]
      refine rk_aload_n 1 dL_isAct_242 rfl rfl ?_
      refine rk_iload_n 2 dL_isAct_243 rfl rfl ?_
      refine rk_iconst 5 dL_isAct_244 (by decide) ?_
      refine rk_iadd dL_isAct_245 ?_
      refine rk_pc (pc' := 246) rfl ?_
      refine rk_bipush 12 dL_isAct_246 (by decide) ?_
      refine rk_cSp (cL_cell_v (n := 12) hL (nI_add a 5) rfl (by omega) (by decide) (by decide)) rk_eL_cell rfl rk_kL_95 dL_isAct_248 rfl (by decide) (Nat.le_of_ble_eq_true rfl) ⟨Nat.le_of_ble_eq_true rfl, Nat.le_of_ble_eq_true rfl⟩ ?_
      refine rk_cSi (cL_isOrdered_s h (by omega) hf b1 b2 b3 b4) rk_eL_isOrdered rfl rk_kL_110 dL_isAct_251 rfl (by decide) (Nat.le_of_ble_eq_true rfl) ⟨Nat.le_of_ble_eq_true rfl, Nat.le_of_ble_eq_true rfl⟩ (fun xz1 Iz1 Rz1 hz1 => ?_)
      obtain ⟨e2, N', hX⟩ := hz1
      obtain rfl := e2
      refine rk_iretN dL_isAct_254 rfl (by decide) ?_
      exact ⟨⟨Nat.le_of_ble_eq_true rfl, Nat.le_of_ble_eq_true rfl⟩, fun _ _ => rfl, rfl, N', hX.mo (by omega)⟩
    have k255 : rk_Wp w l rk_mL_isAct 9 2 48 (rk_G w (fun r u => ∃ x', r = some (rk_i x') ∧ (∀ q, Sh.2 q ≠ 0 → u.1.2 q = Sh.2 q) ∧ lZ rg x (k + 1) x' u) 2 48) 255 [(0, rk_a 11 x), (1, rk_a 105 b), (2, rk_i (nI a)), (3, rk_i (nI f))] [] (Sh, 0, 0) I R := by
      have b1 : cellv w (a + 1) (oc + 1) ≤ oc := by have := cellv_lt (w := w) (k := a + 1) (n := oc + 1) (by omega); omega
      refine rk_aload_n 0 dL_isAct_255 rfl rfl ?_
      refine rk_aload_n 1 dL_isAct_256 rfl rfl ?_
      refine rk_iload_n 2 dL_isAct_257 rfl rfl ?_
      refine rk_iconst 1 dL_isAct_258 (by decide) ?_
      refine rk_iadd dL_isAct_259 ?_
      refine rk_aload_n 0 dL_isAct_260 rfl rfl ?_
      refine rk_pc (pc' := 261) rfl ?_
      refine rk_iconst 2 dL_isAct_261 (by decide) ?_
      refine rk_cVp (qc2 hY) rk_eX10_count rfl ⟨rfl, rfl⟩ rk_kL_8 dL_isAct_262 rfl (by decide) (Nat.le_of_ble_eq_true rfl) ⟨Nat.le_of_ble_eq_true rfl, Nat.le_of_ble_eq_true rfl⟩ ?_
      refine rk_iconst 1 dL_isAct_265 (by decide) ?_
      refine rk_iadd dL_isAct_266 ?_
      refine rk_cSp (cL_cell_v (n := oc + 1) hL (nI_add a 1) eo1 (by omega) (by omega) (by omega)) rk_eL_cell rfl rk_kL_95 dL_isAct_267 rfl (by decide) (Nat.le_of_ble_eq_true rfl) ⟨Nat.le_of_ble_eq_true rfl, Nat.le_of_ble_eq_true rfl⟩ ?_
      refine rk_cSn (cL_isFilled_s h (by omega) hrg h13 hoc b1) rk_eL_isFilled rfl rk_kL_114 dL_isAct_270 rfl (by decide) ⟨Nat.le_of_ble_eq_true rfl, Nat.le_of_ble_eq_true rfl⟩ (Nat.le_of_ble_eq_true rfl) (fun xz1 uz1 hz1 => ?_)
      obtain ⟨hkd, e2, N', hX⟩ := hz1
      obtain rfl := e2
      refine rk_iretN dL_isAct_273 rfl (by decide) ?_
      exact ⟨⟨Nat.le_of_ble_eq_true rfl, Nat.le_of_ble_eq_true rfl⟩, hkd, rfl, N', hX.mo (by omega)⟩
    have k274 : rk_Wp w l rk_mL_isAct 9 2 48 (rk_G w (fun r u => ∃ x', r = some (rk_i x') ∧ (∀ q, Sh.2 q ≠ 0 → u.1.2 q = Sh.2 q) ∧ lZ rg x (k + 1) x' u) 2 48) 274 [(0, rk_a 11 x), (1, rk_a 105 b), (2, rk_i (nI a)), (3, rk_i (nI f))] [] (Sh, 0, 0) I R := by
      have b1 : cellv w (a + 1) (oc + 1) ≤ oc := by have := cellv_lt (w := w) (k := a + 1) (n := oc + 1) (by omega); omega
      refine rk_aload_n 0 dL_isAct_274 rfl rfl ?_
      refine rk_aload_n 1 dL_isAct_275 rfl rfl ?_
      refine rk_iload_n 2 dL_isAct_276 rfl rfl ?_
      refine rk_iconst 1 dL_isAct_277 (by decide) ?_
      refine rk_iadd dL_isAct_278 ?_
      refine rk_aload_n 0 dL_isAct_279 rfl rfl ?_
      refine rk_pc (pc' := 280) rfl ?_
      refine rk_iconst 2 dL_isAct_280 (by decide) ?_
      refine rk_cVp (qc2 hY) rk_eX10_count rfl ⟨rfl, rfl⟩ rk_kL_8 dL_isAct_281 rfl (by decide) (Nat.le_of_ble_eq_true rfl) ⟨Nat.le_of_ble_eq_true rfl, Nat.le_of_ble_eq_true rfl⟩ ?_
      refine rk_iconst 1 dL_isAct_284 (by decide) ?_
      refine rk_iadd dL_isAct_285 ?_
      refine rk_cSp (cL_cell_v (n := oc + 1) hL (nI_add a 1) eo1 (by omega) (by omega) (by omega)) rk_eL_cell rfl rk_kL_95 dL_isAct_286 rfl (by decide) (Nat.le_of_ble_eq_true rfl) ⟨Nat.le_of_ble_eq_true rfl, Nat.le_of_ble_eq_true rfl⟩ ?_
      refine rk_cSi (cL_isDropped_s h (by omega) h13 hoc b1) rk_eL_isDropped rfl rk_kL_117 dL_isAct_289 rfl (by decide) (Nat.le_of_ble_eq_true rfl) ⟨Nat.le_of_ble_eq_true rfl, Nat.le_of_ble_eq_true rfl⟩ (fun xz1 Iz1 Rz1 hz1 => ?_)
      obtain ⟨e2, N', hX⟩ := hz1
      obtain rfl := e2
      refine rk_pc (pc' := 292) rfl ?_
      refine rk_iretN dL_isAct_292 rfl (by decide) ?_
      exact ⟨⟨Nat.le_of_ble_eq_true rfl, Nat.le_of_ble_eq_true rfl⟩, fun _ _ => rfl, rfl, N', hX.mo (by omega)⟩
    have k293 : rk_Wp w l rk_mL_isAct 9 2 48 (rk_G w (fun r u => ∃ x', r = some (rk_i x') ∧ (∀ q, Sh.2 q ≠ 0 → u.1.2 q = Sh.2 q) ∧ lZ rg x (k + 1) x' u) 2 48) 293 [(0, rk_a 11 x), (1, rk_a 105 b), (2, rk_i (nI a)), (3, rk_i (nI f))] [] (Sh, 0, 0) I R := by
      have b1 : 1 + cellv w (a + 2) 3000000 ≤ 3000000 := by have := cellv_lt (w := w) (k := a + 2) (n := 3000000) (by decide); omega
      refine rk_aload_n 0 dL_isAct_293 rfl rfl ?_
      refine rk_iload_n 3 dL_isAct_294 rfl rfl ?_
      refine rk_iconst 1 dL_isAct_295 (by decide) ?_
      refine rk_aload_n 1 dL_isAct_296 rfl rfl ?_
      refine rk_iload_n 2 dL_isAct_297 rfl rfl ?_
      refine rk_iconst 2 dL_isAct_298 (by decide) ?_
      refine rk_pc (pc' := 299) rfl ?_
      refine rk_iadd dL_isAct_299 ?_
      refine rk_ldc 3000000 dL_isAct_300 (by first | exact rk_inT 683 (by decide +kernel) (by decide +kernel)) ?_
      refine rk_cSp (cL_cell_v (n := 3000000) hL (nI_add a 2) rfl (by omega) (by decide) (by decide)) rk_eL_cell rfl rk_kL_95 dL_isAct_302 rfl (by decide) (Nat.le_of_ble_eq_true rfl) ⟨Nat.le_of_ble_eq_true rfl, Nat.le_of_ble_eq_true rfl⟩ ?_
      refine rk_iadd dL_isAct_305 ?_
      rw [show (1 : Int32) + nI (cellv w (a + 2) 3000000) = nI (1 + cellv w (a + 2) 3000000) from nI_add 1 _]
      refine rk_cSi (cL_isSpun_s h (by omega) hf (by omega) b1) rk_eL_isSpun rfl rk_kL_121 dL_isAct_306 rfl (by decide) (Nat.le_of_ble_eq_true rfl) ⟨Nat.le_of_ble_eq_true rfl, Nat.le_of_ble_eq_true rfl⟩ (fun xz1 Iz1 Rz1 hz1 => ?_)
      obtain ⟨e2, N', hX⟩ := hz1
      obtain rfl := e2
      refine rk_iretN dL_isAct_309 rfl (by decide) ?_
      exact ⟨⟨Nat.le_of_ble_eq_true rfl, Nat.le_of_ble_eq_true rfl⟩, fun _ _ => rfl, rfl, N', hX.mo (by omega)⟩
    have k397 : rk_Wp w l rk_mL_isAct 9 2 48 (rk_G w (fun r u => ∃ x', r = some (rk_i x') ∧ (∀ q, Sh.2 q ≠ 0 → u.1.2 q = Sh.2 q) ∧ lZ rg x (k + 1) x' u) 2 48) 397 [(0, rk_a 11 x), (1, rk_a 105 b), (2, rk_i (nI a)), (3, rk_i (nI f))] [] (Sh, 0, 0) I R := by
      have b1 : 1 + cellv w (a + 1) 4 ≤ 4 := by have := cellv_lt (w := w) (k := a + 1) (n := 4) (by decide); omega
      refine rk_aload_n 0 dL_isAct_397 rfl rfl ?_
      refine rk_iconst 1 dL_isAct_398 (by decide) ?_
      refine rk_aload_n 1 dL_isAct_399 rfl rfl ?_
      refine rk_iload_n 2 dL_isAct_400 rfl rfl ?_
      refine rk_iconst 1 dL_isAct_401 (by decide) ?_
      refine rk_iadd dL_isAct_402 ?_
      refine rk_pc (pc' := 403) rfl ?_
      refine rk_iconst 4 dL_isAct_403 (by decide) ?_
      refine rk_cSp (cL_cell_v (n := 4) hL (nI_add a 1) rfl (by omega) (by decide) (by decide)) rk_eL_cell rfl rk_kL_95 dL_isAct_404 rfl (by decide) (Nat.le_of_ble_eq_true rfl) ⟨Nat.le_of_ble_eq_true rfl, Nat.le_of_ble_eq_true rfl⟩ ?_
      refine rk_iadd dL_isAct_407 ?_
      rw [show (1 : Int32) + nI (cellv w (a + 1) 4) = nI (1 + cellv w (a + 1) 4) from nI_add 1 _]
      refine rk_cSi (cL_isPassed_s h (by omega) (by omega) b1) rk_eL_isPassed rfl rk_kL_130 dL_isAct_408 rfl (by decide) (Nat.le_of_ble_eq_true rfl) ⟨Nat.le_of_ble_eq_true rfl, Nat.le_of_ble_eq_true rfl⟩ (fun xz1 Iz1 Rz1 hz1 => ?_)
      obtain ⟨e2, N', hX⟩ := hz1
      obtain rfl := e2
      refine rk_iretN dL_isAct_411 rfl (by decide) ?_
      exact ⟨⟨Nat.le_of_ble_eq_true rfl, Nat.le_of_ble_eq_true rfl⟩, fun _ _ => rfl, rfl, N', hX.mo (by omega)⟩
    have k357 : ∀ (I2 : rk_Mm) (R2 : rk_Rm) (N2 : Nat → Int32) (z4 : Int32), lX rg I2 R2 x (k + 1) N2 → rk_Wp w l rk_mL_isAct 9 2 48 (rk_G w (fun r u => ∃ x', r = some (rk_i x') ∧ (∀ q, Sh.2 q ≠ 0 → u.1.2 q = Sh.2 q) ∧ lZ rg x (k + 1) x' u) 2 48) 357 [(0, rk_a 11 x), (1, rk_a 105 b), (2, rk_i (nI a)), (3, rk_i (nI f)), (4, rk_i z4)] [] (Sh, 0, 0) I2 R2 := by
      intro I2 R2 N2 z4 h2
      obtain ⟨hY2, hs2, hd2⟩ := h2
      obtain ⟨c2, hcc2, hcc⟩ := hY2.c12
      have b1 : 1 ≤ 1 + cellv w (a + 2) 200 ∧ 1 + cellv w (a + 2) 200 ≤ 200 := by have := cellv_lt (w := w) (k := a + 2) (n := 200) (by decide); omega
      have b2 : 10 ≤ 10 + cellv w (a + 3) 51 ∧ 10 + cellv w (a + 3) 51 ≤ 60 := by have := cellv_lt (w := w) (k := a + 3) (n := 51) (by decide); omega
      obtain ⟨hsp, hge⟩ := fibre_ge hY2.vs.1.2.2.2 hf b1 b2
      have gx : ∀ j, j ≠ 20 + 3 * f → j ≠ 20 + 3 * f + 1 → sp_u (sp_u N2 (20 + 3 * f) (nI (1 + cellv w (a + 2) 200))) (20 + 3 * f + 1) (nI (10 + cellv w (a + 3) 51)) j = N2 j := fun j j1 j2 => by rw [sp_un j2, sp_un j1]
      have hs3 := hs2.cg (M := sp_u (sp_u N2 (20 + 3 * f) (nI (1 + cellv w (a + 2) 200))) (20 + 3 * f + 1) (nI (10 + cellv w (a + 3) 51))) hcc hcc2 (gx 12 (by omega) (by omega)) (fun j hj => gx j (by omega) (by omega)) (fun p hp => ⟨gx _ (by omega) (by omega), gx _ (by omega) (by omega)⟩)
      refine rk_aload_n 0 dL_isAct_357 rfl rfl ?_
      refine rk_iload_n 3 dL_isAct_358 rfl rfl ?_
      refine rk_iconst 1 dL_isAct_359 (by decide) ?_
      refine rk_aload_n 1 dL_isAct_360 rfl rfl ?_
      refine rk_iload_n 2 dL_isAct_361 rfl rfl ?_
      refine rk_iconst 2 dL_isAct_362 (by decide) ?_
      refine rk_pc (pc' := 363) rfl ?_
      refine rk_iadd dL_isAct_363 ?_
      refine rk_sipush 200 dL_isAct_364 (by decide) ?_
      refine rk_cSp (cL_cell_v (n := 200) hL (nI_add a 2) rfl (by omega) (by decide) (by decide)) rk_eL_cell rfl rk_kL_95 dL_isAct_367 rfl (by decide) (Nat.le_of_ble_eq_true rfl) ⟨Nat.le_of_ble_eq_true rfl, Nat.le_of_ble_eq_true rfl⟩ ?_
      refine rk_iadd dL_isAct_370 ?_
      rw [show (1 : Int32) + nI (cellv w (a + 2) 200) = nI (1 + cellv w (a + 2) 200) from nI_add 1 _]
      refine rk_bipush 10 dL_isAct_371 (by decide) ?_
      refine rk_aload_n 1 dL_isAct_373 rfl rfl ?_
      refine rk_pc (pc' := 374) rfl ?_
      refine rk_iload_n 2 dL_isAct_374 rfl rfl ?_
      refine rk_iconst 3 dL_isAct_375 (by decide) ?_
      refine rk_iadd dL_isAct_376 ?_
      refine rk_bipush 51 dL_isAct_377 (by decide) ?_
      refine rk_cSp (cL_cell_v (n := 51) hL (nI_add a 3) rfl (by omega) (by decide) (by decide)) rk_eL_cell rfl rk_kL_95 dL_isAct_379 rfl (by decide) (Nat.le_of_ble_eq_true rfl) ⟨Nat.le_of_ble_eq_true rfl, Nat.le_of_ble_eq_true rfl⟩ ?_
      refine rk_iadd dL_isAct_382 ?_
      rw [show (10 : Int32) + nI (cellv w (a + 3) 51) = nI (10 + cellv w (a + 3) 51) from nI_add 10 _]
      refine rk_pc (pc' := 383) rfl ?_
      refine rk_cVi (lq_fibre hY2 _ _ _) rk_eX10_fibre rfl ⟨rfl, rfl⟩ rk_kL_127 dL_isAct_383 rfl (by decide) (Nat.le_of_ble_eq_true rfl) ⟨Nat.le_of_ble_eq_true rfl, Nat.le_of_ble_eq_true rfl⟩ (fun xz1 Iz1 Rz1 hz1 => ?_)
      rw [hsp] at hz1
      obtain ⟨ex, hY3, -⟩ := hz1
      have hY4 : lY rg Iz1 Rz1 x (((k + 1 : Nat) : Int) + 1) (sp_u (sp_u N2 (20 + 3 * f) (nI (1 + cellv w (a + 2) 200))) (20 + 3 * f + 1) (nI (10 + cellv w (a + 3) 51))) := hY3
      refine rk_bipush 110 dL_isAct_386 (by decide) ?_
      refine rk_icmp_lt 395 dL_isAct_388 (by decide) (fun qz388 => ?_) (fun qz388 => ?_)
      · skip
        exact absurd (Eq.subst (motive := fun t : Int32 => t < 110) ex qz388) hge
      · skip
        refine rk_iconst 1 dL_isAct_391 (by decide) ?_
        refine rk_goto 396 dL_isAct_392 (by decide) ?_
        refine rk_iretN dL_isAct_396 rfl (by decide) ?_
        exact ⟨⟨Nat.le_of_ble_eq_true rfl, Nat.le_of_ble_eq_true rfl⟩, fun _ _ => rfl, rfl, _, lX.of hY4 hs3 (by rw [gx 10 (by omega) (by omega)]; exact hd2)⟩
    have k310 : rk_Wp w l rk_mL_isAct 9 2 48 (rk_G w (fun r u => ∃ x', r = some (rk_i x') ∧ (∀ q, Sh.2 q ≠ 0 → u.1.2 q = Sh.2 q) ∧ lZ rg x (k + 1) x' u) 2 48) 310 [(0, rk_a 11 x), (1, rk_a 105 b), (2, rk_i (nI a)), (3, rk_i (nI f))] [] (Sh, 0, 0) I R := by
      have b1 : cellv w (a + 1) 10 < 10 := cellv_lt (by decide)
      by_cases hj : cellv w (a + 1) 10 = 0 ∨ cellv w (a + 1) 10 = 7
      · have hsp := set_no (N := N) hj
        have hbad : ¬ nI (cellv w (a + 1) 10) = 0 → nI (cellv w (a + 1) 10) = 7 := fun z => by
          rcases hj with q | q
          · exact absurd (by rw [q]; rfl) z
          · rw [q]; rfl
        refine rk_aload_n 1 dL_isAct_310 rfl rfl ?_
        refine rk_iload_n 2 dL_isAct_311 rfl rfl ?_
        refine rk_iconst 1 dL_isAct_312 (by decide) ?_
        refine rk_iadd dL_isAct_313 ?_
        refine rk_bipush 10 dL_isAct_314 (by decide) ?_
        refine rk_cSp (cL_cell_v (n := 10) hL (nI_add a 1) rfl (by omega) (by decide) (by decide)) rk_eL_cell rfl rk_kL_95 dL_isAct_316 rfl (by decide) (Nat.le_of_ble_eq_true rfl) ⟨Nat.le_of_ble_eq_true rfl, Nat.le_of_ble_eq_true rfl⟩ ?_
        refine rk_pc (pc' := 319) rfl ?_
        refine rk_istore (ls' := [(4, _), (0, _), (1, _), (2, _), (3, _)]) dL_isAct_319 (by decide) rfl ?_
        refine rk_aload_n 0 dL_isAct_321 rfl rfl ?_
        refine rk_iload dL_isAct_322 rfl ?_
        refine rk_bipush 30 dL_isAct_324 (by decide) ?_
        refine rk_cVi (lq_set hw hY _ _) rk_eX10_set rfl ⟨rfl, rfl⟩ rk_kL_124 dL_isAct_326 rfl (by decide) (Nat.le_of_ble_eq_true rfl) ⟨Nat.le_of_ble_eq_true rfl, Nat.le_of_ble_eq_true rfl⟩ (fun xz1 Iz1 Rz1 hz1 => ?_)
        obtain ⟨N2, h2⟩ := h.set hz1
        have ex : xz1 = -2 := hz1.1.trans (by rw [hsp])
        refine rk_if_lt 336 dL_isAct_329 (by decide) (fun qz329 => ?_) (fun qz329 => ?_)
        · skip
          refine rk_iconst 0 dL_isAct_336 (by decide) ?_
          refine rk_pc (pc' := 337) rfl ?_
          refine rk_iload dL_isAct_337 rfl ?_
          refine rk_if_eq 353 dL_isAct_339 (by decide) (fun qz339 => ?_) (fun qz339 => ?_)
          · skip
            refine rk_iconst 0 dL_isAct_353 (by decide) ?_
            refine rk_icmp_ne 395 dL_isAct_354 (by decide) (fun qz354 => ?_) (fun qz354 => ?_)
            · skip
              exact absurd rfl qz354
            · skip
              refine rk_ord [0, 1, 2, 3, 4] (ls' := [(0, _), (1, _), (2, _), (3, _), (4, _)]) rfl ?_
              exact k357 _ _ N2 _ h2
          · skip
            refine rk_iload dL_isAct_342 rfl ?_
            refine rk_bipush 7 dL_isAct_344 (by decide) ?_
            refine rk_icmp_eq 353 dL_isAct_346 (by decide) (fun qz346 => ?_) (fun qz346 => ?_)
            · skip
              refine rk_iconst 0 dL_isAct_353 (by decide) ?_
              refine rk_icmp_ne 395 dL_isAct_354 (by decide) (fun qz354 => ?_) (fun qz354 => ?_)
              · skip
                exact absurd rfl qz354
              · skip
                refine rk_ord [0, 1, 2, 3, 4] (ls' := [(0, _), (1, _), (2, _), (3, _), (4, _)]) rfl ?_
                exact k357 _ _ N2 _ h2
            · skip
              exact absurd (hbad qz339) qz346
        · skip
          exact absurd (by rw [ex]; decide) qz329
      · have h0 : cellv w (a + 1) 10 ≠ 0 := fun z => hj (Or.inl z)
        have h7 : cellv w (a + 1) 10 ≠ 7 := fun z => hj (Or.inr z)
        obtain ⟨hsp, hpos⟩ := set_yes hY.vs.1.2.2.2 b1 h0 h7
        have n0 : ¬ nI (cellv w (a + 1) 10) = 0 := nI_ne0 (by omega) (by omega)
        have n7 : ¬ nI (cellv w (a + 1) 10) = 7 := fun z => h7 ((nI_eq (by omega) (by decide)).mp z)
        refine rk_aload_n 1 dL_isAct_310 rfl rfl ?_
        refine rk_iload_n 2 dL_isAct_311 rfl rfl ?_
        refine rk_iconst 1 dL_isAct_312 (by decide) ?_
        refine rk_iadd dL_isAct_313 ?_
        refine rk_bipush 10 dL_isAct_314 (by decide) ?_
        refine rk_cSp (cL_cell_v (n := 10) hL (nI_add a 1) rfl (by omega) (by decide) (by decide)) rk_eL_cell rfl rk_kL_95 dL_isAct_316 rfl (by decide) (Nat.le_of_ble_eq_true rfl) ⟨Nat.le_of_ble_eq_true rfl, Nat.le_of_ble_eq_true rfl⟩ ?_
        refine rk_pc (pc' := 319) rfl ?_
        refine rk_istore (ls' := [(4, _), (0, _), (1, _), (2, _), (3, _)]) dL_isAct_319 (by decide) rfl ?_
        refine rk_aload_n 0 dL_isAct_321 rfl rfl ?_
        refine rk_iload dL_isAct_322 rfl ?_
        refine rk_bipush 30 dL_isAct_324 (by decide) ?_
        refine rk_cVi (lq_set hw hY _ _) rk_eX10_set rfl ⟨rfl, rfl⟩ rk_kL_124 dL_isAct_326 rfl (by decide) (Nat.le_of_ble_eq_true rfl) ⟨Nat.le_of_ble_eq_true rfl, Nat.le_of_ble_eq_true rfl⟩ (fun xz1 Iz1 Rz1 hz1 => ?_)
        obtain ⟨N2, h2⟩ := h.set hz1
        have ex : xz1 = N (cellv w (a + 1) 10) := hz1.1.trans (by rw [hsp])
        refine rk_if_lt 336 dL_isAct_329 (by decide) (fun qz329 => ?_) (fun qz329 => ?_)
        · skip
          exact absurd qz329 (by rw [ex]; exact hpos)
        · skip
          refine rk_iconst 1 dL_isAct_332 (by decide) ?_
          refine rk_pc (pc' := 333) rfl ?_
          refine rk_goto 337 dL_isAct_333 (by decide) ?_
          refine rk_iload dL_isAct_337 rfl ?_
          refine rk_if_eq 353 dL_isAct_339 (by decide) (fun qz339 => ?_) (fun qz339 => ?_)
          · skip
            exact absurd qz339 n0
          · skip
            refine rk_iload dL_isAct_342 rfl ?_
            refine rk_bipush 7 dL_isAct_344 (by decide) ?_
            refine rk_icmp_eq 353 dL_isAct_346 (by decide) (fun qz346 => ?_) (fun qz346 => ?_)
            · skip
              exact absurd qz346 n7
            · skip
              refine rk_iconst 1 dL_isAct_349 (by decide) ?_
              refine rk_goto 354 dL_isAct_350 (by decide) ?_
              refine rk_pc (pc' := 354) rfl ?_
              refine rk_icmp_ne 395 dL_isAct_354 (by decide) (fun qz354 => ?_) (fun qz354 => ?_)
              · skip
                exact absurd rfl qz354
              · skip
                refine rk_ord [0, 1, 2, 3, 4] (ls' := [(0, _), (1, _), (2, _), (3, _), (4, _)]) rfl ?_
                exact k357 _ _ N2 _ h2
    refine rk_aload_n 1 dL_isAct_25 rfl rfl ?_
    refine rk_iload_n 2 dL_isAct_26 rfl rfl ?_
    refine rk_bipush 14 dL_isAct_27 (by decide) ?_
    refine rk_cSp (cL_cell_v (n := 14) hL rfl rfl (by omega) (by decide) (by decide)) rk_eL_cell rfl rk_kL_95 dL_isAct_29 rfl (by decide) (Nat.le_of_ble_eq_true rfl) ⟨Nat.le_of_ble_eq_true rfl, Nat.le_of_ble_eq_true rfl⟩ ?_
    refine rk_tsw 397 dL_isAct_32 (by decide) (by decide) (by decide) ?_ (fun qz32 => ?_)
    · refine ⟨fun qz32 => ?_, fun qz32 => ?_, fun qz32 => ?_, fun qz32 => ?_, fun qz32 => ?_, fun qz32 => ?_, fun qz32 => ?_, fun qz32 => ?_, fun qz32 => ?_, fun qz32 => ?_, fun qz32 => ?_, fun qz32 => ?_, fun qz32 => ?_, trivial⟩
      · skip
        refine rk_pc (pc' := 100) (by decide) ?_
        exact k100
      · skip
        refine rk_pc (pc' := 100) (by decide) ?_
        exact k100
      · skip
        refine rk_pc (pc' := 100) (by decide) ?_
        exact k100
      · skip
        refine rk_pc (pc' := 154) (by decide) ?_
        exact k154
      · skip
        refine rk_pc (pc' := 187) (by decide) ?_
        exact k187
      · skip
        refine rk_pc (pc' := 206) (by decide) ?_
        exact k206
      · skip
        refine rk_pc (pc' := 206) (by decide) ?_
        exact k206
      · skip
        refine rk_pc (pc' := 255) (by decide) ?_
        exact k255
      · skip
        refine rk_pc (pc' := 255) (by decide) ?_
        exact k255
      · skip
        refine rk_pc (pc' := 255) (by decide) ?_
        exact k255
      · skip
        refine rk_pc (pc' := 274) (by decide) ?_
        exact k274
      · skip
        refine rk_pc (pc' := 293) (by decide) ?_
        exact k293
      · skip
        refine rk_pc (pc' := 310) (by decide) ?_
        exact k310
    · skip
      exact k397
  refine rk_bN (ls := [(0, _), (1, _), (2, _)]) (by decide) rfl (Nat.le_of_ble_eq_true rfl) ?_
  refine rk_aload_n 1 dL_isAct_0 rfl rfl ?_
  refine rk_iload_n 2 dL_isAct_1 rfl rfl ?_
  refine rk_iconst 1 dL_isAct_2 (by decide) ?_
  refine rk_iadd dL_isAct_3 ?_
  refine rk_iconst 4 dL_isAct_4 (by decide) ?_
  refine rk_cSp (cL_cell_v (n := 4) hL (nI_add a 1) rfl (by omega) (by decide) (by decide)) rk_eL_cell rfl rk_kL_95 dL_isAct_5 rfl (by decide) (Nat.le_of_ble_eq_true rfl) ⟨Nat.le_of_ble_eq_true rfl, Nat.le_of_ble_eq_true rfl⟩ ?_
  refine rk_pc (pc' := 8) rfl ?_
  refine rk_iconst 3 dL_isAct_8 (by decide) ?_
  refine rk_icmp_ne 16 dL_isAct_9 (by decide) (fun qz9 => ?_) (fun qz9 => ?_)
  · skip
    refine rk_aload_n 1 dL_isAct_16 rfl rfl ?_
    refine rk_iload_n 2 dL_isAct_17 rfl rfl ?_
    refine rk_iconst 1 dL_isAct_18 (by decide) ?_
    refine rk_iadd dL_isAct_19 ?_
    refine rk_iconst 3 dL_isAct_20 (by decide) ?_
    refine rk_pc (pc' := 21) rfl ?_
    refine rk_cSp (cL_cell_v (n := 3) hL (nI_add a 1) rfl (by omega) (by decide) (by decide)) rk_eL_cell rfl rk_kL_95 dL_isAct_21 rfl (by decide) (Nat.le_of_ble_eq_true rfl) ⟨Nat.le_of_ble_eq_true rfl, Nat.le_of_ble_eq_true rfl⟩ ?_
    refine rk_istore_n 3 (ls' := [(3, _), (0, _), (1, _), (2, _)]) dL_isAct_24 rfl (by decide) rfl ?_
    refine rk_ord [0, 1, 2, 3] (ls' := [(0, _), (1, _), (2, _), (3, _)]) rfl ?_
    first | exact k25 (cellv w (a + 1) 3) (cellv_lt (by decide)) | exact k25 0 (by decide)
  · skip
    refine rk_iconst 0 dL_isAct_12 (by decide) ?_
    refine rk_goto 24 dL_isAct_13 (by decide) ?_
    refine rk_istore_n 3 (ls' := [(3, _), (0, _), (1, _), (2, _)]) dL_isAct_24 rfl (by decide) rfl ?_
    refine rk_ord [0, 1, 2, 3] (ls' := [(0, _), (1, _), (2, _), (3, _)]) rfl ?_
    first | exact k25 (cellv w (a + 1) 3) (cellv_lt (by decide)) | exact k25 0 (by decide)
end PN

