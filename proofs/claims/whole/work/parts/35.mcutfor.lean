section ME
variable {w : rk_W} {l : Launch} {Sh : rk_Sh} {I : rk_Mm} {R : rk_Rm}
noncomputable def sp_bq (N : Nat → Int32) (o : Nat) : Int32 := sp_bp N (sp_P N) (sp_O N o) (sp_c N 12)
/-- one rope is cut for an order from piece q -/
def sp_step (N : Nat → Int32) (o q : Nat) : Nat → Int32 :=
  sp_u (sp_u (sp_u (sp_u (sp_cut N q (N (220 + 7 * o + 2))) (30 + 4 * sp_c N (220 + 7 * o) + 1) (N (30 + 4 * sp_c N (220 + 7 * o) + 1) + sp_yin (N (50 + 7 * q + 4)) (N (220 + 7 * o + 2)) (N (50 + 7 * q + 3)))) (220 + 7 * o + 3) (N (220 + 7 * o + 3) - 1)) 14 (N 14 + 1)) 15 (N 15 + N (220 + 7 * o + 6))
/-- an order is filled as far as it goes, with n ropes at most: the row then, and how many ropes -/
noncomputable def sp_cf (o : Nat) : Nat → (Nat → Int32) → (Nat → Int32) × Nat
  | 0, N => (N, 0)
  | n + 1, N => @ite _ (sp_bq N o < 0) (Classical.propDecidable _) (N, 0) ((sp_cf o n (sp_step N o (sp_bq N o).toNatClampNeg)).1, (sp_cf o n (sp_step N o (sp_bq N o).toNatClampNeg)).2 + 1)
theorem sp_cf0 {o n : Nat} {N : Nat → Int32} (h : sp_bq N o < 0) : sp_cf o n N = (N, 0) := by
  cases n with
  | zero => rfl
  | succ n => exact if_pos h
theorem sp_cf1 {o n q : Nat} {N : Nat → Int32} (h : sp_bq N o = nI q) (hq : q < 24) : sp_cf o (n + 1) N = ((sp_cf o n (sp_step N o q)).1, (sp_cf o n (sp_step N o q)).2 + 1) := by
  have h1 : ¬ sp_bq N o < 0 := by rw [h]; exact nI_pos (by omega)
  have h2 : (sp_bq N o).toNatClampNeg = q := by rw [h]; exact nI_clamp (by omega)
  simp only [sp_cf, h2]
  exact if_neg h1
theorem sp_bq_in {T : Int} {N : Nat → Int32} {o c : Nat} (h : sp_pv T N c) : sp_bq N o = -6 ∨ ∃ q, q < c ∧ sp_bq N o = nI q ∧ sp_su N (sp_P N q) (sp_O N o) := by
  unfold sp_bq
  rw [sp_cN h.2.1 (by have := h.1; omega)]
  exact sp_bp_in N (sp_P N) (sp_O N o) c h.1
theorem sp_step_x {N : Nat → Int32} {o q c f g j : Nat} (hc : N 12 = nI c) (hc2 : c ≤ 24) (hq : q < c) (hf : f < 3) (h0 : N (50 + 7 * q) = nI f) (hg : g < 3) (hg0 : N (220 + 7 * o) = nI g) (hfg : f = g) (h1 : j ≠ 12) (h2 : j ≠ 30 + 4 * g + 3) (h3 : j < 50 ∨ 218 ≤ j) (h4 : j ≠ 30 + 4 * g + 1) (h5 : j ≠ 220 + 7 * o + 3) (h6 : j ≠ 14) (h7 : j ≠ 15) : sp_step N o q j = N j := by
  subst hfg
  have hsc : sp_c N (220 + 7 * o) = f := sp_cN hg0 (by omega)
  simp only [sp_step, hsc]
  rw [sp_un h7, sp_un h6, sp_un h5, sp_un h4, sp_cut_x hc hc2 hq hf h0 h1 h2 h3]
theorem sp_pv_step {T : Int} {N : Nat → Int32} {o q c : Nat} (h : sp_pv T N c) (ho : o < 16) (hq : q < c) (hf0 : 0 < (N (220 + 7 * o + 2)).toInt) (hf : (N (220 + 7 * o + 2)).toInt ≤ (N (50 + 7 * q + 3)).toInt) (hg : sp_c N (220 + 7 * o) < 3) : ∃ c', c' ≤ c ∧ sp_pv T (sp_step N o q) c' := by
  obtain ⟨c', h1, h2⟩ := sp_pv_cut h hq hf0 hf
  refine ⟨c', h1, ?_⟩
  have e : ∀ j, j = 12 ∨ (50 ≤ j ∧ j < 218) → sp_step N o q j = sp_cut N q (N (220 + 7 * o + 2)) j := fun j hj => by
    simp only [sp_step]
    rw [sp_un (by omega), sp_un (by omega), sp_un (by omega), sp_un (by omega)]
  obtain ⟨g1, g2, g3, g4, g5⟩ := h2
  refine ⟨g1, by rw [e 12 (Or.inl rfl)]; exact g2, fun i hi => ?_, fun i hi => ?_, ?_⟩
  · rw [e _ (Or.inr (by omega))]; exact g3 i hi
  · rw [e _ (Or.inr (by omega)), e _ (Or.inr (by omega))]; exact g4 i hi
  · rw [sp_sg_c (fun i hi => by rw [e _ (Or.inr (by omega))])]; exact g5
/-- an order's own numbers are well made -/
def sp_ov (N : Nat → Int32) (o : Nat) : Prop := (∃ g, g < 3 ∧ N (220 + 7 * o + 0) = nI g) ∧ 0 < (N (220 + 7 * o + 2)).toInt
theorem cX11_cutFor_loop {m o : Nat} {T : Int} (ho : o < 16) : ∀ (n k c : Nat) (N : Nat → Int32) (J : rk_Mm), n + k < 2 ^ 20 → sp_pv T N c → sp_ov N o → N (220 + 7 * o + 3) = nI n → J = md_a I 26 (R 12 m 0) N → rk_Wp w l rk_mX11_cutFor 5 0 0 (rk_GJ w Sh (fun r I' R' => r = nI (k + (sp_cf o n N).2) ∧ R' = R ∧ I' = md_a I 26 (R 12 m 0) (sp_cf o n N).1)) 18 [(0, rk_a 12 m), (1, rk_i (nI o)), (2, rk_i (nI (220 + 7 * o))), (3, rk_i (nI k)), (4, rk_i (sp_bq N o))] [] (Sh, 0, 0) J R := by
  intro n
  induction n with
  | zero =>
    intro k c N J hk hv hov hn hJ
    have hJa : J 26 (R 12 m 0) = N := by rw [hJ, md_as]
    refine rk_iload dX11_cutFor_18 rfl ?_
    refine rk_if_lt 124 dX11_cutFor_20 (by decide) (fun qz20 => ?_) (fun qz20 => ?_)
    · skip
      refine rk_iload_n 3 dX11_cutFor_124 rfl rfl ?_
      refine rk_iretJ dX11_cutFor_125 rfl rfl ?_
      exact ⟨rfl, rfl, hJ⟩
    · skip
      refine rk_aload_n 0 dX11_cutFor_23 rfl rfl ?_
      refine rk_g12_0 rk_kX11_7 dX11_cutFor_24 ?_
      refine rk_iload_n 2 dX11_cutFor_27 rfl rfl ?_
      refine rk_iconst 3 dX11_cutFor_28 (by decide) ?_
      refine rk_pc (pc' := 29) rfl ?_
      refine rk_iadd dX11_cutFor_29 ?_
      refine rk_rn26 (220+7*o + 3) dX11_cutFor_30 (by first | rfl | decide | assumption | (simp only [rk_lit, nI_add, pk_mul, nI_1]; done) | (simp only [rk_lit, nI_add, pk_mul, nI_1]; congr 1; omega)) (by first | decide | assumption | omega) ?_
      rw [hJa, hn]
      refine rk_if_le 124 dX11_cutFor_31 (by decide) (fun qz31 => ?_) (fun qz31 => ?_)
      · skip
        refine rk_iload_n 3 dX11_cutFor_124 rfl rfl ?_
        refine rk_iretJ dX11_cutFor_125 rfl rfl ?_
        exact ⟨rfl, rfl, hJ⟩
      · skip
        exact absurd (by decide) qz31
  | succ n ih =>
    intro k c N J hk hv hov hn hJ
    have hJa : J 26 (R 12 m 0) = N := by rw [hJ, md_as]
    obtain ⟨⟨g, hg, hg0⟩, hfe⟩ := hov
    have hnp : ¬ nI (n + 1) ≤ 0 := nI_nle (by omega) (by omega)
    rcases sp_bq_in (o := o) hv with hb | ⟨q, hq, hb, hsu⟩
    · have hlt : sp_bq N o < 0 := by rw [hb]; exact rk_n6
      refine rk_iload dX11_cutFor_18 rfl ?_
      refine rk_if_lt 124 dX11_cutFor_20 (by decide) (fun qz20 => ?_) (fun qz20 => ?_)
      · skip
        refine rk_iload_n 3 dX11_cutFor_124 rfl rfl ?_
        refine rk_iretJ dX11_cutFor_125 rfl rfl ?_
        rw [sp_cf0 hlt]
        exact ⟨rfl, rfl, hJ⟩
      · skip
        exact absurd hlt qz20
    · have hnl : ¬ sp_bq N o < 0 := by rw [hb]; exact nI_pos (by have := hv.1; omega)
      have hc24 := hv.1
      obtain ⟨f, hf, hf0⟩ := hv.2.2.1 q hq
      have hfg : f = g := by
        have e1 : N (50 + 7 * q + 0) = N (220 + 7 * o + 0) := hsu.1
        rw [hf0, hg0] at e1
        exact (nI_eq (by omega) (by omega)).mp e1
      subst hfg
      have hsc : sp_c N (220 + 7 * o) = f := sp_cN hg0 (by omega)
      have hfeet : (N (220 + 7 * o + 2)).toInt ≤ (N (50 + 7 * q + 3)).toInt := Int32.le_iff_toInt_le.mp hsu.2.1
      obtain ⟨c', hc', hv'⟩ := sp_pv_step hv ho hq hfe hfeet (by rw [hsc]; exact hf)
      have hx : ∀ j, j ≠ 12 → j ≠ 30 + 4 * f + 3 → (j < 50 ∨ 218 ≤ j) → sp_cut N q (N (220 + 7 * o + 2)) j = N j := fun j j1 j2 j3 => sp_cut_x hv.2.1 hc24 hq hf hf0 j1 j2 j3
      have hsx : ∀ j, 220 ≤ j → j ≠ 220 + 7 * o + 3 → sp_step N o q j = N j := fun j j1 j2 => sp_step_x hv.2.1 hc24 hq hf hf0 hf hg0 rfl (by omega) (by omega) (by omega) (by omega) j2 (by omega) (by omega)
      refine rk_iload dX11_cutFor_18 rfl ?_
      refine rk_if_lt 124 dX11_cutFor_20 (by decide) (fun qz20 => ?_) (fun qz20 => ?_)
      · skip
        exact absurd qz20 hnl
      · skip
        refine rk_aload_n 0 dX11_cutFor_23 rfl rfl ?_
        refine rk_g12_0 rk_kX11_7 dX11_cutFor_24 ?_
        refine rk_iload_n 2 dX11_cutFor_27 rfl rfl ?_
        refine rk_iconst 3 dX11_cutFor_28 (by decide) ?_
        refine rk_iadd dX11_cutFor_29 ?_
        refine rk_pc (pc' := 30) rfl ?_
        refine rk_rn26 (220+7*o + 3) dX11_cutFor_30 (by first | rfl | decide | assumption | (simp only [rk_lit, nI_add, pk_mul, nI_1]; done) | (simp only [rk_lit, nI_add, pk_mul, nI_1]; congr 1; omega)) (by first | decide | assumption | omega) ?_
        rw [hJa, hn]
        refine rk_if_le 124 dX11_cutFor_31 (by decide) (fun qz31 => ?_) (fun qz31 => ?_)
        · skip
          exact absurd qz31 hnp
        · skip
          refine rk_aload_n 0 dX11_cutFor_34 rfl rfl ?_
          refine rk_g12_0 rk_kX11_7 dX11_cutFor_35 ?_
          refine rk_bipush 30 dX11_cutFor_38 (by decide) ?_
          refine rk_iconst 4 dX11_cutFor_40 (by decide) ?_
          refine rk_aload_n 0 dX11_cutFor_41 rfl rfl ?_
          refine rk_pc (pc' := 42) rfl ?_
          refine rk_g12_0 rk_kX11_7 dX11_cutFor_42 ?_
          refine rk_iload_n 2 dX11_cutFor_45 rfl rfl ?_
          refine rk_rn26 (220+7*o) dX11_cutFor_46 (by first | rfl | decide | assumption | (simp only [rk_lit, nI_add, pk_mul, nI_1]; done) | (simp only [rk_lit, nI_add, pk_mul, nI_1]; congr 1; omega)) (by first | decide | assumption | omega) ?_
          rw [hJa, show N (220 + 7 * o) = nI f from hg0]
          refine rk_imul dX11_cutFor_47 ?_
          refine rk_iadd dX11_cutFor_48 ?_
          refine rk_iconst 1 dX11_cutFor_49 (by decide) ?_
          refine rk_pc (pc' := 50) rfl ?_
          refine rk_iadd dX11_cutFor_50 ?_
          refine rk_dup2 dX11_cutFor_51 rfl rfl ?_
          refine rk_rn26 (30 + 4 * f + 1) dX11_cutFor_52 (by first | rfl | decide | assumption | (simp only [rk_lit, nI_add, pk_mul, nI_1]; done) | (simp only [rk_lit, nI_add, pk_mul, nI_1]; congr 1; omega)) (by first | decide | assumption | omega) ?_
          rw [hJa]
          refine rk_aload_n 0 dX11_cutFor_53 rfl rfl ?_
          refine rk_iload dX11_cutFor_54 rfl ?_
          refine rk_aload_n 0 dX11_cutFor_56 rfl rfl ?_
          refine rk_pc (pc' := 57) rfl ?_
          refine rk_g12_0 rk_kX11_7 dX11_cutFor_57 ?_
          refine rk_iload_n 2 dX11_cutFor_60 rfl rfl ?_
          refine rk_iconst 2 dX11_cutFor_61 (by decide) ?_
          refine rk_iadd dX11_cutFor_62 ?_
          refine rk_rn26 (220+7*o + 2) dX11_cutFor_63 (by first | rfl | decide | assumption | (simp only [rk_lit, nI_add, pk_mul, nI_1]; done) | (simp only [rk_lit, nI_add, pk_mul, nI_1]; congr 1; omega)) (by first | decide | assumption | omega) ?_
          rw [hJa]
          refine rk_cVi (cX11_cutFrom_s (f := f) hb hc24 hq (by rw [hJa]; exact hv.2.1) hf (by rw [hJa]; exact hf0) (by rw [hJa]; exact Int32.lt_iff_toInt_lt.mpr (hv.2.2.2.1 q hq).1)) rk_eX11_cutFrom rfl ⟨rfl, rfl⟩ rk_kX11_104 dX11_cutFor_64 rfl (by decide) (Nat.le_of_ble_eq_true rfl) ⟨Nat.le_refl _, Nat.le_refl _⟩ (fun xz1 Iz1 Rz1 hz1 => ?_)
          rw [hJa] at hz1
          obtain ⟨rfl, qhz1, eIz1⟩ := hz1
          obtain rfl := qhz1.symm
          have hahz1 : Iz1 26 (R 12 m 0) = sp_cut N q (N (220 + 7 * o + 2)) := by rw [eIz1, md_as]
          refine rk_pc (pc' := 67) rfl ?_
          refine rk_iadd dX11_cutFor_67 ?_
          refine rk_sn26 (30 + 4 * f + 1) dX11_cutFor_68 (by first | rfl | decide | assumption | (simp only [rk_lit, nI_add, pk_mul, nI_1]; done) | (simp only [rk_lit, nI_add, pk_mul, nI_1]; congr 1; omega)) (by first | decide | assumption | omega) (fun Iz2 eIz2 => ?_)
          have sz2 := rk_ufs eIz2
          have nz2 := rk_ufn eIz2
          have pz2 := md_c1 eIz2
          refine rk_aload_n 0 dX11_cutFor_69 rfl rfl ?_
          refine rk_g12_0 rk_kX11_7 dX11_cutFor_70 ?_
          refine rk_iload_n 2 dX11_cutFor_73 rfl rfl ?_
          refine rk_iconst 3 dX11_cutFor_74 (by decide) ?_
          refine rk_pc (pc' := 75) rfl ?_
          refine rk_iadd dX11_cutFor_75 ?_
          refine rk_dup2 dX11_cutFor_76 rfl rfl ?_
          refine rk_rn26 (220+7*o + 3) dX11_cutFor_77 (by first | rfl | decide | assumption | (simp only [rk_lit, nI_add, pk_mul, nI_1]; done) | (simp only [rk_lit, nI_add, pk_mul, nI_1]; congr 1; omega)) (by first | decide | assumption | omega) ?_
          rw [nz2 (220+7*o + 3) (by omega)]
          rw [hahz1, hx _ (by omega) (by omega) (by omega), hn]
          refine rk_iconst 1 dX11_cutFor_78 (by decide) ?_
          refine rk_isub dX11_cutFor_79 ?_
          refine rk_sn26 (220+7*o + 3) dX11_cutFor_80 (by first | rfl | decide | assumption | (simp only [rk_lit, nI_add, pk_mul, nI_1]; done) | (simp only [rk_lit, nI_add, pk_mul, nI_1]; congr 1; omega)) (by first | decide | assumption | omega) (fun Iz3 eIz3 => ?_)
          have sz3 := rk_ufs eIz3
          have nz3 := rk_ufn eIz3
          have pz3 := md_ch pz2 eIz3
          refine rk_pc (pc' := 81) rfl ?_
          refine rk_aload_n 0 dX11_cutFor_81 rfl rfl ?_
          refine rk_g12_0 rk_kX11_7 dX11_cutFor_82 ?_
          refine rk_bipush 14 dX11_cutFor_85 (by decide) ?_
          refine rk_dup2 dX11_cutFor_87 rfl rfl ?_
          refine rk_rn26 14 dX11_cutFor_88 rfl (by first | decide | assumption | omega) ?_
          rw [nz3 (14) (by omega), nz2 (14) (by omega)]
          rw [hahz1, hx _ (by omega) (by omega) (by omega)]
          refine rk_iconst 1 dX11_cutFor_89 (by decide) ?_
          refine rk_pc (pc' := 90) rfl ?_
          refine rk_iadd dX11_cutFor_90 ?_
          refine rk_sn26 14 dX11_cutFor_91 rfl (by first | decide | assumption | omega) (fun Iz4 eIz4 => ?_)
          have sz4 := rk_ufs eIz4
          have nz4 := rk_ufn eIz4
          have pz4 := md_ch pz3 eIz4
          refine rk_aload_n 0 dX11_cutFor_92 rfl rfl ?_
          refine rk_g12_0 rk_kX11_7 dX11_cutFor_93 ?_
          refine rk_bipush 15 dX11_cutFor_96 (by decide) ?_
          refine rk_dup2 dX11_cutFor_98 rfl rfl ?_
          refine rk_pc (pc' := 99) rfl ?_
          refine rk_rn26 15 dX11_cutFor_99 rfl (by first | decide | assumption | omega) ?_
          rw [nz4 (15) (by omega), nz3 (15) (by omega), nz2 (15) (by omega)]
          rw [hahz1, hx _ (by omega) (by omega) (by omega)]
          refine rk_aload_n 0 dX11_cutFor_100 rfl rfl ?_
          refine rk_g12_0 rk_kX11_7 dX11_cutFor_101 ?_
          refine rk_iload_n 2 dX11_cutFor_104 rfl rfl ?_
          refine rk_bipush 6 dX11_cutFor_105 (by decide) ?_
          refine rk_iadd dX11_cutFor_107 ?_
          refine rk_pc (pc' := 108) rfl ?_
          refine rk_rn26 (220+7*o + 6) dX11_cutFor_108 (by first | rfl | decide | assumption | (simp only [rk_lit, nI_add, pk_mul, nI_1]; done) | (simp only [rk_lit, nI_add, pk_mul, nI_1]; congr 1; omega)) (by first | decide | assumption | omega) ?_
          rw [nz4 (220+7*o + 6) (by omega), nz3 (220+7*o + 6) (by omega), nz2 (220+7*o + 6) (by omega)]
          rw [hahz1, hx _ (by omega) (by omega) (by omega)]
          refine rk_iadd dX11_cutFor_109 ?_
          refine rk_sn26 15 dX11_cutFor_110 rfl (by first | decide | assumption | omega) (fun Iz5 eIz5 => ?_)
          have sz5 := rk_ufs eIz5
          have nz5 := rk_ufn eIz5
          have pz5 := md_ch pz4 eIz5
          refine rk_iinc 1 (ls' := [(3, _), (0, _), (1, _), (2, _), (4, _)]) dX11_cutFor_111 (by decide) rfl (by decide) rfl ?_
          have hfin : Iz5 = md_a I 26 (R 12 m 0) (sp_step N o q) := by
            rw [pz5, eIz1, hJ, md_aa, md_aa]
            simp only [sp_step, hsc, md_as, hn]
          have hst : Iz5 26 (R 12 m 0) = sp_step N o q := by rw [hfin, md_as]
          refine rk_aload_n 0 dX11_cutFor_114 rfl rfl ?_
          refine rk_iload_n 1 dX11_cutFor_115 rfl rfl ?_
          refine rk_pc (pc' := 116) rfl ?_
          refine rk_cVp (cX11_bestPiece_s (c := c') rfl ho (by omega) (by rw [hst]; exact hv'.2.1) (by rw [hst]; exact hv'.2.2.1)) rk_eX11_bestPiece rfl ⟨rfl, rfl⟩ rk_kX11_115 dX11_cutFor_116 rfl (by decide) (Nat.le_of_ble_eq_true rfl) ⟨Nat.le_refl _, Nat.le_refl _⟩ ?_
          rw [hst]
          refine rk_istore (ls' := [(4, _), (3, _), (0, _), (1, _), (2, _)]) dX11_cutFor_119 (by decide) rfl ?_
          refine rk_goto 18 dX11_cutFor_121 (by decide) ?_
          refine rk_ord [0, 1, 2, 3, 4] (ls' := [(0, _), (1, _), (2, _), (3, _), (4, _)]) rfl ?_
          rw [nI_1]
          have hb2 : sp_bp (sp_step N o q) (sp_P (sp_step N o q)) (sp_O (sp_step N o q) o) c' = sp_bq (sp_step N o q) o := by rw [sp_bq, sp_cN hv'.2.1 (by omega)]
          rw [hb2, sp_cf1 hb (by omega), show k + ((sp_cf o n (sp_step N o q)).2 + 1) = k + 1 + (sp_cf o n (sp_step N o q)).2 by omega]
          exact ih (k + 1) c' (sp_step N o q) Iz5 (by omega) hv' ⟨⟨f, hf, by rw [hsx _ (by omega) (by omega)]; exact hg0⟩, by rw [hsx _ (by omega) (by omega)]; exact hfe⟩ (by simp only [sp_step, hsc]; rw [sp_un (by omega), sp_un (by omega), sp_us, hn, nI_pred]) hfin
end ME

