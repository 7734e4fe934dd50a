section DO
variable {P P2 : Nat → Int32} {L : Nat}
theorem pg_cg (h : ∀ j, j < L → P j = P2 j) (t : Nat) : pg P L t = pg P2 L t := by
  unfold pg
  split
  · next z => exact h t z
  · rfl
theorem pn_cg (h : ∀ j, j < L → P j = P2 j) : pn P L = pn P2 L := by
  funext c s
  unfold pn
  rw [pg_cg h]
theorem pd_cg (h : ∀ j, j < L → P j = P2 j) : pd P L = pd P2 L := by
  funext lo hi s
  unfold pd
  rw [pg_cg h]
theorem pl_cg (h : ∀ j, j < L → P j = P2 j) : pl P L = pl P2 L := by
  funext k
  induction k with
  | zero => rfl
  | succ k ih =>
    funext t v
    simp only [pl]
    rw [pg_cg h, ih]
theorem pN_cg (h : ∀ j, j < L → P j = P2 j) : pN P L = pN P2 L := by
  funext s
  unfold pN
  rw [pd_cg h, pl_cg h]
theorem po_cg (h : ∀ j, j < L → P j = P2 j) : po P L = po P2 L := by
  funext kd s J b
  unfold po
  rw [pd_cg h, pN_cg h, pn_cg h]
theorem pr_cg (h : ∀ j, j < L → P j = P2 j) : pr P L = pr P2 L := by
  funext t mn J
  unfold pr
  rw [pg_cg h, po_cg h]
theorem pf_cg (h : ∀ j, j < L → P j = P2 j) : pf P L = pf P2 L := by
  funext g
  induction g with
  | zero => rfl
  | succ g ih =>
    funext s
    simp only [pf]
    rw [pn_cg h, pr_cg h, ih]
theorem pfo_cg (h : ∀ j, j < L → P j = P2 j) : pfo P L = pfo P2 L := by
  funext J
  unfold pfo
  rw [pf_cg h, pr_cg h]
end DO
section DP
variable {rg : Nat → Nat} {I : rk_Mm} {R : rk_Rm} {N N' : Nat → Int32} {T T' : Int} {x n L : Nat} {Hs Sv : Nat → Nat → Int32} {F P : Nat → Int32}
/-- what changes the reader alone -/
theorem cl_X.rf {I' : rk_Mm} (X : cl_X rg I R x N n Hs F Sv P L) (V : va_ok T N n Hs F Sv P L) (f : cl_fr rg (fun z => z = 92) I R I' R) : cl_X rg I' R x N n Hs F Sv P L := by
  obtain ⟨X1, X2, ⟨g, hh, hc⟩, X4, X5, X6⟩ := X
  refine ⟨X1, X2.fr0 f (by omega) V.1.1, ⟨g, hh, hc.fr hh f (fun z hz => by
    rcases hz with hz | ⟨i, hi, hz⟩
    · omega
    · have := V.2.1; have := hh.2.2.1 i (by omega); omega) V.2.1 V.2.2.1⟩, fun b hb => ?_, ?_, fun j hj => ?_⟩
  · obtain ⟨k1, k2, k3⟩ := X4 b hb
    refine ⟨by rw [f.1 25 _ (by rw [X1.2.2.1]; omega)]; exact k1, k2, fun h => ?_⟩
    exact (k3 h).fr0 f (fun z hz => by omega) (V.2.2.2.1 b hb h).1
  · rw [f.1 4 _ (by rw [X1.2.2.2.2.2.2.2.2.2.1]; omega)]; exact X5
  · rw [f.1 15 _ (by rw [X1.2.2.2.2.2.2.2.2.2.2]; omega)]; exact X6 j hj
theorem rd_fr {S : Nat → Prop} {r a : Nat} {t kd fd : Int32} {A : Nat → Int32} (h1 : S (rg r)) (h2 : S (rg a)) : cl_fr rg S I R (rd_st I r a t kd fd A) R := (cl_fr.ma (S := S) h2).tr (cl_fr.ma (S := S) h1)
theorem rd_self {r a : Nat} {t : Int32} (h : I 6 r 1 = t) : rd_st I r a t (I 6 r 2) (I 6 r 4) (I 16 a) = I := by
  rw [← rd_i1, ← h]
  funext c b j
  unfold rk_uI
  split
  · next z => rw [z.1, z.2.1, z.2.2]
  · rfl
theorem vs_ok.mo (h : vs_ok T N) (e : T ≤ T') : vs_ok T' N := ⟨sp_iv_T h.1 e, h.2⟩
theorem va_ok.mo (V : va_ok T N n Hs F Sv P L) (e : T ≤ T') : va_ok T' N n Hs F Sv P L := ⟨V.1.mo e, V.2.1, fun i hi => (V.2.2.1 i hi).mo e, fun b hb h => (V.2.2.2.1 b hb h).mo e, V.2.2.2.2⟩
theorem va_ok.nx (V : va_ok T N n Hs F Sv P L) (e : vs_ok T N') : va_ok T N' n Hs F Sv P L := ⟨e, V.2⟩
theorem sp_ok_ca (hv : sp_iv T N) (hj : sp_jv N) (J : Nat → Int32) (k : Nat) : sp_ok (sp_ca J k N) := by
  unfold sp_ca sp_carry
  split
  · exact sp_ok_fill hv hj _
  · split
    · exact sp_ok_join hv hj _ _
    · split
      · exact sp_ok_lay hv hj _ _ _ _
      · split
        · exact sp_ok_test hv hj _
        · split
          · exact sp_ok_spin hv hj _ _
          · exact sp_ok_pass hv hj _
theorem vs_ca (hT : T ≤ 1000000) (h : vs_ok T N) (J : Nat → Int32) (k : Nat) : vs_ok (T + 1) ((sp_ca J k N).2.getD N) := by
  refine ⟨sp_iv_carry hT h.1, ?_⟩
  have ok := sp_ok_ca h.1 h.2 J k
  cases ha : (sp_ca J k N).2 with
  | none => exact h.2
  | some M => exact (ok.2 M ha).2
end DP
section DQ
variable {w : rk_W} {l : Launch} {Sh : rk_Sh} {rg : Nat → Nat} {I : rk_Mm} {R : rk_Rm} {N : Nat → Int32} {T : Int} {x n L : Nat} {Hs Sv : Nat → Nat → Int32} {F P : Nat → Int32}
theorem cX10_doJob_s {kd : Int32} {J : Nat → Int32} {k : Nat} (hv : sp_iv T N) (h : cl_y rg I R (R 11 x 0) 0 N) (hk : I 6 (R 11 x 4) 2 = kd) (h6 : pk6 kd) (hJ : J (5 * k) = kd) (hA : ∀ j, j < cr_n (cr_tx kd) → I 16 (R 6 (R 11 x 4) 3) j = J (5 * k + 1 + j)) : rk_J w l rk_mX10_doJob 7 [rk_a 11 x] Sh I R (cl_Q rg I R (R 11 x 0) 0 N (sp_ca J k N)) := by
  unfold sp_ca
  rw [hJ]
  refine rk_bJ (ls := [(0, _)]) (by decide) rfl (Nat.le_of_ble_eq_true rfl) ?_
  refine rk_aload_n 0 dX10_doJob_0 rfl rfl ?_
  refine rk_g11_4 rk_kX10_34 dX10_doJob_1 ?_
  refine rk_g6_3 rk_kX10_203 dX10_doJob_4 ?_
  refine rk_astore_n 1 (ls' := [(1, _), (0, _)]) dX10_doJob_7 rfl (by decide) rfl ?_
  refine rk_aload_n 0 dX10_doJob_8 rfl rfl ?_
  refine rk_g11_4 rk_kX10_34 dX10_doJob_9 ?_
  refine rk_pc (pc' := 12) rfl ?_
  refine rk_g6_2 rk_kX10_206 dX10_doJob_12 ?_
  rw [hk]
  refine rk_lsw 134 dX10_doJob_15 (by decide) (by decide) (by decide) ?_ (fun qz15 => ?_)
  · refine ⟨fun qz15 => ?_, fun qz15 => ?_, fun qz15 => ?_, fun qz15 => ?_, fun qz15 => ?_, trivial⟩
    · skip
      have hw : kd = 102 := rk_toI qz15 (by decide)
      subst hw
      refine rk_pc (pc' := 123) (by decide) ?_
      refine rk_aload_n 0 dX10_doJob_123 rfl rfl ?_
      refine rk_g11_0 rk_kX10_10 dX10_doJob_124 ?_
      refine rk_aload_n 1 dX10_doJob_127 rfl rfl ?_
      refine rk_iconst 0 dX10_doJob_128 (by decide) ?_
      refine rk_rn16 0 dX10_doJob_129 rfl (by first | decide | assumption | omega) ?_
      rw [hA 0 (by decide)]
      refine rk_pc (pc' := 130) rfl ?_
      refine rk_cVi (cX9_fillOrder_s hv h _) rk_eX9_fillOrder rfl ⟨rfl, rfl⟩ rk_kX10_83 dX10_doJob_130 rfl (by decide) (Nat.le_of_ble_eq_true rfl) ⟨Nat.le_refl _, Nat.le_refl _⟩ (fun xz1 Iz1 Rz1 hz1 => ?_)
      refine rk_iretJ dX10_doJob_133 rfl rfl ?_
      exact hz1
    · skip
      have hw : kd = 106 := rk_toI qz15 (by decide)
      subst hw
      refine rk_pc (pc' := 98) (by decide) ?_
      refine rk_aload_n 0 dX10_doJob_98 rfl rfl ?_
      refine rk_g11_0 rk_kX10_10 dX10_doJob_99 ?_
      refine rk_aload_n 1 dX10_doJob_102 rfl rfl ?_
      refine rk_iconst 0 dX10_doJob_103 (by decide) ?_
      refine rk_rn16 0 dX10_doJob_104 rfl (by first | decide | assumption | omega) ?_
      rw [hA 0 (by decide)]
      refine rk_pc (pc' := 105) rfl ?_
      refine rk_aload_n 1 dX10_doJob_105 rfl rfl ?_
      refine rk_iconst 1 dX10_doJob_106 (by decide) ?_
      refine rk_rn16 1 dX10_doJob_107 rfl (by first | decide | assumption | omega) ?_
      rw [hA 1 (by decide)]
      refine rk_cVi (cX9_joinPieces_s hv h _ _) rk_eX9_joinPieces rfl ⟨rfl, rfl⟩ rk_kX10_73 dX10_doJob_108 rfl (by decide) (Nat.le_of_ble_eq_true rfl) ⟨Nat.le_refl _, Nat.le_refl _⟩ (fun xz1 Iz1 Rz1 hz1 => ?_)
      refine rk_iretJ dX10_doJob_111 rfl rfl ?_
      exact hz1
    · skip
      have hw : kd = 108 := rk_toI qz15 (by decide)
      subst hw
      refine rk_pc (pc' := 78) (by decide) ?_
      refine rk_aload_n 0 dX10_doJob_78 rfl rfl ?_
      refine rk_g11_0 rk_kX10_10 dX10_doJob_79 ?_
      refine rk_pc (pc' := 82) rfl ?_
      refine rk_aload_n 1 dX10_doJob_82 rfl rfl ?_
      refine rk_iconst 0 dX10_doJob_83 (by decide) ?_
      refine rk_rn16 0 dX10_doJob_84 rfl (by first | decide | assumption | omega) ?_
      rw [hA 0 (by decide)]
      refine rk_aload_n 1 dX10_doJob_85 rfl rfl ?_
      refine rk_iconst 1 dX10_doJob_86 (by decide) ?_
      refine rk_rn16 1 dX10_doJob_87 rfl (by first | decide | assumption | omega) ?_
      rw [hA 1 (by decide)]
      refine rk_pc (pc' := 88) rfl ?_
      refine rk_aload_n 1 dX10_doJob_88 rfl rfl ?_
      refine rk_iconst 2 dX10_doJob_89 (by decide) ?_
      refine rk_rn16 2 dX10_doJob_90 rfl (by first | decide | assumption | omega) ?_
      rw [hA 2 (by decide)]
      refine rk_aload_n 1 dX10_doJob_91 rfl rfl ?_
      refine rk_iconst 3 dX10_doJob_92 (by decide) ?_
      refine rk_rn16 3 dX10_doJob_93 rfl (by first | decide | assumption | omega) ?_
      rw [hA 3 (by decide)]
      refine rk_pc (pc' := 94) rfl ?_
      refine rk_cVi (cX9_layRope_s hv h _ _ _ _) rk_eX9_layRope rfl ⟨rfl, rfl⟩ rk_kX10_69 dX10_doJob_94 rfl (by decide) (Nat.le_of_ble_eq_true rfl) ⟨Nat.le_refl _, Nat.le_refl _⟩ (fun xz1 Iz1 Rz1 hz1 => ?_)
      refine rk_iretJ dX10_doJob_97 rfl rfl ?_
      exact hz1
    · skip
      have hw : kd = 116 := rk_toI qz15 (by decide)
      subst hw
      refine rk_pc (pc' := 112) (by decide) ?_
      refine rk_aload_n 0 dX10_doJob_112 rfl rfl ?_
      refine rk_g11_0 rk_kX10_10 dX10_doJob_113 ?_
      refine rk_aload_n 1 dX10_doJob_116 rfl rfl ?_
      refine rk_iconst 0 dX10_doJob_117 (by decide) ?_
      refine rk_rn16 0 dX10_doJob_118 rfl (by first | decide | assumption | omega) ?_
      rw [hA 0 (by decide)]
      refine rk_pc (pc' := 119) rfl ?_
      refine rk_cVi (cX9_testPiece_s hv h _) rk_eX9_testPiece rfl ⟨rfl, rfl⟩ rk_kX10_76 dX10_doJob_119 rfl (by decide) (Nat.le_of_ble_eq_true rfl) ⟨Nat.le_refl _, Nat.le_refl _⟩ (fun xz1 Iz1 Rz1 hz1 => ?_)
      refine rk_iretJ dX10_doJob_122 rfl rfl ?_
      exact hz1
    · skip
      have hw : kd = 121 := rk_toI qz15 (by decide)
      subst hw
      refine rk_pc (pc' := 64) (by decide) ?_
      refine rk_aload_n 0 dX10_doJob_64 rfl rfl ?_
      refine rk_g11_0 rk_kX10_10 dX10_doJob_65 ?_
      refine rk_aload_n 1 dX10_doJob_68 rfl rfl ?_
      refine rk_iconst 0 dX10_doJob_69 (by decide) ?_
      refine rk_rn16 0 dX10_doJob_70 rfl (by first | decide | assumption | omega) ?_
      rw [hA 0 (by decide)]
      refine rk_pc (pc' := 71) rfl ?_
      refine rk_aload_n 1 dX10_doJob_71 rfl rfl ?_
      refine rk_iconst 1 dX10_doJob_72 (by decide) ?_
      refine rk_rn16 1 dX10_doJob_73 rfl (by first | decide | assumption | omega) ?_
      rw [hA 1 (by decide)]
      refine rk_cVi (cX9_spinYarn_s hv h _ _) rk_eX9_spinYarn rfl ⟨rfl, rfl⟩ rk_kX10_66 dX10_doJob_74 rfl (by decide) (Nat.le_of_ble_eq_true rfl) ⟨Nat.le_refl _, Nat.le_refl _⟩ (fun xz1 Iz1 Rz1 hz1 => ?_)
      refine rk_iretJ dX10_doJob_77 rfl rfl ?_
      exact hz1
  · skip
    obtain rfl : kd = 100 := by
      rcases h6 with h | h | h | h | h | h
      · subst h; exact absurd qz15 (by decide)
      · subst h; exact absurd qz15 (by decide)
      · subst h; exact absurd qz15 (by decide)
      · subst h; exact absurd qz15 (by decide)
      · subst h; exact absurd qz15 (by decide)
      · exact h
    refine rk_aload_n 0 dX10_doJob_134 rfl rfl ?_
    refine rk_g11_0 rk_kX10_10 dX10_doJob_135 ?_
    refine rk_pc (pc' := 138) rfl ?_
    refine rk_aload_n 1 dX10_doJob_138 rfl rfl ?_
    refine rk_iconst 0 dX10_doJob_139 (by decide) ?_
    refine rk_rn16 0 dX10_doJob_140 rfl (by first | decide | assumption | omega) ?_
    rw [hA 0 (by decide)]
    refine rk_cVi (cX9_passDays_s hv h _) rk_eX9_passDays rfl ⟨rfl, rfl⟩ rk_kX10_89 dX10_doJob_141 rfl (by decide) (Nat.le_of_ble_eq_true rfl) ⟨Nat.le_refl _, Nat.le_refl _⟩ (fun xz1 Iz1 Rz1 hz1 => ?_)
    refine rk_iretJ dX10_doJob_144 rfl rfl ?_
    exact hz1
theorem cX5_nextJob_g {r t : Nat} (h1 : I 6 r 1 = nI t) (hl : I 4 (R 6 r 0) 1 = nI L) (hL : L ≤ 80) (ht : t ≤ L) (hP : ∀ j, j < L → I 15 (R 4 (R 6 r 0) 0) j = P j) (mn : Nat) (J : Nat → Int32) : rk_J w l rk_mX5_nextJob 5 [rk_a 6 r] Sh I R (fun x I' R' => R' = R ∧ cr_j I r (R 6 r 3) mn (cj P L t mn J) x I') := by
  have k := cX5_nextJob_s (w := w) (l := l) (Sh := Sh) (kd := I 6 r 2) (fd := I 6 r 4) (A := I 16 (R 6 r 3)) hl hL ht mn J
  rw [rd_self h1, show cj (I 15 (R 4 (R 6 r 0) 0)) L t mn J = cj P L t mn J by unfold cj; rw [pr_cg hP, pn_cg hP]] at k
  exact k
theorem cX10_fault_s (V : va_ok T N n Hs F Sv P L) (X : cl_X rg I R x N n Hs F Sv P L) (J : Nat → Int32) : rk_J w l rk_mX10_fault 7 [rk_a 11 x] Sh I R (fun r I' R' => r = (if (pfo P L J).1.2 = true then nI (pfo P L J).1.1 else -6) ∧ cl_X rg I' R' x N n Hs F Sv P L ∧ cl_fr rg (fun z => z < 104) I R I' R') := by
  have hs := X.1
  obtain ⟨-, -, -, -, -, -, r1, r2, r3, -, -⟩ := hs
  have hP : ∀ j, j < L → I 15 (R 4 (R 6 (R 11 x 4) 0) 0) j = P j := by rw [r3]; exact X.2.2.2.2.2
  have k := cX5_firstFault_s (w := w) (l := l) (Sh := Sh) (I := I) (R := R) (r := R 11 x 4) (by rw [r3]; exact X.2.2.2.2.1) V.2.2.2.2.1 J
  rw [pfo_cg hP] at k
  refine rk_bJ (ls := [(0, _)]) (by decide) rfl (Nat.le_of_ble_eq_true rfl) ?_
  refine rk_aload_n 0 dX10_fault_0 rfl rfl ?_
  refine rk_g11_4 rk_kX10_34 dX10_fault_1 ?_
  refine rk_cVi (k) rk_eX5_firstFault rfl ⟨rfl, rfl⟩ rk_kX10_190 dX10_fault_4 rfl (by decide) (Nat.le_of_ble_eq_true rfl) ⟨Nat.le_refl _, Nat.le_refl _⟩ (fun xz1 Iz1 Rz1 hz1 => ?_)
  obtain ⟨qhz1, e1, t, kd, fd, A, e2⟩ := hz1
  obtain rfl := qhz1.symm
  subst e1
  have f : cl_fr rg (fun z => z = 92) I R Iz1 R := by rw [e2]; exact rd_fr (S := fun z => z = 92) r1 r2
  refine rk_iretJ dX10_fault_7 rfl rfl ?_
  exact ⟨rfl, X.rf V f, f.mo (fun z hz => by omega)⟩
end DQ

