section DR
variable {w : rk_W} {l : Launch} {Sh : rk_Sh} {rg : Nat → Nat} {x n L : Nat} {Hs Sv : Nat → Nat → Int32} {F P : Nat → Int32} {g : Nat → Nat} {N0 : Nat → Int32} {T0 : Int} {I0 : rk_Mm} {R0 : rk_Rm} {Q : Int32 → rk_Mm → rk_Rm → Prop}
theorem va_ok.L0 {T : Int} {N : Nat → Int32} (V : va_ok T N n Hs F Sv P L) : va_ok T N n Hs F Sv P 0 := ⟨V.1, V.2.1, V.2.2.1, V.2.2.2.1, Nat.zero_le _, trivial⟩
theorem cX10_carryOut_e {N : Nat → Int32} {T : Int} {k : Nat} {I : rk_Mm} {R : rk_Rm} (hk : k ≤ 80) (v0 : vs_ok T N0) (hQ : ∀ I2 R2, cl_A rg I0 R0 x (nI k, some N) N0 n Hs F Sv P 0 (nI k) I2 R2 → Q (nI k) I2 R2) (V : va_ok T N n Hs F Sv P L) (X : cl_X rg I R x N n Hs F Sv P L) (hh : cl_hs rg R (R 11 x 1) g) (hc : cl_hc rg I R (R 11 x 1) g n Hs) (y1 : cl_y rg I R (R 14 (R 2 (R 11 x 1) 0) n) (g n) N0) (f0 : cl_fr rg (fun z => z < 104) I0 R0 I R) : rk_Wp w l rk_mX10_carryOut 8 0 0 (rk_GJ w Sh Q) 64 [(0, rk_a 11 x), (1, rk_i (nI k))] [] (Sh, 0, 0) I R := by
  have hp : (0 : Int32) ≤ nI k := nI_pos' (by omega)
  have hgn := hh.2.2.1 n (by have := V.2.1; omega)
  refine rk_aload_n 0 dX10_carryOut_64 rfl rfl ?_
  refine rk_g11_5 rk_kX10_42 dX10_carryOut_65 ?_
  refine rk_cVi (cX3_clear_s) rk_eX3_clear rfl ⟨rfl, rfl⟩ rk_kX10_186 dX10_carryOut_68 rfl (by decide) (Nat.le_of_ble_eq_true rfl) ⟨Nat.le_refl _, Nat.le_refl _⟩ (fun xz1 Iz1 Rz1 hz1 => ?_)
  obtain ⟨e0, qhz1, eIz1⟩ := hz1
  obtain rfl := qhz1.symm
  have f1 : cl_fr rg (fun z => z = 96) I R Iz1 R := by rw [eIz1]; exact cl_fr.ui X.1.2.2.2.2.2.2.2.2.2.1
  have X1 : cl_X rg Iz1 R x N n Hs F Sv P 0 := X.pf V f1 (by rw [rk_ufs eIz1]; rfl) (fun j hj => absurd hj (Nat.not_lt_zero j))
  have hc1 : cl_hc rg Iz1 R (R 11 x 1) g n Hs := hc.fr hh f1 (fun z hz => by
    rcases hz with hz | ⟨i, hi, hz⟩
    · omega
    · have := V.2.1; have := hh.2.2.1 i (by omega); omega) V.2.1 V.2.2.1
  have y2 := y1.fr0 f1 (by omega) v0.1
  refine rk_pop dX10_carryOut_71 rfl ?_
  refine rk_aload_n 0 dX10_carryOut_72 rfl rfl ?_
  refine rk_g11_1 rk_kX10_19 dX10_carryOut_73 ?_
  refine rk_pc (pc' := 76) rfl ?_
  refine rk_iload_n 1 dX10_carryOut_76 rfl rfl ?_
  refine rk_cVi (cX1_settle_s (T := T) (N := N0) (x := nI k) hh hc1 V.2.1 (fun i hi => (V.2.2.1 i hi).1) (fun _ => ⟨v0.1, y2⟩)) rk_eX1_settle rfl ⟨rfl, rfl⟩ rk_kX10_58 dX10_carryOut_77 rfl (by decide) (Nat.le_of_ble_eq_true rfl) ⟨Nat.le_refl _, Nat.le_refl _⟩ (fun xz2 Iz2 Rz2 hz2 => ?_)
  refine rk_iretJ dX10_carryOut_80 rfl rfl ?_
  obtain ⟨s1, s2, s3, s4⟩ := hz2
  subst s1
  have hy3 : cl_y rg Iz2 Rz2 (R 11 x 0) 0 N := X1.2.1.fr0 s4 (by omega) V.1.1
  have X2 := X1.re V.L0 s4 (fun z hz => Or.inr hz) hy3 (s3 hp)
  exact hQ _ _ ⟨rfl, X2, (f0.tr (f1.mo (fun z hz => by omega))).tr (s4.mo (fun z hz => by omega))⟩
theorem cX10_carryOut_l {S : (Nat × Bool) × Nat × (Nat → Int32)} (hS : S.1.2 = false) (hS3 : 3 * S.2.1 ≤ 81) (hT : T0 + 39 ≤ 1000000) (hL : L ≤ 80) (v0 : vs_ok T0 N0) (W : (Nat → Int32) × Nat) (hQ : ∀ I2 R2, cl_A rg I0 R0 x (nI W.2, some W.1) N0 n Hs F Sv P 0 (nI W.2) I2 R2 → Q (nI W.2) I2 R2) : ∀ (m k t : Nat) (N : Nat → Int32) (I : rk_Mm) (R : rk_Rm) (J : Nat → Int32), L + 1 ≤ t + m → t ≤ L → cr_T P L S t k J → va_ok (T0 + k) N n Hs F Sv P L → cl_X rg I R x N n Hs F Sv P L → cl_hs rg R (R 11 x 1) g → cl_hc rg I R (R 11 x 1) g n Hs → cl_y rg I R (R 14 (R 2 (R 11 x 1) 0) n) (g n) N0 → cl_fr rg (fun z => z < 104) I0 R0 I R → I 6 (R 11 x 4) 1 = nI t → W = sp_ro S.2.2 (S.2.1 - k) k N → rk_Wp w l rk_mX10_carryOut 8 0 0 (rk_GJ w Sh Q) 35 [(0, rk_a 11 x), (1, rk_i (nI k))] [] (Sh, 0, 0) I R := by
  intro m
  induction m with
  | zero => intro k t N I R J h1 h2; omega
  | succ m ih =>
    intro k t N I R J h1 h2 hTr V X hh hc y1 f0 ht hW
    have hk := (cr_Tm hTr).1
    have hgn := hh.2.2.1 n (by have := V.2.1; omega)
    have hlt : ¬ (80 : Int32) ≤ nI k := nI_ge (b := 80) (by omega) (by decide)
    have hs := X.1
    obtain ⟨-, -, -, -, -, -, r1, r2, r3, -, -⟩ := hs
    have hP : ∀ j, j < L → I 15 (R 4 (R 6 (R 11 x 4) 0) 0) j = P j := by rw [r3]; exact X.2.2.2.2.2
    have hnj := cX5_nextJob_g (w := w) (l := l) (Sh := Sh) ht (by rw [r3]; exact X.2.2.2.2.1) hL h2 hP k J
    by_cases hend : t = 0 ∨ t < L
    · obtain ⟨s1, s2⟩ := cr_Ts hL hTr hend
      generalize cj P L t k J = Y at hnj s1 s2
      have hY : Y.1.2 = false := by
        cases hh2 : Y.1.2 with
        | false => rfl
        | true =>
          have e := s1 hh2
          rw [← e, hS] at hh2
          cases hh2
      obtain ⟨p1, p2, p3, p4⟩ := s2 hY
      obtain ⟨m1, m2⟩ := cr_Tm p1
      rw [p2] at m1 m2
      have eW : W = @ite _ ((sp_ca S.2.2 k N).1 < 0) (Classical.propDecidable _) ((sp_ca S.2.2 k N).2.getD N, k) (sp_ro S.2.2 (S.2.1 - (k + 1)) (k + 1) ((sp_ca S.2.2 k N).2.getD N)) := by
        rw [hW, show S.2.1 - k = (S.2.1 - (k + 1)) + 1 by omega]
        rfl
      have V1 := (V.mo (T' := T0 + k + 1) (by omega)).nx (vs_ca (T := T0 + k) (by omega) V.1 S.2.2 k)
      refine rk_iload_n 1 dX10_carryOut_35 rfl rfl ?_
      refine rk_bipush 80 dX10_carryOut_36 (by decide) ?_
      refine rk_icmp_ge 64 dX10_carryOut_38 (by decide) (fun qz38 => ?_) (fun qz38 => ?_)
      · skip
        exact absurd qz38 hlt
      · skip
        refine rk_aload_n 0 dX10_carryOut_41 rfl rfl ?_
        refine rk_g11_4 rk_kX10_34 dX10_carryOut_42 ?_
        refine rk_cVi (hnj) rk_eX5_nextJob rfl ⟨rfl, rfl⟩ rk_kX10_196 dX10_carryOut_45 rfl (by decide) (Nat.le_of_ble_eq_true rfl) ⟨Nat.le_refl _, Nat.le_refl _⟩ (fun xz1 Iz1 Rz1 hz1 => ?_)
        obtain ⟨qhz1, kd, fd, A, e1, e2, e3⟩ := hz1
        obtain rfl := qhz1.symm
        subst e1
        obtain ⟨g1, g2, g3⟩ := e3 hY
        have f1 : cl_fr rg (fun z => z = 92) I R Iz1 R := by rw [e2]; exact rd_fr (S := fun z => z = 92) r1 r2
        have X1 := X.rf V f1
        have hc1 : cl_hc rg Iz1 R (R 11 x 1) g n Hs := hc.fr hh f1 (fun z hz => by
          rcases hz with hz | ⟨i, hi, hz⟩
          · omega
          · have := V.2.1; have := hh.2.2.1 i (by omega); omega) V.2.1 V.2.2.1
        have y2 := y1.fr0 f1 (by omega) (sp_iv_T v0.1 (T' := T0 + k) (by omega))
        refine rk_if_eq 64 dX10_carryOut_48 (by decide) (fun qz48 => ?_) (fun qz48 => ?_)
        · skip
          rw [hY] at qz48; exact absurd qz48 (by decide)
        · skip
          refine rk_aload_n 0 dX10_carryOut_51 rfl rfl ?_
          refine rk_pc (pc' := 52) rfl ?_
          refine rk_cVi (cX10_doJob_s (J := S.2.2) (k := k) V.1.1 X1.2.1 (by rw [e2]; exact rd_r2) g1 ((m2 _ (by omega)).trans g2) (fun j hj => by
  have hj4 : j < 4 := by
    have := (cr_bt _ (cr_sh5 (kd := kd))).2.1
    have h5 : cr_n (cr_tx kd) ≤ 4 := this
    omega
  rw [e2, rd_ra, g3 j hj]
  exact (m2 _ (by omega)).symm)) rk_eX10_doJob rfl ⟨rfl, rfl⟩ rk_kX10_200 dX10_carryOut_52 rfl (by decide) (Nat.le_of_ble_eq_true rfl) ⟨Nat.le_refl _, Nat.le_refl _⟩ (fun xz2 Iz2 Rz2 hz2 => ?_)
          obtain ⟨q1, q2, q3⟩ := hz2
          subst q1
          have e11 : Rz2 11 = R 11 := q2.2.2 11 (by decide) (by decide) (by decide)
          have e2r : Rz2 2 = R 2 := q2.2.2 2 (by decide) (by decide) (by decide)
          have e14 : Rz2 14 (R 2 (R 11 x 1) 0) = R 14 (R 2 (R 11 x 1) 0) := q2.2.1 14 _ (by rw [hh.2.1]; omega)
          have hh2 : cl_hs rg Rz2 (R 11 x 1) g := hh.fr q2 (by omega)
          have hc2 : cl_hc rg Iz2 Rz2 (R 11 x 1) g n Hs := hc1.fr hh q2 (fun z hz => by
            rcases hz with hz | ⟨i, hi, hz⟩
            · omega
            · have := V.2.1; have := hh.2.2.1 i (by omega); omega) V.2.1 V.2.2.1
          have y3 : cl_y rg Iz2 Rz2 (Rz2 14 (Rz2 2 (Rz2 11 x 1) 0) n) (g n) N0 := by rw [e11, e2r, e14]; exact y2.fr0 q2 (by omega) (sp_iv_T v0.1 (T' := T0 + k) (by omega))
          have X2 := X1.re V q2 (fun z hz => by omega) q3 ⟨g, hh2, hc2⟩
          have f2 : cl_fr rg (fun z => z < 104) I0 R0 Iz2 Rz2 := (f0.tr (f1.mo (fun z hz => by omega))).tr (q2.mo (fun z hz => by omega))
          refine rk_if_lt 64 dX10_carryOut_55 (by decide) (fun qz55 => ?_) (fun qz55 => ?_)
          · skip
            rw [if_pos qz55] at eW
            subst eW
            exact cX10_carryOut_e (by omega) ((v0.mo (T' := T0 + k + 1) (by omega))) hQ V1 X2 (by rw [e11]; exact hh2) (by rw [e11]; exact hc2) y3 f2
          · skip
            refine rk_iinc 1 (ls' := [(1, _), (0, _)]) dX10_carryOut_58 (by decide) rfl (by decide) rfl ?_
            refine rk_goto 35 dX10_carryOut_61 (by decide) ?_
            refine rk_ord [0, 1] (ls' := [(0, _), (1, _)]) rfl ?_
            rw [if_neg qz55] at eW
            rw [nI_1]
            refine ih (k + 1) Y.1.1 _ _ _ Y.2.2 (by omega) p4 (by rw [← p2]; exact p1) ?_ X2 (by rw [e11]; exact hh2) (by rw [e11]; exact hc2) y3 f2 ?_ eW
            · rw [show T0 + ((k + 1 : Nat) : Int) = T0 + k + 1 by omega]; exact V1
            · rw [e11, q2.1 6 _ (by rw [r1]; omega), e2]; exact rd_r1
    · have hst := cr_Te hTr (by omega) (by omega)
      have hY : cj P L t k J = ((t, true), k, J) := by
        have e : pn P L 59 (t, false) = (t, true) := if_neg (fun z => by
          have z2 := z.2
          rw [show pg P L t = 0 from if_neg (by omega)] at z2
          exact absurd z2 (by decide))
        unfold cj
        rw [if_neg (by omega), e, if_pos (by rfl)]
      rw [hY] at hnj
      have eW : W = (N, k) := by rw [hW, hst, show k - k = 0 by omega]; rfl
      subst eW
      refine rk_iload_n 1 dX10_carryOut_35 rfl rfl ?_
      refine rk_bipush 80 dX10_carryOut_36 (by decide) ?_
      refine rk_icmp_ge 64 dX10_carryOut_38 (by decide) (fun qz38 => ?_) (fun qz38 => ?_)
      · skip
        exact absurd qz38 hlt
      · skip
        refine rk_aload_n 0 dX10_carryOut_41 rfl rfl ?_
        refine rk_g11_4 rk_kX10_34 dX10_carryOut_42 ?_
        refine rk_cVi (hnj) rk_eX5_nextJob rfl ⟨rfl, rfl⟩ rk_kX10_196 dX10_carryOut_45 rfl (by decide) (Nat.le_of_ble_eq_true rfl) ⟨Nat.le_refl _, Nat.le_refl _⟩ (fun xz1 Iz1 Rz1 hz1 => ?_)
        obtain ⟨qhz1, kd, fd, A, e1, e2, e3⟩ := hz1
        obtain rfl := qhz1.symm
        subst e1
        have f1 : cl_fr rg (fun z => z = 92) I R Iz1 R := by rw [e2]; exact rd_fr (S := fun z => z = 92) r1 r2
        have X1 := X.rf V f1
        have hc1 : cl_hc rg Iz1 R (R 11 x 1) g n Hs := hc.fr hh f1 (fun z hz => by
          rcases hz with hz | ⟨i, hi, hz⟩
          · omega
          · have := V.2.1; have := hh.2.2.1 i (by omega); omega) V.2.1 V.2.2.1
        have y2 := y1.fr0 f1 (by omega) (sp_iv_T v0.1 (T' := T0 + k) (by omega))
        refine rk_if_eq 64 dX10_carryOut_48 (by decide) (fun qz48 => ?_) (fun qz48 => ?_)
        · skip
          exact cX10_carryOut_e (by omega) ((v0.mo (T' := T0 + k) (by omega))) hQ V X1 hh hc1 y2 (f0.tr (f1.mo (fun z hz => by omega)))
        · skip
          exact absurd rfl qz48
end DR

