section DS
variable {w : rk_W} {l : Launch} {Sh : rk_Sh} {rg : Nat → Nat} {I : rk_Mm} {R : rk_Rm} {N : Nat → Int32} {T : Int} {x n L : Nat} {Hs Sv : Nat → Nat → Int32} {F P : Nat → Int32}
theorem cX10_carryOut_s (hT : T + 39 ≤ 1000000) (V : va_ok T N n Hs F Sv P L) (X : cl_X rg I R x N n Hs F Sv P L) (J : Nat → Int32) : rk_J w l rk_mX10_carryOut 8 [rk_a 11 x] Sh I R (fun r I' R' => ((pfo P L J).1.2 = true → cl_A rg I R x (-3, none) N n Hs F Sv P L r I' R') ∧ ((pfo P L J).1.2 = false → cl_A rg I R x (nI (sp_ro (pfo P L J).2.2 (pfo P L J).2.1 0 N).2, some (sp_ro (pfo P L J).2.2 (pfo P L J).2.1 0 N).1) N n Hs F Sv P 0 r I' R')) := by
  have hL := V.2.2.2.2.1
  have hin := pfo_in (P := P) (L := L) (J := J)
  have hs := X.1
  obtain ⟨-, -, -, -, -, -, r1, r2, r3, -, -⟩ := hs
  have hP : ∀ j, j < L → I 15 (R 4 (R 6 (R 11 x 4) 0) 0) j = P j := by rw [r3]; exact X.2.2.2.2.2
  have kf := cX5_firstFault_s (w := w) (l := l) (Sh := Sh) (I := I) (R := R) (r := R 11 x 4) (by rw [r3]; exact X.2.2.2.2.1) hL J
  rw [pfo_cg hP] at kf
  obtain ⟨S, hSe⟩ : ∃ S, S = pfo P L J := ⟨_, rfl⟩
  rw [← hSe] at kf hin ⊢
  obtain ⟨g, hh, hc⟩ := X.2.2.1
  have hgn := hh.2.2.1 n (by have := V.2.1; omega)
  refine rk_bJ (ls := [(0, _)]) (by decide) rfl (Nat.le_of_ble_eq_true rfl) ?_
  refine rk_aload_n 0 dX10_carryOut_0 rfl rfl ?_
  refine rk_g11_4 rk_kX10_34 dX10_carryOut_1 ?_
  refine rk_cVi (kf) rk_eX5_firstFault rfl ⟨rfl, rfl⟩ rk_kX10_190 dX10_carryOut_4 rfl (by decide) (Nat.le_of_ble_eq_true rfl) ⟨Nat.le_refl _, Nat.le_refl _⟩ (fun xz1 Iz1 Rz1 hz1 => ?_)
  obtain ⟨qhz1, e1, t, kd, fd, A, e2⟩ := hz1
  obtain rfl := qhz1.symm
  subst e1
  have f1 : cl_fr rg (fun z => z = 92) I R Iz1 R := by rw [e2]; exact rd_fr (S := fun z => z = 92) r1 r2
  have X1 := X.rf V f1
  have hc1 : cl_hc rg Iz1 R (R 11 x 1) g n Hs := hc.fr hh f1 (fun z hz => by
    rcases hz with hz | ⟨i, hi, hz⟩
    · omega
    · have := V.2.1; have := hh.2.2.1 i (by omega); omega) V.2.1 V.2.2.1
  have hp := cX1_prepare_s (w := w) (l := l) (Sh := Sh) V.1.1 X1.2.1 (Or.inl (by decide)) hh hc1.1 V.2.1
  refine rk_bipush (-6) dX10_carryOut_7 (by decide) ?_
  refine rk_icmp_eq 15 dX10_carryOut_9 (by decide) (fun qz9 => ?_) (fun qz9 => ?_)
  · skip
    refine rk_aload_n 0 dX10_carryOut_15 rfl rfl ?_
    refine rk_g11_1 rk_kX10_19 dX10_carryOut_16 ?_
    refine rk_pc (pc' := 19) rfl ?_
    refine rk_aload_n 0 dX10_carryOut_19 rfl rfl ?_
    refine rk_g11_0 rk_kX10_10 dX10_carryOut_20 ?_
    refine rk_cVv (hp) rk_eX1_prepare rfl ⟨rfl, rfl⟩ rk_kX10_50 dX10_carryOut_23 rfl (by decide) (Nat.le_of_ble_eq_true rfl) ⟨Nat.le_refl _, Nat.le_refl _⟩ (fun Iz2 Rz2 hz2 => ?_)
    obtain ⟨qhz2, y1, f2⟩ := hz2
    obtain rfl := qhz2.symm
    have X2 := X1.re V (f2.mo (T := fun z => 4 ≤ z ∧ z < 32) (fun z hz => by omega)) (fun z hz => by omega) (X1.2.1.fr0 f2 (by omega) V.1.1) ⟨g, hh, hc1.fr hh f2 (fun z hz => by
      rcases hz with hz | ⟨i, hi, hz⟩
      · omega
      · have := V.2.1
        intro e
        have := hh.2.2.2 i n (by omega) (by omega) (by omega)
        omega) V.2.1 V.2.2.1⟩
    have hc2 : cl_hc rg Iz2 R (R 11 x 1) g n Hs := hc1.fr hh f2 (fun z hz => by
      rcases hz with hz | ⟨i, hi, hz⟩
      · omega
      · have := V.2.1
        intro e
        have := hh.2.2.2 i n (by omega) (by omega) (by omega)
        omega) V.2.1 V.2.2.1
    refine rk_aload_n 0 dX10_carryOut_26 rfl rfl ?_
    refine rk_g11_4 rk_kX10_34 dX10_carryOut_27 ?_
    refine rk_cVv (cX5_rewind_s) rk_eX5_rewind rfl ⟨rfl, rfl⟩ rk_kX10_193 dX10_carryOut_30 rfl (by decide) (Nat.le_of_ble_eq_true rfl) ⟨Nat.le_refl _, Nat.le_refl _⟩ (fun Iz3 Rz3 hz3 => ?_)
    obtain ⟨qhz3, eIz3⟩ := hz3
    obtain rfl := qhz3.symm
    have f3 : cl_fr rg (fun z => z = 92) Iz2 R Iz3 R := by rw [eIz3]; exact cl_fr.ui r1
    have X3 := X2.rf V f3
    have hc3 : cl_hc rg Iz3 R (R 11 x 1) g n Hs := hc2.fr hh f3 (fun z hz => by
      rcases hz with hz | ⟨i, hi, hz⟩
      · omega
      · have := V.2.1; have := hh.2.2.1 i (by omega); omega) V.2.1 V.2.2.1
    have hf : S.1.2 = false := by
      cases hh2 : S.1.2 with
      | false => rfl
      | true =>
        rw [if_pos hh2] at qz9
        exact absurd qz9 (fun z => by
          have z2 := congrArg Int32.toInt z
          rw [nI_toInt (by omega)] at z2
          have : (-6 : Int32).toInt = -6 := rfl
          omega)
    have h3 := hin.2 hf
    refine rk_pc (pc' := 33) rfl ?_
    refine rk_iconst 0 dX10_carryOut_33 (by decide) ?_
    refine rk_istore_n 1 (ls' := [(1, _), (0, _)]) dX10_carryOut_34 rfl (by decide) rfl ?_
    refine rk_ord [0, 1] (ls' := [(0, _), (1, _)]) rfl ?_
    exact cX10_carryOut_l (T0 := T) (g := g) (J := J) hf (by omega) hT hL V.1 (sp_ro S.2.2 S.2.1 0 N) (fun I2 R2 h => ⟨fun z => (by rw [hf] at z; cases z), fun _ => h⟩) (L + 1) 0 0 N _ _ (by omega) (Nat.zero_le _) (Or.inl ⟨rfl, rfl, hSe⟩) (V.mo (by omega)) X3 hh hc3 (y1.fr0 f3 (by omega) V.1.1) (((f1.mo (fun z hz => by omega)).tr (f2.mo (fun z hz => by omega))).tr (f3.mo (fun z hz => by omega))) (by rw [rk_ufs eIz3]; rfl) rfl
  · skip
    refine rk_bipush (-3) dX10_carryOut_12 (by decide) ?_
    refine rk_iretJ dX10_carryOut_14 rfl rfl ?_
    have hw : S.1.2 = true := by
      cases hh2 : S.1.2 with
      | true => rfl
      | false => rw [if_neg (by rw [hh2]; decide)] at qz9; exact absurd rfl qz9
    exact ⟨fun _ => ⟨rfl, X1, f1.mo (fun z hz => by omega)⟩, fun z => by rw [hw] at z; cases z⟩
end DS

