section MV
variable {w : rk_W} {l : Launch} {Sh : rk_Sh} {I : rk_Mm} {R : rk_Rm}
noncomputable def sp_least (N : Nat → Int32) (f s st : Int32) : Int32 := @ite _ (0 ≤ f ∧ f ≤ 2) (Classical.propDecidable _) (@ite _ ((3 ≤ s ∧ s ≤ 4) ∧ (1 ≤ st ∧ st ≤ 50000)) (Classical.propDecidable _) (sp_first (fun y => st ≤ sp_news N f.toNatClampNeg s (nI y)) 40 1) (-2)) (-1)
theorem cX11_least_l {m fi : Nat} {s st : Int32} (hf : fi < 3) : ∀ n k : Nat, ∀ z : Int32, k + n = 41 → 1 ≤ k → z = sp_first (fun y => st ≤ sp_news (I 26 (R 12 m 0)) fi s (nI y)) n k → rk_Wp w l rk_mX11_leastYarns 4 0 0 (rk_GP w Sh I R z) 34 [(0, rk_a 12 m), (1, rk_i (nI fi)), (2, rk_i s), (3, rk_i st), (4, rk_i (nI k))] [] (Sh, 0, 0) I R := by
  intro n
  induction n with
  | zero =>
    intro k z hk h1 hz
    obtain rfl : k = 41 := by omega
    refine rk_iload dX11_leastYarns_34 rfl ?_
    refine rk_bipush 40 dX11_leastYarns_36 (by decide) ?_
    refine rk_icmp_gt 62 dX11_leastYarns_38 (by decide) (fun qz38 => ?_) (fun qz38 => ?_)
    · skip
      refine rk_bipush (-6) dX11_leastYarns_62 (by decide) ?_
      refine rk_iretP dX11_leastYarns_64 rfl rfl ?_
      exact hz.symm
    · skip
      exact absurd (by decide) qz38
  | succ n ih =>
    intro k z hk h1 hz
    have hk40 : ¬ (40 : Int32) < nI k := Int32.not_lt.mpr (show nI k ≤ nI 40 from nI_le (by omega) (by omega))
    refine rk_iload dX11_leastYarns_34 rfl ?_
    refine rk_bipush 40 dX11_leastYarns_36 (by decide) ?_
    refine rk_icmp_gt 62 dX11_leastYarns_38 (by decide) (fun qz38 => ?_) (fun qz38 => ?_)
    · skip
      exact absurd qz38 hk40
    · skip
      refine rk_aload_n 0 dX11_leastYarns_41 rfl rfl ?_
      refine rk_iload_n 1 dX11_leastYarns_42 rfl rfl ?_
      refine rk_iload_n 2 dX11_leastYarns_43 rfl rfl ?_
      refine rk_iload dX11_leastYarns_44 rfl ?_
      refine rk_pc (pc' := 46) rfl ?_
      refine rk_cVp (cX11_newStrength_s hf _ _) rk_eX11_newStrength rfl ⟨rfl, rfl⟩ rk_kX11_136 dX11_leastYarns_46 rfl (by decide) (Nat.le_of_ble_eq_true rfl) ⟨Nat.le_refl _, Nat.le_refl _⟩ ?_
      refine rk_iload_n 3 dX11_leastYarns_49 rfl rfl ?_
      refine rk_icmp_lt 56 dX11_leastYarns_50 (by decide) (fun qz50 => ?_) (fun qz50 => ?_)
      · skip
        refine rk_iinc 1 (ls' := [(4, _), (0, _), (1, _), (2, _), (3, _)]) dX11_leastYarns_56 (by decide) rfl (by decide) rfl ?_
        refine rk_goto 34 dX11_leastYarns_59 (by decide) ?_
        refine rk_ord [0, 1, 2, 3, 4] (ls' := [(0, _), (1, _), (2, _), (3, _), (4, _)]) rfl ?_
        rw [nI_1]
        exact ih (k + 1) z (by omega) (by omega) (by rw [hz, sp_first0 (Int32.not_le.mpr qz50)])
      · skip
        refine rk_iload dX11_leastYarns_53 rfl ?_
        refine rk_iretP dX11_leastYarns_55 rfl rfl ?_
        rw [hz]; exact sp_first1 (Int32.not_lt.mp qz50)
theorem cX11_leastYarns_s {m : Nat} (f s st : Int32) : rk_P w l rk_mX11_leastYarns 4 [rk_a 12 m, rk_i f, rk_i s, rk_i st] Sh I R (sp_least (I 26 (R 12 m 0)) f s st) := by
  refine rk_bP (ls := [(0, _), (1, _), (2, _), (3, _)]) (by decide) rfl (Nat.le_of_ble_eq_true rfl) ?_
  refine rk_iload_n 1 dX11_leastYarns_0 rfl rfl ?_
  refine rk_cSp (cX11_isFibre_s _) rk_eX11_isFibre rfl rk_kX11_57 dX11_leastYarns_1 rfl (by decide) (Nat.le_of_ble_eq_true rfl) ⟨Nat.le_refl _, Nat.le_refl _⟩ ?_
  refine rk_if_ne 9 dX11_leastYarns_4 (by decide) (fun qz4 => ?_) (fun qz4 => ?_)
  · skip
    refine rk_iload_n 2 dX11_leastYarns_9 rfl rfl ?_
    refine rk_iconst 3 dX11_leastYarns_10 (by decide) ?_
    refine rk_iconst 4 dX11_leastYarns_11 (by decide) ?_
    refine rk_cSp (cX11_in_s _ _ _) rk_eX11_in rfl rk_kX11_43 dX11_leastYarns_12 rfl (by decide) (Nat.le_of_ble_eq_true rfl) ⟨Nat.le_refl _, Nat.le_refl _⟩ ?_
    refine rk_pc (pc' := 15) rfl ?_
    refine rk_if_eq 28 dX11_leastYarns_15 (by decide) (fun qz15 => ?_) (fun qz15 => ?_)
    · skip
      refine rk_bipush (-2) dX11_leastYarns_28 (by decide) ?_
      refine rk_iretP dX11_leastYarns_30 rfl rfl ?_
      exact ((if_pos (sp_bt qz4)).trans (by first | exact if_neg (fun z => sp_bf qz15 z.1) | exact if_neg (fun z => sp_bf qz25 z.2))).symm
    · skip
      refine rk_iload_n 3 dX11_leastYarns_18 rfl rfl ?_
      refine rk_iconst 1 dX11_leastYarns_19 (by decide) ?_
      refine rk_ldc 50000 dX11_leastYarns_20 (by first | exact rk_inT 1018 (by decide +kernel) (by decide +kernel)) ?_
      refine rk_cSp (cX11_in_s _ _ _) rk_eX11_in rfl rk_kX11_43 dX11_leastYarns_22 rfl (by decide) (Nat.le_of_ble_eq_true rfl) ⟨Nat.le_refl _, Nat.le_refl _⟩ ?_
      refine rk_if_ne 31 dX11_leastYarns_25 (by decide) (fun qz25 => ?_) (fun qz25 => ?_)
      · skip
        refine rk_iconst 1 dX11_leastYarns_31 (by decide) ?_
        refine rk_pc (pc' := 32) rfl ?_
        refine rk_istore (ls' := [(4, _), (0, _), (1, _), (2, _), (3, _)]) dX11_leastYarns_32 (by decide) rfl ?_
        refine rk_ord [0, 1, 2, 3, 4] (ls' := [(0, _), (1, _), (2, _), (3, _), (4, _)]) rfl ?_
        obtain ⟨fi, hfi, rfl⟩ := rk_in_n (n := 2) rfl (by decide) (sp_bt qz4)
        have hcl : (nI fi).toNatClampNeg = fi := nI_clamp (by omega)
        exact cX11_least_l (by omega) 40 1 _ rfl (by decide) ((if_pos (sp_bt qz4)).trans ((if_pos ⟨sp_bt qz15, sp_bt qz25⟩).trans (by rw [hcl])))
      · skip
        refine rk_bipush (-2) dX11_leastYarns_28 (by decide) ?_
        refine rk_iretP dX11_leastYarns_30 rfl rfl ?_
        exact ((if_pos (sp_bt qz4)).trans (by first | exact if_neg (fun z => sp_bf qz15 z.1) | exact if_neg (fun z => sp_bf qz25 z.2))).symm
  · skip
    refine rk_iconst (-1) dX11_leastYarns_7 (by decide) ?_
    refine rk_iretP dX11_leastYarns_8 rfl rfl ?_
    exact (if_neg (sp_bf qz4)).symm
noncomputable def sp_finesIn (N : Nat → Int32) (d : Int32) : Int32 := @ite _ (1 ≤ d ∧ d ≤ 200) (Classical.propDecidable _) (sp_fines N d.toNatClampNeg (sp_c N 13)) (-2)
theorem cX11_finesIn_s {m t c : Nat} (ht : t ≤ 3000) (hc : c ≤ 16) (h10 : I 26 (R 12 m 0) 10 = nI t) (h13 : I 26 (R 12 m 0) 13 = nI c) (hdue : ∀ o, o < c → ∃ du, du < 2 ^ 20 ∧ I 26 (R 12 m 0) (220 + 7 * o + 5) = nI du) (x : Int32) : rk_P w l rk_mX11_finesIn 3 [rk_a 12 m, rk_i x] Sh I R (sp_finesIn (I 26 (R 12 m 0)) x) := by
  have hcc : sp_c (I 26 (R 12 m 0)) 13 = c := sp_cN h13 (by omega)
  refine rk_bP (ls := [(0, _), (1, _)]) (by decide) rfl (Nat.le_of_ble_eq_true rfl) ?_
  refine rk_iload_n 1 dX11_finesIn_0 rfl rfl ?_
  refine rk_iconst 1 dX11_finesIn_1 (by decide) ?_
  refine rk_sipush 200 dX11_finesIn_2 (by decide) ?_
  refine rk_cSp (cX11_in_s _ _ _) rk_eX11_in rfl rk_kX11_43 dX11_finesIn_5 rfl (by decide) (Nat.le_of_ble_eq_true rfl) ⟨Nat.le_refl _, Nat.le_refl _⟩ ?_
  refine rk_if_eq 19 dX11_finesIn_8 (by decide) (fun qz8 => ?_) (fun qz8 => ?_)
  · skip
    refine rk_bipush (-2) dX11_finesIn_19 (by decide) ?_
    refine rk_iretP dX11_finesIn_21 rfl rfl ?_
    first | exact (if_neg (sp_bf qz8)).symm | exact ((if_pos (sp_bt qz8)).trans (by rw [hcl, hcc])).symm
  · skip
    obtain ⟨d, hd, rfl⟩ := rk_in_n (n := 200) rfl (by decide) ⟨Int32.le_trans (by decide) (sp_bt qz8).1, (sp_bt qz8).2⟩
    have hcl : (nI d).toNatClampNeg = d := nI_clamp (by omega)
    refine rk_aload_n 0 dX11_finesIn_11 rfl rfl ?_
    refine rk_pc (pc' := 12) rfl ?_
    refine rk_iload_n 1 dX11_finesIn_12 rfl rfl ?_
    refine rk_cVp (cX11_finesOf_s rfl ht (by omega) hc h10 h13 hdue) rk_eX11_finesOf rfl ⟨rfl, rfl⟩ rk_kX11_127 dX11_finesIn_13 rfl (by decide) (Nat.le_of_ble_eq_true rfl) ⟨Nat.le_refl _, Nat.le_refl _⟩ ?_
    refine rk_goto 21 dX11_finesIn_16 (by decide) ?_
    refine rk_iretP dX11_finesIn_21 rfl rfl ?_
    first | exact (if_neg (sp_bf qz8)).symm | exact ((if_pos (sp_bt qz8)).trans (by rw [hcl, hcc])).symm
/-- the yarn in the pieces of a fibre -/
noncomputable def sp_yp (N : Nat → Int32) (fi : Nat) : Nat → Int32 := sp_sI (fun p => @ite _ (N (50 + 7 * p + 0) = nI fi) (Classical.propDecidable _) (N (50 + 7 * p + 4)) 0)
noncomputable def sp_acc (N : Nat → Int32) (fi k : Nat) : Int32 := if k = 0 then N (30 + 4 * fi) else if k = 1 then N (20 + 3 * fi + 2) else if k = 2 then sp_yp N fi (sp_c N 12) else N (30 + 4 * fi + (k - 2))
noncomputable def sp_account (N : Nat → Int32) (f k : Int32) : Int32 := @ite _ (0 ≤ f ∧ f ≤ 2) (Classical.propDecidable _) (@ite _ (0 ≤ k ∧ k ≤ 5) (Classical.propDecidable _) (sp_acc N f.toNatClampNeg k.toNatClampNeg) (-2)) (-1)
theorem cX11_account_l {m fi c : Nat} {k at0 : Int32} (hf : fi < 3) (h12 : I 26 (R 12 m 0) 12 = nI c) (hc : c ≤ 24) : ∀ n p : Nat, ∀ z : Int32, p + n = c → z = sp_yp (I 26 (R 12 m 0)) fi c → rk_Wp w l rk_mX11_account 3 0 0 (rk_GP w Sh I R z) 83 [(0, rk_a 12 m), (1, rk_i (nI fi)), (2, rk_i k), (3, rk_i at0), (4, rk_i (sp_yp (I 26 (R 12 m 0)) fi p)), (5, rk_i (nI p))] [] (Sh, 0, 0) I R := by
  intro n
  induction n with
  | zero =>
    intro p z hp hz
    obtain rfl : p = c := by omega
    refine rk_iload dX11_account_83 rfl ?_
    refine rk_aload_n 0 dX11_account_85 rfl rfl ?_
    refine rk_g12_0 rk_kX11_7 dX11_account_86 ?_
    refine rk_bipush 12 dX11_account_89 (by decide) ?_
    refine rk_rn26 12 dX11_account_91 rfl (by first | decide | assumption | omega) ?_
    rw [h12]
    refine rk_icmp_ge 128 dX11_account_92 (by decide) (fun qz92 => ?_) (fun qz92 => ?_)
    · skip
      refine rk_iload dX11_account_128 rfl ?_
      refine rk_pc (pc' := 130) rfl ?_
      refine rk_iretP dX11_account_130 rfl rfl ?_
      exact hz.symm
    · skip
      exact absurd (nI_le (Nat.le_refl p) (by omega)) qz92
  | succ n ih =>
    intro p z hp hz
    have hlt : ¬ nI c ≤ nI p := nI_ge (by omega) (by omega)
    have e1 : I 26 (R 12 m 0) (50 + 7 * p + 0) = nI fi → sp_yp (I 26 (R 12 m 0)) fi p + I 26 (R 12 m 0) (50 + 7 * p + 4) = sp_yp (I 26 (R 12 m 0)) fi (p + 1) := fun h => by simp only [sp_yp, sp_sI]; rw [if_pos h]
    have e0 : ¬ I 26 (R 12 m 0) (50 + 7 * p + 0) = nI fi → sp_yp (I 26 (R 12 m 0)) fi p + 0 = sp_yp (I 26 (R 12 m 0)) fi (p + 1) := fun h => by simp only [sp_yp, sp_sI]; rw [if_neg h]
    refine rk_iload dX11_account_83 rfl ?_
    refine rk_aload_n 0 dX11_account_85 rfl rfl ?_
    refine rk_g12_0 rk_kX11_7 dX11_account_86 ?_
    refine rk_bipush 12 dX11_account_89 (by decide) ?_
    refine rk_rn26 12 dX11_account_91 rfl (by first | decide | assumption | omega) ?_
    rw [h12]
    refine rk_icmp_ge 128 dX11_account_92 (by decide) (fun qz92 => ?_) (fun qz92 => ?_)
    · skip
      exact absurd qz92 hlt
    · skip
      refine rk_iload dX11_account_95 rfl ?_
      refine rk_pc (pc' := 97) rfl ?_
      refine rk_aload_n 0 dX11_account_97 rfl rfl ?_
      refine rk_iload dX11_account_98 rfl ?_
      refine rk_iconst 0 dX11_account_100 (by decide) ?_
      refine rk_cVp (cX11_ofPiece_s p 0 rfl rfl (by omega) (by decide)) rk_eX11_ofPiece rfl ⟨rfl, rfl⟩ rk_kX11_91 dX11_account_101 rfl (by decide) (Nat.le_of_ble_eq_true rfl) ⟨Nat.le_refl _, Nat.le_refl _⟩ ?_
      refine rk_iload_n 1 dX11_account_104 rfl rfl ?_
      refine rk_icmp_ne 118 dX11_account_105 (by decide) (fun qz105 => ?_) (fun qz105 => ?_)
      · skip
        refine rk_iconst 0 dX11_account_118 (by decide) ?_
        refine rk_pc (pc' := 119) rfl ?_
        refine rk_iadd dX11_account_119 ?_
        refine rk_istore (ls' := [(4, _), (0, _), (1, _), (2, _), (3, _), (5, _)]) dX11_account_120 (by decide) rfl ?_
        refine rk_iinc 1 (ls' := [(5, _), (4, _), (0, _), (1, _), (2, _), (3, _)]) dX11_account_122 (by decide) rfl (by decide) rfl ?_
        refine rk_goto 83 dX11_account_125 (by decide) ?_
        refine rk_ord [0, 1, 2, 3, 4, 5] (ls' := [(0, _), (1, _), (2, _), (3, _), (4, _), (5, _)]) rfl ?_
        rw [nI_1]
        first | (rw [e1 qz105]; exact ih (p + 1) z (by omega) hz) | (rw [e0 qz105]; exact ih (p + 1) z (by omega) hz)
      · skip
        refine rk_aload_n 0 dX11_account_108 rfl rfl ?_
        refine rk_iload dX11_account_109 rfl ?_
        refine rk_pc (pc' := 111) rfl ?_
        refine rk_iconst 4 dX11_account_111 (by decide) ?_
        refine rk_cVp (cX11_ofPiece_s p 4 rfl rfl (by omega) (by decide)) rk_eX11_ofPiece rfl ⟨rfl, rfl⟩ rk_kX11_91 dX11_account_112 rfl (by decide) (Nat.le_of_ble_eq_true rfl) ⟨Nat.le_refl _, Nat.le_refl _⟩ ?_
        refine rk_goto 119 dX11_account_115 (by decide) ?_
        refine rk_iadd dX11_account_119 ?_
        refine rk_istore (ls' := [(4, _), (0, _), (1, _), (2, _), (3, _), (5, _)]) dX11_account_120 (by decide) rfl ?_
        refine rk_iinc 1 (ls' := [(5, _), (4, _), (0, _), (1, _), (2, _), (3, _)]) dX11_account_122 (by decide) rfl (by decide) rfl ?_
        refine rk_pc (pc' := 125) rfl ?_
        refine rk_goto 83 dX11_account_125 (by decide) ?_
        refine rk_ord [0, 1, 2, 3, 4, 5] (ls' := [(0, _), (1, _), (2, _), (3, _), (4, _), (5, _)]) rfl ?_
        rw [nI_1]
        first | (rw [e1 qz105]; exact ih (p + 1) z (by omega) hz) | (rw [e0 qz105]; exact ih (p + 1) z (by omega) hz)
theorem cX11_account_s {m c : Nat} (h12 : I 26 (R 12 m 0) 12 = nI c) (hc : c ≤ 24) (f k : Int32) : rk_P w l rk_mX11_account 3 [rk_a 12 m, rk_i f, rk_i k] Sh I R (sp_account (I 26 (R 12 m 0)) f k) := by
  have hcc : sp_c (I 26 (R 12 m 0)) 12 = c := sp_cN h12 (by omega)
  refine rk_bP (ls := [(0, _), (1, _), (2, _)]) (by decide) rfl (Nat.le_of_ble_eq_true rfl) ?_
  refine rk_iload_n 1 dX11_account_0 rfl rfl ?_
  refine rk_cSp (cX11_isFibre_s _) rk_eX11_isFibre rfl rk_kX11_57 dX11_account_1 rfl (by decide) (Nat.le_of_ble_eq_true rfl) ⟨Nat.le_refl _, Nat.le_refl _⟩ ?_
  refine rk_if_ne 9 dX11_account_4 (by decide) (fun qz4 => ?_) (fun qz4 => ?_)
  · skip
    obtain ⟨fi, hfi, rfl⟩ := rk_in_n (n := 2) rfl (by decide) (sp_bt qz4)
    have hcl : (nI fi).toNatClampNeg = fi := nI_clamp (by omega)
    have hgo : ∀ q : Nat, q ≤ 5 → k = nI q → sp_account (I 26 (R 12 m 0)) (nI fi) k = sp_acc (I 26 (R 12 m 0)) fi q := fun q hq hk => (if_pos (sp_bt qz4)).trans ((if_pos (by rw [hk]; exact ⟨nI_pos' (by omega), show nI q ≤ nI 5 from nI_le hq (by decide)⟩)).trans (by rw [hcl, hk, nI_clamp (by omega)]))
    refine rk_bipush 30 dX11_account_9 (by decide) ?_
    refine rk_iconst 4 dX11_account_11 (by decide) ?_
    refine rk_iload_n 1 dX11_account_12 rfl rfl ?_
    refine rk_imul dX11_account_13 ?_
    refine rk_pc (pc' := 14) rfl ?_
    refine rk_iadd dX11_account_14 ?_
    refine rk_istore_n 3 (ls' := [(3, _), (0, _), (1, _), (2, _)]) dX11_account_15 rfl (by decide) rfl ?_
    refine rk_iload_n 2 dX11_account_16 rfl rfl ?_
    refine rk_tsw 142 dX11_account_17 (by decide) (by decide) (by decide) ?_ (fun qz17 => ?_)
    · refine ⟨fun qz17 => ?_, fun qz17 => ?_, fun qz17 => ?_, fun qz17 => ?_, fun qz17 => ?_, fun qz17 => ?_, trivial⟩
      · skip
        refine rk_pc (pc' := 56) (by decide) ?_
        refine rk_aload_n 0 dX11_account_56 rfl rfl ?_
        refine rk_g12_0 rk_kX11_7 dX11_account_57 ?_
        refine rk_iload_n 3 dX11_account_60 rfl rfl ?_
        refine rk_pc (pc' := 61) rfl ?_
        refine rk_rn26 (30 + 4 * fi) dX11_account_61 (by first | rfl | decide | assumption | (simp only [rk_lit, nI_add, pk_mul, nI_1]; done) | (simp only [rk_lit, nI_add, pk_mul, nI_1]; congr 1; omega)) (by first | decide | assumption | omega) ?_
        refine rk_iretP dX11_account_62 rfl rfl ?_
        rw [hgo 0 (by decide) (rk_toI qz17 (by decide))]; rfl
      · skip
        refine rk_pc (pc' := 63) (by decide) ?_
        refine rk_aload_n 0 dX11_account_63 rfl rfl ?_
        refine rk_g12_0 rk_kX11_7 dX11_account_64 ?_
        refine rk_bipush 20 dX11_account_67 (by decide) ?_
        refine rk_iconst 3 dX11_account_69 (by decide) ?_
        refine rk_iload_n 1 dX11_account_70 rfl rfl ?_
        refine rk_pc (pc' := 71) rfl ?_
        refine rk_imul dX11_account_71 ?_
        refine rk_iadd dX11_account_72 ?_
        refine rk_iconst 2 dX11_account_73 (by decide) ?_
        refine rk_iadd dX11_account_74 ?_
        refine rk_rn26 (20 + 3 * fi + 2) dX11_account_75 (by first | rfl | decide | assumption | (simp only [rk_lit, nI_add, pk_mul, nI_1]; done) | (simp only [rk_lit, nI_add, pk_mul, nI_1]; congr 1; omega)) (by first | decide | assumption | omega) ?_
        refine rk_iretP dX11_account_76 rfl rfl ?_
        rw [hgo 1 (by decide) (rk_toI qz17 (by decide))]; rfl
      · skip
        refine rk_pc (pc' := 77) (by decide) ?_
        refine rk_iconst 0 dX11_account_77 (by decide) ?_
        refine rk_pc (pc' := 78) rfl ?_
        refine rk_istore (ls' := [(4, _), (3, _), (0, _), (1, _), (2, _)]) dX11_account_78 (by decide) rfl ?_
        refine rk_iconst 0 dX11_account_80 (by decide) ?_
        refine rk_istore (ls' := [(5, _), (4, _), (3, _), (0, _), (1, _), (2, _)]) dX11_account_81 (by decide) rfl ?_
        refine rk_ord [0, 1, 2, 3, 4, 5] (ls' := [(0, _), (1, _), (2, _), (3, _), (4, _), (5, _)]) rfl ?_
        rw [hgo 2 (by decide) (rk_toI qz17 (by decide))]
        exact cX11_account_l (by omega) h12 hc c 0 _ (by omega) (by show sp_yp _ _ _ = _; rw [hcc])
      · skip
        refine rk_pc (pc' := 131) (by decide) ?_
        refine rk_ord [0, 1, 2, 3] (ls' := [(0, _), (1, _), (2, _), (3, _)]) rfl ?_
        have hk3 : ∃ q : Nat, 3 ≤ q ∧ q ≤ 5 ∧ k = nI q := by first | exact ⟨3, by decide, by decide, rk_toI qz17 (by decide)⟩ | exact ⟨4, by decide, by decide, rk_toI qz17 (by decide)⟩ | exact ⟨5, by decide, by decide, rk_toI qz17 (by decide)⟩
        obtain ⟨q, hq3, hq5, hkq⟩ := hk3
        rw [hgo q hq5 hkq]
        clear hgo qz17
        subst hkq
        refine rk_aload_n 0 dX11_account_131 rfl rfl ?_
        refine rk_g12_0 rk_kX11_7 dX11_account_132 ?_
        refine rk_iload_n 3 dX11_account_135 rfl rfl ?_
        refine rk_iload_n 2 dX11_account_136 rfl rfl ?_
        refine rk_iadd dX11_account_137 ?_
        refine rk_iconst 2 dX11_account_138 (by decide) ?_
        refine rk_isub dX11_account_139 ?_
        refine rk_rn26 (30 + 4 * fi + (q - 2)) dX11_account_140 (by rw [show (30 : Int32) + 4 * nI fi + nI q = nI (30 + 4 * fi + q) by simp only [rk_lit, nI_add, pk_mul], show (2 : Int32) = nI 2 from rfl, pk_sub (by omega)]; congr 1; omega) (by omega) ?_
        refine rk_iretP dX11_account_141 rfl rfl ?_
        simp only [sp_acc]; rw [if_neg (by omega), if_neg (by omega), if_neg (by omega)]
      · skip
        refine rk_pc (pc' := 131) (by decide) ?_
        refine rk_ord [0, 1, 2, 3] (ls' := [(0, _), (1, _), (2, _), (3, _)]) rfl ?_
        have hk3 : ∃ q : Nat, 3 ≤ q ∧ q ≤ 5 ∧ k = nI q := by first | exact ⟨3, by decide, by decide, rk_toI qz17 (by decide)⟩ | exact ⟨4, by decide, by decide, rk_toI qz17 (by decide)⟩ | exact ⟨5, by decide, by decide, rk_toI qz17 (by decide)⟩
        obtain ⟨q, hq3, hq5, hkq⟩ := hk3
        rw [hgo q hq5 hkq]
        clear hgo qz17
        subst hkq
        refine rk_aload_n 0 dX11_account_131 rfl rfl ?_
        refine rk_g12_0 rk_kX11_7 dX11_account_132 ?_
        refine rk_iload_n 3 dX11_account_135 rfl rfl ?_
        refine rk_iload_n 2 dX11_account_136 rfl rfl ?_
        refine rk_iadd dX11_account_137 ?_
        refine rk_iconst 2 dX11_account_138 (by decide) ?_
        refine rk_isub dX11_account_139 ?_
        refine rk_rn26 (30 + 4 * fi + (q - 2)) dX11_account_140 (by rw [show (30 : Int32) + 4 * nI fi + nI q = nI (30 + 4 * fi + q) by simp only [rk_lit, nI_add, pk_mul], show (2 : Int32) = nI 2 from rfl, pk_sub (by omega)]; congr 1; omega) (by omega) ?_
        refine rk_iretP dX11_account_141 rfl rfl ?_
        simp only [sp_acc]; rw [if_neg (by omega), if_neg (by omega), if_neg (by omega)]
      · skip
        refine rk_pc (pc' := 131) (by decide) ?_
        refine rk_ord [0, 1, 2, 3] (ls' := [(0, _), (1, _), (2, _), (3, _)]) rfl ?_
        have hk3 : ∃ q : Nat, 3 ≤ q ∧ q ≤ 5 ∧ k = nI q := by first | exact ⟨3, by decide, by decide, rk_toI qz17 (by decide)⟩ | exact ⟨4, by decide, by decide, rk_toI qz17 (by decide)⟩ | exact ⟨5, by decide, by decide, rk_toI qz17 (by decide)⟩
        obtain ⟨q, hq3, hq5, hkq⟩ := hk3
        rw [hgo q hq5 hkq]
        clear hgo qz17
        subst hkq
        refine rk_aload_n 0 dX11_account_131 rfl rfl ?_
        refine rk_g12_0 rk_kX11_7 dX11_account_132 ?_
        refine rk_iload_n 3 dX11_account_135 rfl rfl ?_
        refine rk_iload_n 2 dX11_account_136 rfl rfl ?_
        refine rk_iadd dX11_account_137 ?_
        refine rk_iconst 2 dX11_account_138 (by decide) ?_
        refine rk_isub dX11_account_139 ?_
        refine rk_rn26 (30 + 4 * fi + (q - 2)) dX11_account_140 (by rw [show (30 : Int32) + 4 * nI fi + nI q = nI (30 + 4 * fi + q) by simp only [rk_lit, nI_add, pk_mul], show (2 : Int32) = nI 2 from rfl, pk_sub (by omega)]; congr 1; omega) (by omega) ?_
        refine rk_iretP dX11_account_141 rfl rfl ?_
        simp only [sp_acc]; rw [if_neg (by omega), if_neg (by omega), if_neg (by omega)]
    · skip
      refine rk_bipush (-2) dX11_account_142 (by decide) ?_
      refine rk_iretP dX11_account_144 rfl rfl ?_
      exact ((if_pos (sp_bt qz4)).trans (if_neg (fun z => by
        have h1 := Int32.le_iff_toInt_le.mp z.1
        have h2 := Int32.le_iff_toInt_le.mp z.2
        simp at h1 h2
        omega))).symm
  · skip
    refine rk_iconst (-1) dX11_account_7 (by decide) ?_
    refine rk_iretP dX11_account_8 rfl rfl ?_
    exact (if_neg (sp_bf qz4)).symm
noncomputable def sp_count (N : Nat → Int32) (sg un k : Int32) : Int32 := @ite _ (9 ≤ k ∧ k ≤ 18) (Classical.propDecidable _) (N (k.toNatClampNeg - 9)) (@ite _ (19 ≤ k ∧ k ≤ 24) (Classical.propDecidable _) (N (20 + 3 * ((k.toNatClampNeg - 19) % 3) + (k.toNatClampNeg - 19) / 3)) (if k = 0 then N 10 else if k = 1 then N 12 else if k = 2 then N 13 else if k = 3 then sp_left N else if k = 4 then N 14 else if k = 5 then N 15 else if k = 6 then N 16 else if k = 7 then sg else if k = 8 then un else -2))
theorem cX11_count_s {m : Nat} (k : Int32) : rk_P w l rk_mX11_count 2 [rk_a 12 m, rk_i k] Sh I R (sp_count (I 26 (R 12 m 0)) (I 12 m 7) (I 12 m 3) k) := by
  have hq : ∀ a b : Nat, ∀ y : Int32, y = nI b → b < 2 ^ 31 → (nI a ≤ k ∧ k ≤ y) → a < 2 ^ 31 → ∃ q, a ≤ q ∧ q ≤ b ∧ k = nI q := fun a b y hy hb h ha => by
    obtain ⟨q, h1, h2⟩ := rk_in_n hy hb ⟨Int32.le_trans (nI_pos' ha) h.1, h.2⟩
    exact ⟨q, (nI_leI ha (by omega)).mp (by rw [← h2]; exact h.1), h1, h2⟩
  refine rk_bP (ls := [(0, _), (1, _)]) (by decide) rfl (Nat.le_of_ble_eq_true rfl) ?_
  refine rk_iload_n 1 dX11_count_0 rfl rfl ?_
  refine rk_bipush 9 dX11_count_1 (by decide) ?_
  refine rk_bipush 18 dX11_count_3 (by decide) ?_
  refine rk_cSp (cX11_in_s _ _ _) rk_eX11_in rfl rk_kX11_43 dX11_count_5 rfl (by decide) (Nat.le_of_ble_eq_true rfl) ⟨Nat.le_refl _, Nat.le_refl _⟩ ?_
  refine rk_if_eq 21 dX11_count_8 (by decide) (fun qz8 => ?_) (fun qz8 => ?_)
  · skip
    refine rk_iload_n 1 dX11_count_21 rfl rfl ?_
    refine rk_bipush 19 dX11_count_22 (by decide) ?_
    refine rk_pc (pc' := 24) rfl ?_
    refine rk_bipush 24 dX11_count_24 (by decide) ?_
    refine rk_cSp (cX11_in_s _ _ _) rk_eX11_in rfl rk_kX11_43 dX11_count_26 rfl (by decide) (Nat.le_of_ble_eq_true rfl) ⟨Nat.le_refl _, Nat.le_refl _⟩ ?_
    refine rk_if_eq 56 dX11_count_29 (by decide) (fun qz29 => ?_) (fun qz29 => ?_)
    · skip
      refine rk_iload_n 1 dX11_count_56 rfl rfl ?_
      refine rk_tsw 162 dX11_count_57 (by decide) (by decide) (by decide) ?_ (fun qz57 => ?_)
      · refine ⟨fun qz57 => ?_, fun qz57 => ?_, fun qz57 => ?_, fun qz57 => ?_, fun qz57 => ?_, fun qz57 => ?_, fun qz57 => ?_, fun qz57 => ?_, trivial⟩
        · skip
          have hw : k = 0 := rk_toI qz57 (by decide)
          refine rk_pc (pc' := 104) (by decide) ?_
          refine rk_aload_n 0 dX11_count_104 rfl rfl ?_
          refine rk_g12_0 rk_kX11_7 dX11_count_105 ?_
          refine rk_bipush 10 dX11_count_108 (by decide) ?_
          refine rk_pc (pc' := 110) rfl ?_
          refine rk_rn26 10 dX11_count_110 rfl (by first | decide | assumption | omega) ?_
          refine rk_iretP dX11_count_111 rfl rfl ?_
          refine ((if_neg (sp_bf qz8)).trans ((if_neg (sp_bf qz29)).trans ?_)).symm
          first | (rw [hw]; simp only [if_true]; done) | (rw [hw]; simp; done)
        · skip
          have hw : k = 1 := rk_toI qz57 (by decide)
          refine rk_pc (pc' := 112) (by decide) ?_
          refine rk_aload_n 0 dX11_count_112 rfl rfl ?_
          refine rk_g12_0 rk_kX11_7 dX11_count_113 ?_
          refine rk_bipush 12 dX11_count_116 (by decide) ?_
          refine rk_rn26 12 dX11_count_118 rfl (by first | decide | assumption | omega) ?_
          refine rk_iretP dX11_count_119 rfl rfl ?_
          refine ((if_neg (sp_bf qz8)).trans ((if_neg (sp_bf qz29)).trans ?_)).symm
          first | (rw [hw]; simp only [if_true]; done) | (rw [hw]; simp; done)
        · skip
          have hw : k = 2 := rk_toI qz57 (by decide)
          refine rk_pc (pc' := 120) (by decide) ?_
          refine rk_aload_n 0 dX11_count_120 rfl rfl ?_
          refine rk_pc (pc' := 121) rfl ?_
          refine rk_g12_0 rk_kX11_7 dX11_count_121 ?_
          refine rk_bipush 13 dX11_count_124 (by decide) ?_
          refine rk_rn26 13 dX11_count_126 rfl (by first | decide | assumption | omega) ?_
          refine rk_iretP dX11_count_127 rfl rfl ?_
          refine ((if_neg (sp_bf qz8)).trans ((if_neg (sp_bf qz29)).trans ?_)).symm
          first | (rw [hw]; simp only [if_true]; done) | (rw [hw]; simp; done)
        · skip
          have hw : k = 3 := rk_toI qz57 (by decide)
          refine rk_pc (pc' := 128) (by decide) ?_
          refine rk_aload_n 0 dX11_count_128 rfl rfl ?_
          refine rk_cVp (cX11_leftHours_s) rk_eX11_leftHours rfl ⟨rfl, rfl⟩ rk_kX11_76 dX11_count_129 rfl (by decide) (Nat.le_of_ble_eq_true rfl) ⟨Nat.le_refl _, Nat.le_refl _⟩ ?_
          refine rk_iretP dX11_count_132 rfl rfl ?_
          refine ((if_neg (sp_bf qz8)).trans ((if_neg (sp_bf qz29)).trans ?_)).symm
          first | (rw [hw]; simp only [if_true]; done) | (rw [hw]; simp; done)
        · skip
          have hw : k = 4 := rk_toI qz57 (by decide)
          refine rk_pc (pc' := 133) (by decide) ?_
          refine rk_aload_n 0 dX11_count_133 rfl rfl ?_
          refine rk_pc (pc' := 134) rfl ?_
          refine rk_g12_0 rk_kX11_7 dX11_count_134 ?_
          refine rk_bipush 14 dX11_count_137 (by decide) ?_
          refine rk_rn26 14 dX11_count_139 rfl (by first | decide | assumption | omega) ?_
          refine rk_iretP dX11_count_140 rfl rfl ?_
          refine ((if_neg (sp_bf qz8)).trans ((if_neg (sp_bf qz29)).trans ?_)).symm
          first | (rw [hw]; simp only [if_true]; done) | (rw [hw]; simp; done)
        · skip
          have hw : k = 5 := rk_toI qz57 (by decide)
          refine rk_pc (pc' := 141) (by decide) ?_
          refine rk_aload_n 0 dX11_count_141 rfl rfl ?_
          refine rk_g12_0 rk_kX11_7 dX11_count_142 ?_
          refine rk_bipush 15 dX11_count_145 (by decide) ?_
          refine rk_pc (pc' := 147) rfl ?_
          refine rk_rn26 15 dX11_count_147 rfl (by first | decide | assumption | omega) ?_
          refine rk_iretP dX11_count_148 rfl rfl ?_
          refine ((if_neg (sp_bf qz8)).trans ((if_neg (sp_bf qz29)).trans ?_)).symm
          first | (rw [hw]; simp only [if_true]; done) | (rw [hw]; simp; done)
        · skip
          have hw : k = 6 := rk_toI qz57 (by decide)
          refine rk_pc (pc' := 149) (by decide) ?_
          refine rk_aload_n 0 dX11_count_149 rfl rfl ?_
          refine rk_g12_0 rk_kX11_7 dX11_count_150 ?_
          refine rk_bipush 16 dX11_count_153 (by decide) ?_
          refine rk_rn26 16 dX11_count_155 rfl (by first | decide | assumption | omega) ?_
          refine rk_iretP dX11_count_156 rfl rfl ?_
          refine ((if_neg (sp_bf qz8)).trans ((if_neg (sp_bf qz29)).trans ?_)).symm
          first | (rw [hw]; simp only [if_true]; done) | (rw [hw]; simp; done)
        · skip
          have hw : k = 7 := rk_toI qz57 (by decide)
          refine rk_pc (pc' := 157) (by decide) ?_
          refine rk_aload_n 0 dX11_count_157 rfl rfl ?_
          refine rk_pc (pc' := 158) rfl ?_
          refine rk_g12_7 rk_kX11_133 dX11_count_158 ?_
          refine rk_iretP dX11_count_161 rfl rfl ?_
          refine ((if_neg (sp_bf qz8)).trans ((if_neg (sp_bf qz29)).trans ?_)).symm
          first | (rw [hw]; simp only [if_true]; done) | (rw [hw]; simp; done)
      · skip
        refine rk_iload_n 1 dX11_count_162 rfl rfl ?_
        refine rk_bipush 8 dX11_count_163 (by decide) ?_
        refine rk_icmp_ne 175 dX11_count_165 (by decide) (fun qz165 => ?_) (fun qz165 => ?_)
        · skip
          refine rk_bipush (-2) dX11_count_175 (by decide) ?_
          refine rk_iretP dX11_count_177 rfl rfl ?_
          refine ((if_neg (sp_bf qz8)).trans ((if_neg (sp_bf qz29)).trans ?_)).symm
          have n0 : ¬ k = 0 := fun z => by rw [z] at qz57; exact absurd qz57 (by decide)
          have n1 : ¬ k = 1 := fun z => by rw [z] at qz57; exact absurd qz57 (by decide)
          have n2 : ¬ k = 2 := fun z => by rw [z] at qz57; exact absurd qz57 (by decide)
          have n3 : ¬ k = 3 := fun z => by rw [z] at qz57; exact absurd qz57 (by decide)
          have n4 : ¬ k = 4 := fun z => by rw [z] at qz57; exact absurd qz57 (by decide)
          have n5 : ¬ k = 5 := fun z => by rw [z] at qz57; exact absurd qz57 (by decide)
          have n6 : ¬ k = 6 := fun z => by rw [z] at qz57; exact absurd qz57 (by decide)
          have n7 : ¬ k = 7 := fun z => by rw [z] at qz57; exact absurd qz57 (by decide)
          rw [if_neg n0, if_neg n1, if_neg n2, if_neg n3, if_neg n4, if_neg n5, if_neg n6, if_neg n7]
          first | exact if_pos qz165 | exact if_neg qz165
        · skip
          refine rk_aload_n 0 dX11_count_168 rfl rfl ?_
          refine rk_g12_3 rk_kX11_39 dX11_count_169 ?_
          refine rk_pc (pc' := 172) rfl ?_
          refine rk_goto 177 dX11_count_172 (by decide) ?_
          refine rk_iretP dX11_count_177 rfl rfl ?_
          refine ((if_neg (sp_bf qz8)).trans ((if_neg (sp_bf qz29)).trans ?_)).symm
          have n0 : ¬ k = 0 := fun z => by rw [z] at qz57; exact absurd qz57 (by decide)
          have n1 : ¬ k = 1 := fun z => by rw [z] at qz57; exact absurd qz57 (by decide)
          have n2 : ¬ k = 2 := fun z => by rw [z] at qz57; exact absurd qz57 (by decide)
          have n3 : ¬ k = 3 := fun z => by rw [z] at qz57; exact absurd qz57 (by decide)
          have n4 : ¬ k = 4 := fun z => by rw [z] at qz57; exact absurd qz57 (by decide)
          have n5 : ¬ k = 5 := fun z => by rw [z] at qz57; exact absurd qz57 (by decide)
          have n6 : ¬ k = 6 := fun z => by rw [z] at qz57; exact absurd qz57 (by decide)
          have n7 : ¬ k = 7 := fun z => by rw [z] at qz57; exact absurd qz57 (by decide)
          rw [if_neg n0, if_neg n1, if_neg n2, if_neg n3, if_neg n4, if_neg n5, if_neg n6, if_neg n7]
          first | exact if_pos qz165 | exact if_neg qz165
    · skip
      obtain ⟨q, h1, h2, rfl⟩ := hq 19 24 24 rfl (by decide) (sp_bt qz29) (by decide)
      have e0 : nI q - 19 = nI (q - 19) := by rw [show (19 : Int32) = nI 19 from rfl, pk_sub h1]
      refine rk_aload_n 0 dX11_count_32 rfl rfl ?_
      refine rk_g12_0 rk_kX11_7 dX11_count_33 ?_
      refine rk_bipush 20 dX11_count_36 (by decide) ?_
      refine rk_iconst 3 dX11_count_38 (by decide) ?_
      refine rk_iload_n 1 dX11_count_39 rfl rfl ?_
      refine rk_bipush 19 dX11_count_40 (by decide) ?_
      refine rk_isub dX11_count_42 ?_
      rw [e0]
      refine rk_iconst 3 dX11_count_43 (by decide) ?_
      refine rk_irem dX11_count_44 (by decide) ?_
      refine rk_imul dX11_count_45 ?_
      refine rk_iadd dX11_count_46 ?_
      refine rk_iload_n 1 dX11_count_47 rfl rfl ?_
      refine rk_bipush 19 dX11_count_48 (by decide) ?_
      refine rk_isub dX11_count_50 ?_
      rw [e0]
      refine rk_iconst 3 dX11_count_51 (by decide) ?_
      refine rk_idiv dX11_count_52 (by decide) ?_
      refine rk_iadd dX11_count_53 ?_
      refine rk_rn26 (20 + 3 * ((q - 19) % 3) + (q - 19) / 3) dX11_count_54 (by rw [show (3 : Int32) = nI 3 from rfl, pk_rem (by omega) (by decide) (by decide), pk_div (by omega) (by decide) (by decide), show (20 : Int32) = nI 20 from rfl, pk_mul, nI_add, nI_add]) (by omega) ?_
      refine rk_iretP dX11_count_55 rfl rfl ?_
      exact ((if_neg (sp_bf qz8)).trans ((if_pos (sp_bt qz29)).trans (by rw [nI_clamp (by omega)]))).symm
  · skip
    obtain ⟨q, h1, h2, rfl⟩ := hq 9 18 18 rfl (by decide) (sp_bt qz8) (by decide)
    refine rk_aload_n 0 dX11_count_11 rfl rfl ?_
    refine rk_g12_0 rk_kX11_7 dX11_count_12 ?_
    refine rk_iload_n 1 dX11_count_15 rfl rfl ?_
    refine rk_bipush 9 dX11_count_16 (by decide) ?_
    refine rk_isub dX11_count_18 ?_
    refine rk_rn26 (q - 9) dX11_count_19 (by rw [show (9 : Int32) = nI 9 from rfl, pk_sub h1]) (by omega) ?_
    refine rk_iretP dX11_count_20 rfl rfl ?_
    exact ((if_pos (sp_bt qz8)).trans (by rw [nI_clamp (by omega)])).symm
end MV

