section DG
variable {w : rk_W} {l : Launch} {Sh : rk_Sh} {rg : Nat → Nat} {I : rk_Mm} {R : rk_Rm} {N : Nat → Int32} {T : Int} {x n L : Nat} {Hs Sv : Nat → Nat → Int32} {F P : Nat → Int32}
theorem cX10_piece_s (V : va_ok T N n Hs F Sv P L) (X : cl_X rg I R x N n Hs F Sv P L) (p k : Int32) : rk_P w l rk_mX10_piece 5 [rk_a 11 x, rk_i p, rk_i k] Sh I R (sp_piece N p k) := by
  refine rk_bP (ls := [(0, _), (1, _), (2, _)]) (by decide) rfl (Nat.le_of_ble_eq_true rfl) ?_
  refine rk_aload_n 0 dX10_piece_0 rfl rfl ?_
  refine rk_g11_0 rk_kX10_10 dX10_piece_1 ?_
  refine rk_iload_n 1 dX10_piece_4 rfl rfl ?_
  refine rk_iload_n 2 dX10_piece_5 rfl rfl ?_
  refine rk_cVp (cX9_aboutPiece_s V.1.1 X.2.1 p k) rk_eX9_aboutPiece rfl ⟨rfl, rfl⟩ rk_kX10_92 dX10_piece_6 rfl (by decide) (Nat.le_of_ble_eq_true rfl) ⟨Nat.le_refl _, Nat.le_refl _⟩ ?_
  refine rk_iretP dX10_piece_9 rfl rfl ?_
  rfl
theorem cX10_ofOrder_s (V : va_ok T N n Hs F Sv P L) (X : cl_X rg I R x N n Hs F Sv P L) (p k : Int32) : rk_P w l rk_mX10_ofOrder 6 [rk_a 11 x, rk_i p, rk_i k] Sh I R (sp_ofOrder N p k) := by
  refine rk_bP (ls := [(0, _), (1, _), (2, _)]) (by decide) rfl (Nat.le_of_ble_eq_true rfl) ?_
  refine rk_aload_n 0 dX10_ofOrder_0 rfl rfl ?_
  refine rk_g11_0 rk_kX10_10 dX10_ofOrder_1 ?_
  refine rk_iload_n 1 dX10_ofOrder_4 rfl rfl ?_
  refine rk_iload_n 2 dX10_ofOrder_5 rfl rfl ?_
  refine rk_cVp (cX9_aboutOrder_s V.1.1 X.2.1 p k) rk_eX9_aboutOrder rfl ⟨rfl, rfl⟩ rk_kX10_95 dX10_ofOrder_6 rfl (by decide) (Nat.le_of_ble_eq_true rfl) ⟨Nat.le_refl _, Nat.le_refl _⟩ ?_
  refine rk_iretP dX10_ofOrder_9 rfl rfl ?_
  rfl
theorem sp_count_e {k : Int32} {sg un : Int32} (h7 : k ≠ 7) (h8 : k ≠ 8) : sp_count N sg un k = if k = 0 then N 10 else if k = 1 then N 12 else if k = 2 then N 13 else if k = 3 then sp_left N else if k = 4 then N 14 else if k = 5 then N 15 else if k = 6 then N 16 else sp_all N k := by
  by_cases h1 : 9 ≤ k ∧ k ≤ 18
  · have e : sp_all N k = sp_count N sg un k := by unfold sp_all sp_count; rw [if_pos h1, if_pos h1]
    have nk : ∀ m : Nat, m ≤ 8 → ¬ k = nI m := fun m hm z => by
      rw [z] at h1
      have := (nI_leI (a := 9) (by decide) (by omega)).mp h1.1
      omega
    rw [e, if_neg (show ¬ k = 0 from nk 0 (by decide)), if_neg (show ¬ k = 1 from nk 1 (by decide)), if_neg (show ¬ k = 2 from nk 2 (by decide)), if_neg (show ¬ k = 3 from nk 3 (by decide)), if_neg (show ¬ k = 4 from nk 4 (by decide)), if_neg (show ¬ k = 5 from nk 5 (by decide)), if_neg (show ¬ k = 6 from nk 6 (by decide))]
  · by_cases h2 : 19 ≤ k ∧ k ≤ 24
    · obtain ⟨j, hj, rfl⟩ := rk_nat (m := 24) (by decide) (Int32.le_trans (show (0 : Int32) ≤ 19 by decide) h2.1) h2.2
      have hj9 : 19 ≤ j := (nI_leI (a := 19) (by decide) (by omega)).mp h2.1
      have nk : ∀ m : Nat, m ≤ 8 → ¬ nI j = nI m := fun m hm z => by
        have := (nI_eq (by omega) (by omega)).mp z
        omega
      have e1 : sp_count N sg un (nI j) = N (20 + 3 * ((j - 19) % 3) + (j - 19) / 3) := by unfold sp_count; rw [if_neg h1, if_pos h2, nI_clamp (by omega)]
      have e2 : sp_all N (nI j) = N (20 + 3 * ((j - 19) % 3) + (j - 19) / 3) := by
        unfold sp_all
        rw [if_neg h1]
        by_cases h3 : j ≤ 21
        · rw [if_pos ⟨h2.1, nI_le (b := 21) h3 (by decide)⟩, nI_clamp (by omega), show (j - 19) % 3 = j - 19 by omega, show (j - 19) / 3 = 0 by omega, Nat.add_zero]
        · rw [if_neg (fun z => h3 ((nI_leI (b := 21) (by omega) (by decide)).mp z.2)), if_pos ⟨nI_le (a := 22) (by omega) (by omega), h2.2⟩, nI_clamp (by omega), show (j - 19) % 3 = j - 22 by omega, show (j - 19) / 3 = 1 by omega]
      rw [e1, e2, if_neg (show ¬ nI j = 0 from nk 0 (by decide)), if_neg (show ¬ nI j = 1 from nk 1 (by decide)), if_neg (show ¬ nI j = 2 from nk 2 (by decide)), if_neg (show ¬ nI j = 3 from nk 3 (by decide)), if_neg (show ¬ nI j = 4 from nk 4 (by decide)), if_neg (show ¬ nI j = 5 from nk 5 (by decide)), if_neg (show ¬ nI j = 6 from nk 6 (by decide))]
    · have e : sp_all N k = -2 := by
        unfold sp_all
        rw [if_neg h1, if_neg (fun z => h2 ⟨z.1, Int32.le_trans z.2 (by decide)⟩), if_neg (fun z => h2 ⟨Int32.le_trans (by decide) z.1, z.2⟩)]
      rw [e]
      unfold sp_count
      rw [if_neg h1, if_neg h2, if_neg h7, if_neg h8]
theorem sp_count_7 {sg un : Int32} : sp_count N sg un 7 = sg := by
  unfold sp_count
  rw [if_neg (by decide), if_neg (by decide)]
  rfl
theorem sp_count_8 {sg un : Int32} : sp_count N sg un 8 = un := by
  unfold sp_count
  rw [if_neg (by decide), if_neg (by decide)]
  rfl
theorem rk_ck_n {k : Int32} {a : Int32} {ps : List (Int × Int)} (h : ps.all (fun q => decide (k.toInt ≠ q.1)) = true) (ha : ∃ o, (a.toInt, o) ∈ ps) : k ≠ a := by
  intro z
  obtain ⟨o, ho⟩ := ha
  have := List.all_eq_true.mp h _ ho
  rw [z] at this
  simp at this
theorem cX10_count_s (V : va_ok T N n Hs F Sv P L) (X : cl_X rg I R x N n Hs F Sv P L) (k : Int32) : rk_P w l rk_mX10_count 5 [rk_a 11 x, rk_i k] Sh I R (sp_count N (nI L) (nI n) k) := by
  obtain ⟨g, hh, hc⟩ := X.2.2.1
  refine rk_bP (ls := [(0, _), (1, _)]) (by decide) rfl (Nat.le_of_ble_eq_true rfl) ?_
  refine rk_iload_n 1 dX10_count_0 rfl rfl ?_
  refine rk_lsw 44 dX10_count_1 (by decide) (by decide) (by decide) ?_ (fun qz1 => ?_)
  · refine ⟨fun qz1 => ?_, fun qz1 => ?_, trivial⟩
    · skip
      have hw : k = 7 := rk_toI qz1 (by decide)
      subst hw
      refine rk_pc (pc' := 28) (by decide) ?_
      refine rk_aload_n 0 dX10_count_28 rfl rfl ?_
      refine rk_g11_5 rk_kX10_42 dX10_count_29 ?_
      refine rk_g4_1 rk_kX10_98 dX10_count_32 ?_
      refine rk_iretP dX10_count_35 rfl rfl ?_
      rw [X.2.2.2.2.1]; exact sp_count_7.symm
    · skip
      have hw : k = 8 := rk_toI qz1 (by decide)
      subst hw
      refine rk_pc (pc' := 36) (by decide) ?_
      refine rk_aload_n 0 dX10_count_36 rfl rfl ?_
      refine rk_g11_1 rk_kX10_19 dX10_count_37 ?_
      refine rk_pc (pc' := 40) rfl ?_
      refine rk_g2_1 rk_kX10_104 dX10_count_40 ?_
      refine rk_iretP dX10_count_43 rfl rfl ?_
      rw [hc.1]; exact sp_count_8.symm
  · skip
    refine rk_aload_n 0 dX10_count_44 rfl rfl ?_
    refine rk_g11_0 rk_kX10_10 dX10_count_45 ?_
    refine rk_iload_n 1 dX10_count_48 rfl rfl ?_
    refine rk_cVp (cX9_aboutAll_s V.1.1 X.2.1 k) rk_eX9_aboutAll rfl ⟨rfl, rfl⟩ rk_kX10_107 dX10_count_49 rfl (by decide) (Nat.le_of_ble_eq_true rfl) ⟨Nat.le_refl _, Nat.le_refl _⟩ ?_
    refine rk_iretP dX10_count_52 rfl rfl ?_
    exact (sp_count_e (rk_ck_n (a := 7) qz1 ⟨_, List.mem_cons_self⟩) (rk_ck_n (a := 8) qz1 ⟨_, List.mem_cons_of_mem _ List.mem_cons_self⟩)).symm
theorem cX10_account_s (V : va_ok T N n Hs F Sv P L) (X : cl_X rg I R x N n Hs F Sv P L) (f k : Int32) : rk_P w l rk_mX10_account 6 [rk_a 11 x, rk_i f, rk_i k] Sh I R (sp_account N f k) := by
  by_cases h1 : 0 ≤ f ∧ f ≤ 2
  · obtain ⟨j, hj, rfl⟩ := rk_in_n (n := 2) rfl (by decide) h1
    by_cases h2 : 0 ≤ k ∧ k ≤ 5
    · obtain ⟨i, hi, rfl⟩ := rk_in_n (n := 5) rfl (by decide) h2
      have ha : I 22 (R 21 (R 8 (R 10 (R 11 x 0) 1) 2) j) i = sp_acc N j i := X.2.1.2.2.1.2.2 j (by omega) i (by omega)
      refine rk_bP (ls := [(0, _), (1, _), (2, _)]) (by decide) rfl (Nat.le_of_ble_eq_true rfl) ?_
      refine rk_iload_n 1 dX10_account_0 rfl rfl ?_
      refine rk_cSp (cX10_isFibre_s) rk_eX10_isFibre rfl rk_kX10_110 dX10_account_1 rfl (by decide) (Nat.le_of_ble_eq_true rfl) ⟨Nat.le_refl _, Nat.le_refl _⟩ ?_
      refine rk_if_ne 9 dX10_account_4 (by decide) (fun qz4 => ?_) (fun qz4 => ?_)
      · skip
        refine rk_iload_n 2 dX10_account_9 rfl rfl ?_
        refine rk_iconst 0 dX10_account_10 (by decide) ?_
        refine rk_iconst 5 dX10_account_11 (by decide) ?_
        refine rk_cSp (cX10_inRange_s _ _ _) rk_eX10_inRange rfl rk_kX10_114 dX10_account_12 rfl (by decide) (Nat.le_of_ble_eq_true rfl) ⟨Nat.le_refl _, Nat.le_refl _⟩ ?_
        refine rk_pc (pc' := 15) rfl ?_
        refine rk_if_eq 35 dX10_account_15 (by decide) (fun qz15 => ?_) (fun qz15 => ?_)
        · skip
          exact absurd h2 (sp_bf qz15)
        · skip
          refine rk_aload_n 0 dX10_account_18 rfl rfl ?_
          refine rk_g11_0 rk_kX10_10 dX10_account_19 ?_
          refine rk_g10_1 rk_kX10_118 dX10_account_22 ?_
          refine rk_g8_2 rk_kX10_122 dX10_account_25 ?_
          refine rk_iload_n 1 dX10_account_28 rfl rfl ?_
          refine rk_rn21 (j) dX10_account_29 (by first | rfl | decide | assumption | (simp only [rk_lit, nI_add, pk_mul, nI_1]; done) | (simp only [rk_lit, nI_add, pk_mul, nI_1]; congr 1; omega)) (by first | decide | assumption | omega) ?_
          refine rk_pc (pc' := 30) rfl ?_
          refine rk_iload_n 2 dX10_account_30 rfl rfl ?_
          refine rk_rn22 (i) dX10_account_31 (by first | rfl | decide | assumption | (simp only [rk_lit, nI_add, pk_mul, nI_1]; done) | (simp only [rk_lit, nI_add, pk_mul, nI_1]; congr 1; omega)) (by first | decide | assumption | omega) ?_
          rw [ha]
          refine rk_goto 37 dX10_account_32 (by decide) ?_
          refine rk_iretP dX10_account_37 rfl rfl ?_
          unfold sp_account; rw [if_pos h1, if_pos h2, nI_clamp (by omega), nI_clamp (by omega)]
      · skip
        exact absurd h1 (sp_bf qz4)
    · skip
      refine rk_bP (ls := [(0, _), (1, _), (2, _)]) (by decide) rfl (Nat.le_of_ble_eq_true rfl) ?_
      refine rk_iload_n 1 dX10_account_0 rfl rfl ?_
      refine rk_cSp (cX10_isFibre_s) rk_eX10_isFibre rfl rk_kX10_110 dX10_account_1 rfl (by decide) (Nat.le_of_ble_eq_true rfl) ⟨Nat.le_refl _, Nat.le_refl _⟩ ?_
      refine rk_if_ne 9 dX10_account_4 (by decide) (fun qz4 => ?_) (fun qz4 => ?_)
      · skip
        refine rk_iload_n 2 dX10_account_9 rfl rfl ?_
        refine rk_iconst 0 dX10_account_10 (by decide) ?_
        refine rk_iconst 5 dX10_account_11 (by decide) ?_
        refine rk_cSp (cX10_inRange_s _ _ _) rk_eX10_inRange rfl rk_kX10_114 dX10_account_12 rfl (by decide) (Nat.le_of_ble_eq_true rfl) ⟨Nat.le_refl _, Nat.le_refl _⟩ ?_
        refine rk_pc (pc' := 15) rfl ?_
        refine rk_if_eq 35 dX10_account_15 (by decide) (fun qz15 => ?_) (fun qz15 => ?_)
        · skip
          refine rk_bipush (-2) dX10_account_35 (by decide) ?_
          refine rk_iretP dX10_account_37 rfl rfl ?_
          unfold sp_account; rw [if_pos h1, if_neg h2]
        · skip
          exact absurd (sp_bt qz15) h2
      · skip
        exact absurd h1 (sp_bf qz4)
  · skip
    refine rk_bP (ls := [(0, _), (1, _), (2, _)]) (by decide) rfl (Nat.le_of_ble_eq_true rfl) ?_
    refine rk_iload_n 1 dX10_account_0 rfl rfl ?_
    refine rk_cSp (cX10_isFibre_s) rk_eX10_isFibre rfl rk_kX10_110 dX10_account_1 rfl (by decide) (Nat.le_of_ble_eq_true rfl) ⟨Nat.le_refl _, Nat.le_refl _⟩ ?_
    refine rk_if_ne 9 dX10_account_4 (by decide) (fun qz4 => ?_) (fun qz4 => ?_)
    · skip
      exact absurd (sp_bt qz4) h1
    · skip
      refine rk_iconst (-1) dX10_account_7 (by decide) ?_
      refine rk_iretP dX10_account_8 rfl rfl ?_
      unfold sp_account; rw [if_neg h1]
theorem cX10_takes_s (V : va_ok T N n Hs F Sv P L) (X : cl_X rg I R x N n Hs F Sv P L) (f s y ft k : Int32) : rk_P w l rk_mX10_takes 7 [rk_a 11 x, rk_i f, rk_i s, rk_i y, rk_i ft, rk_i k] Sh I R (sp_takes N f s y ft k) := by
  have h8 : 1 ≤ N 8 := Int32.le_trans (show (1 : Int32) ≤ 10 by decide) (V.1.1.2.2.2.1 8 (by decide)).1
  by_cases h1 : 0 ≤ f ∧ f ≤ 2
  · obtain ⟨j, hj, rfl⟩ := rk_in_n (n := 2) rfl (by decide) h1
    refine rk_bP (ls := [(0, _), (1, _), (2, _), (3, _), (4, _), (5, _)]) (by decide) rfl (Nat.le_of_ble_eq_true rfl) ?_
    refine rk_iload_n 1 dX10_takes_0 rfl rfl ?_
    refine rk_cSp (cX10_isFibre_s) rk_eX10_isFibre rfl rk_kX10_110 dX10_takes_1 rfl (by decide) (Nat.le_of_ble_eq_true rfl) ⟨Nat.le_refl _, Nat.le_refl _⟩ ?_
    refine rk_if_ne 9 dX10_takes_4 (by decide) (fun qz4 => ?_) (fun qz4 => ?_)
    · skip
      refine rk_iload_n 2 dX10_takes_9 rfl rfl ?_
      refine rk_iload_n 3 dX10_takes_10 rfl rfl ?_
      refine rk_cSp (cX10_isMake_s) rk_eX10_isMake rfl rk_kX10_128 dX10_takes_11 rfl (by decide) (Nat.le_of_ble_eq_true rfl) ⟨Nat.le_refl _, Nat.le_refl _⟩ ?_
      refine rk_if_eq 29 dX10_takes_14 (by decide) (fun qz14 => ?_) (fun qz14 => ?_)
      · skip
        refine rk_bipush (-2) dX10_takes_29 (by decide) ?_
        refine rk_pc (pc' := 31) rfl ?_
        refine rk_iretP dX10_takes_31 rfl rfl ?_
        unfold sp_takes; rw [if_pos h1]; first | rw [if_neg (fun z => sp_bf qz14 z.1)] | rw [if_neg (fun z => sp_bf qz26 z.2)]
      · skip
        refine rk_iload dX10_takes_17 rfl ?_
        refine rk_iconst 1 dX10_takes_19 (by decide) ?_
        refine rk_sipush 2000 dX10_takes_20 (by decide) ?_
        refine rk_cSp (cX10_inRange_s _ _ _) rk_eX10_inRange rfl rk_kX10_114 dX10_takes_23 rfl (by decide) (Nat.le_of_ble_eq_true rfl) ⟨Nat.le_refl _, Nat.le_refl _⟩ ?_
        refine rk_if_ne 32 dX10_takes_26 (by decide) (fun qz26 => ?_) (fun qz26 => ?_)
        · skip
          refine rk_aload_n 0 dX10_takes_32 rfl rfl ?_
          refine rk_g11_0 rk_kX10_10 dX10_takes_33 ?_
          refine rk_pc (pc' := 36) rfl ?_
          refine rk_g10_0 rk_kX10_132 dX10_takes_36 ?_
          refine rk_iload_n 1 dX10_takes_39 rfl rfl ?_
          refine rk_iload_n 2 dX10_takes_40 rfl rfl ?_
          refine rk_iload_n 3 dX10_takes_41 rfl rfl ?_
          refine rk_iload dX10_takes_42 rfl ?_
          refine rk_iload dX10_takes_44 rfl ?_
          refine rk_pc (pc' := 46) rfl ?_
          refine rk_cVp (cX6_aboutNewRope_s X.2.1.2.1 h8 (by omega) _ _ _ _) rk_eX6_aboutNewRope rfl ⟨rfl, rfl⟩ rk_kX10_136 dX10_takes_46 rfl (by decide) (Nat.le_of_ble_eq_true rfl) ⟨Nat.le_refl _, Nat.le_refl _⟩ ?_
          refine rk_iretP dX10_takes_49 rfl rfl ?_
          unfold sp_takes; rw [if_pos h1, if_pos ⟨sp_bt qz14, sp_bt qz26⟩, nI_clamp (by omega)]
        · skip
          refine rk_bipush (-2) dX10_takes_29 (by decide) ?_
          refine rk_iretP dX10_takes_31 rfl rfl ?_
          unfold sp_takes; rw [if_pos h1]; first | rw [if_neg (fun z => sp_bf qz14 z.1)] | rw [if_neg (fun z => sp_bf qz26 z.2)]
    · skip
      exact absurd h1 (sp_bf qz4)
  · skip
    refine rk_bP (ls := [(0, _), (1, _), (2, _), (3, _), (4, _), (5, _)]) (by decide) rfl (Nat.le_of_ble_eq_true rfl) ?_
    refine rk_iload_n 1 dX10_takes_0 rfl rfl ?_
    refine rk_cSp (cX10_isFibre_s) rk_eX10_isFibre rfl rk_kX10_110 dX10_takes_1 rfl (by decide) (Nat.le_of_ble_eq_true rfl) ⟨Nat.le_refl _, Nat.le_refl _⟩ ?_
    refine rk_if_ne 9 dX10_takes_4 (by decide) (fun qz4 => ?_) (fun qz4 => ?_)
    · skip
      exact absurd (sp_bt qz4) h1
    · skip
      refine rk_iconst (-1) dX10_takes_7 (by decide) ?_
      refine rk_iretP dX10_takes_8 rfl rfl ?_
      unfold sp_takes; rw [if_neg h1]
theorem cX10_longest_s (V : va_ok T N n Hs F Sv P L) (X : cl_X rg I R x N n Hs F Sv P L) (f s y : Int32) : rk_P w l rk_mX10_longest 7 [rk_a 11 x, rk_i f, rk_i s, rk_i y] Sh I R (sp_longest N f s y) := by
  by_cases h1 : 0 ≤ f ∧ f ≤ 2
  · obtain ⟨j, hj, rfl⟩ := rk_in_n (n := 2) rfl (by decide) h1
    refine rk_bP (ls := [(0, _), (1, _), (2, _), (3, _)]) (by decide) rfl (Nat.le_of_ble_eq_true rfl) ?_
    refine rk_iload_n 1 dX10_longest_0 rfl rfl ?_
    refine rk_cSp (cX10_isFibre_s) rk_eX10_isFibre rfl rk_kX10_110 dX10_longest_1 rfl (by decide) (Nat.le_of_ble_eq_true rfl) ⟨Nat.le_refl _, Nat.le_refl _⟩ ?_
    refine rk_if_ne 9 dX10_longest_4 (by decide) (fun qz4 => ?_) (fun qz4 => ?_)
    · skip
      refine rk_iload_n 2 dX10_longest_9 rfl rfl ?_
      refine rk_iload_n 3 dX10_longest_10 rfl rfl ?_
      refine rk_cSp (cX10_isMake_s) rk_eX10_isMake rfl rk_kX10_128 dX10_longest_11 rfl (by decide) (Nat.le_of_ble_eq_true rfl) ⟨Nat.le_refl _, Nat.le_refl _⟩ ?_
      refine rk_if_eq 30 dX10_longest_14 (by decide) (fun qz14 => ?_) (fun qz14 => ?_)
      · skip
        refine rk_bipush (-2) dX10_longest_30 (by decide) ?_
        refine rk_pc (pc' := 32) rfl ?_
        refine rk_iretP dX10_longest_32 rfl rfl ?_
        unfold sp_longest; rw [if_pos h1]; first | (rw [if_neg (sp_bf qz14)]; done) | (rw [if_pos (sp_bt qz14), nI_clamp (by omega)]; done)
      · skip
        refine rk_aload_n 0 dX10_longest_17 rfl rfl ?_
        refine rk_g11_0 rk_kX10_10 dX10_longest_18 ?_
        refine rk_iload_n 1 dX10_longest_21 rfl rfl ?_
        refine rk_iload_n 2 dX10_longest_22 rfl rfl ?_
        refine rk_iload_n 3 dX10_longest_23 rfl rfl ?_
        refine rk_cVp (cX9_longestRope_s V.1.1 X.2.1 (by omega)) rk_eX9_longestRope rfl ⟨rfl, rfl⟩ rk_kX10_142 dX10_longest_24 rfl (by decide) (Nat.le_of_ble_eq_true rfl) ⟨Nat.le_refl _, Nat.le_refl _⟩ ?_
        refine rk_pc (pc' := 27) rfl ?_
        refine rk_goto 32 dX10_longest_27 (by decide) ?_
        refine rk_iretP dX10_longest_32 rfl rfl ?_
        unfold sp_longest; rw [if_pos h1]; first | (rw [if_neg (sp_bf qz14)]; done) | (rw [if_pos (sp_bt qz14), nI_clamp (by omega)]; done)
    · skip
      exact absurd h1 (sp_bf qz4)
  · skip
    refine rk_bP (ls := [(0, _), (1, _), (2, _), (3, _)]) (by decide) rfl (Nat.le_of_ble_eq_true rfl) ?_
    refine rk_iload_n 1 dX10_longest_0 rfl rfl ?_
    refine rk_cSp (cX10_isFibre_s) rk_eX10_isFibre rfl rk_kX10_110 dX10_longest_1 rfl (by decide) (Nat.le_of_ble_eq_true rfl) ⟨Nat.le_refl _, Nat.le_refl _⟩ ?_
    refine rk_if_ne 9 dX10_longest_4 (by decide) (fun qz4 => ?_) (fun qz4 => ?_)
    · skip
      exact absurd (sp_bt qz4) h1
    · skip
      refine rk_iconst (-1) dX10_longest_7 (by decide) ?_
      refine rk_iretP dX10_longest_8 rfl rfl ?_
      unfold sp_longest; rw [if_neg h1]
theorem cX10_leastYarns_s (V : va_ok T N n Hs F Sv P L) (X : cl_X rg I R x N n Hs F Sv P L) (f s st : Int32) : rk_P w l rk_mX10_leastYarns 7 [rk_a 11 x, rk_i f, rk_i s, rk_i st] Sh I R (sp_least N f s st) := by
  have h11 : (1 : Int32) ≤ 1 ∧ (1 : Int32) ≤ 40 := by decide
  by_cases h1 : 0 ≤ f ∧ f ≤ 2
  · obtain ⟨j, hj, rfl⟩ := rk_in_n (n := 2) rfl (by decide) h1
    refine rk_bP (ls := [(0, _), (1, _), (2, _), (3, _)]) (by decide) rfl (Nat.le_of_ble_eq_true rfl) ?_
    refine rk_iload_n 1 dX10_leastYarns_0 rfl rfl ?_
    refine rk_cSp (cX10_isFibre_s) rk_eX10_isFibre rfl rk_kX10_110 dX10_leastYarns_1 rfl (by decide) (Nat.le_of_ble_eq_true rfl) ⟨Nat.le_refl _, Nat.le_refl _⟩ ?_
    refine rk_if_ne 9 dX10_leastYarns_4 (by decide) (fun qz4 => ?_) (fun qz4 => ?_)
    · skip
      refine rk_iload_n 2 dX10_leastYarns_9 rfl rfl ?_
      refine rk_iconst 1 dX10_leastYarns_10 (by decide) ?_
      refine rk_cSp (cX10_isMake_s) rk_eX10_isMake rfl rk_kX10_128 dX10_leastYarns_11 rfl (by decide) (Nat.le_of_ble_eq_true rfl) ⟨Nat.le_refl _, Nat.le_refl _⟩ ?_
      refine rk_if_eq 27 dX10_leastYarns_14 (by decide) (fun qz14 => ?_) (fun qz14 => ?_)
      · skip
        refine rk_bipush (-2) dX10_leastYarns_27 (by decide) ?_
        refine rk_pc (pc' := 29) rfl ?_
        refine rk_iretP dX10_leastYarns_29 rfl rfl ?_
        unfold sp_least; rw [if_pos h1]; first | rw [if_neg (fun z => sp_bf qz14 ⟨z.1, h11⟩)] | rw [if_neg (fun z => sp_bf qz24 z.2)]
      · skip
        refine rk_iload_n 3 dX10_leastYarns_17 rfl rfl ?_
        refine rk_iconst 1 dX10_leastYarns_18 (by decide) ?_
        refine rk_ldc 50000 dX10_leastYarns_19 (by first | exact rk_inT 497 (by decide +kernel) (by decide +kernel)) ?_
        refine rk_cSp (cX10_inRange_s _ _ _) rk_eX10_inRange rfl rk_kX10_114 dX10_leastYarns_21 rfl (by decide) (Nat.le_of_ble_eq_true rfl) ⟨Nat.le_refl _, Nat.le_refl _⟩ ?_
        refine rk_if_ne 30 dX10_leastYarns_24 (by decide) (fun qz24 => ?_) (fun qz24 => ?_)
        · skip
          refine rk_aload_n 0 dX10_leastYarns_30 rfl rfl ?_
          refine rk_g11_0 rk_kX10_10 dX10_leastYarns_31 ?_
          refine rk_pc (pc' := 34) rfl ?_
          refine rk_g10_0 rk_kX10_132 dX10_leastYarns_34 ?_
          refine rk_iload_n 1 dX10_leastYarns_37 rfl rfl ?_
          refine rk_iload_n 2 dX10_leastYarns_38 rfl rfl ?_
          refine rk_iload_n 3 dX10_leastYarns_39 rfl rfl ?_
          refine rk_cVp (cX6_fewestYarns_s X.2.1.2.1 (by omega) _ _) rk_eX6_fewestYarns rfl ⟨rfl, rfl⟩ rk_kX10_146 dX10_leastYarns_40 rfl (by decide) (Nat.le_of_ble_eq_true rfl) ⟨Nat.le_refl _, Nat.le_refl _⟩ ?_
          refine rk_iretP dX10_leastYarns_43 rfl rfl ?_
          unfold sp_least; rw [if_pos h1, if_pos ⟨(sp_bt qz14).1, sp_bt qz24⟩, nI_clamp (by omega)]
        · skip
          refine rk_bipush (-2) dX10_leastYarns_27 (by decide) ?_
          refine rk_pc (pc' := 29) rfl ?_
          refine rk_iretP dX10_leastYarns_29 rfl rfl ?_
          unfold sp_least; rw [if_pos h1]; first | rw [if_neg (fun z => sp_bf qz14 ⟨z.1, h11⟩)] | rw [if_neg (fun z => sp_bf qz24 z.2)]
    · skip
      exact absurd h1 (sp_bf qz4)
  · skip
    refine rk_bP (ls := [(0, _), (1, _), (2, _), (3, _)]) (by decide) rfl (Nat.le_of_ble_eq_true rfl) ?_
    refine rk_iload_n 1 dX10_leastYarns_0 rfl rfl ?_
    refine rk_cSp (cX10_isFibre_s) rk_eX10_isFibre rfl rk_kX10_110 dX10_leastYarns_1 rfl (by decide) (Nat.le_of_ble_eq_true rfl) ⟨Nat.le_refl _, Nat.le_refl _⟩ ?_
    refine rk_if_ne 9 dX10_leastYarns_4 (by decide) (fun qz4 => ?_) (fun qz4 => ?_)
    · skip
      exact absurd (sp_bt qz4) h1
    · skip
      refine rk_iconst (-1) dX10_leastYarns_7 (by decide) ?_
      refine rk_iretP dX10_leastYarns_8 rfl rfl ?_
      unfold sp_least; rw [if_neg h1]
theorem cX10_finesIn_s (V : va_ok T N n Hs F Sv P L) (X : cl_X rg I R x N n Hs F Sv P L) (d : Int32) : rk_P w l rk_mX10_finesIn 7 [rk_a 11 x, rk_i d] Sh I R (sp_finesIn N d) := by
  by_cases h1 : 1 ≤ d ∧ d ≤ 200
  · obtain ⟨j, hj, rfl⟩ := rk_nat (m := 200) (by decide) (Int32.le_trans (show (0 : Int32) ≤ 1 by decide) h1.1) h1.2
    refine rk_bP (ls := [(0, _), (1, _)]) (by decide) rfl (Nat.le_of_ble_eq_true rfl) ?_
    refine rk_iload_n 1 dX10_finesIn_0 rfl rfl ?_
    refine rk_iconst 1 dX10_finesIn_1 (by decide) ?_
    refine rk_sipush 200 dX10_finesIn_2 (by decide) ?_
    refine rk_cSp (cX10_inRange_s _ _ _) rk_eX10_inRange rfl rk_kX10_114 dX10_finesIn_5 rfl (by decide) (Nat.le_of_ble_eq_true rfl) ⟨Nat.le_refl _, Nat.le_refl _⟩ ?_
    refine rk_if_eq 22 dX10_finesIn_8 (by decide) (fun qz8 => ?_) (fun qz8 => ?_)
    · skip
      exact absurd h1 (sp_bf qz8)
    · skip
      refine rk_aload_n 0 dX10_finesIn_11 rfl rfl ?_
      refine rk_g11_0 rk_kX10_10 dX10_finesIn_12 ?_
      refine rk_pc (pc' := 15) rfl ?_
      refine rk_iload_n 1 dX10_finesIn_15 rfl rfl ?_
      refine rk_cVp (cX9_finesOver_s V.1.1 X.2.1 hj) rk_eX9_finesOver rfl ⟨rfl, rfl⟩ rk_kX10_179 dX10_finesIn_16 rfl (by decide) (Nat.le_of_ble_eq_true rfl) ⟨Nat.le_refl _, Nat.le_refl _⟩ ?_
      refine rk_goto 24 dX10_finesIn_19 (by decide) ?_
      refine rk_iretP dX10_finesIn_24 rfl rfl ?_
      unfold sp_finesIn; rw [if_pos h1, nI_clamp (by omega)]
  · skip
    refine rk_bP (ls := [(0, _), (1, _)]) (by decide) rfl (Nat.le_of_ble_eq_true rfl) ?_
    refine rk_iload_n 1 dX10_finesIn_0 rfl rfl ?_
    refine rk_iconst 1 dX10_finesIn_1 (by decide) ?_
    refine rk_sipush 200 dX10_finesIn_2 (by decide) ?_
    refine rk_cSp (cX10_inRange_s _ _ _) rk_eX10_inRange rfl rk_kX10_114 dX10_finesIn_5 rfl (by decide) (Nat.le_of_ble_eq_true rfl) ⟨Nat.le_refl _, Nat.le_refl _⟩ ?_
    refine rk_if_eq 22 dX10_finesIn_8 (by decide) (fun qz8 => ?_) (fun qz8 => ?_)
    · skip
      refine rk_bipush (-2) dX10_finesIn_22 (by decide) ?_
      refine rk_iretP dX10_finesIn_24 rfl rfl ?_
      unfold sp_finesIn; rw [if_neg h1]
    · skip
      exact absurd (sp_bt qz8) h1
end DG

