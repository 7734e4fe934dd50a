/-- of the first n pieces the shortest that suits, the first of several; -6: none -/
noncomputable def sp_bp (N : Nat → Int32) (P : Nat → Nat → Int32) (O : Nat → Int32) : Nat → Int32
  | 0 => -6
  | n + 1 => @ite _ (sp_su N (P n) O ∧ (sp_bp N P O n < 0 ∨ P n 3 < P (sp_bp N P O n).toNatClampNeg 3)) (Classical.propDecidable _) (nI n) (sp_bp N P O n)
theorem sp_bp_in (N : Nat → Int32) (P : Nat → Nat → Int32) (O : Nat → Int32) : ∀ n : Nat, n ≤ 24 → sp_bp N P O n = -6 ∨ ∃ q, q < n ∧ sp_bp N P O n = nI q ∧ sp_su N (P q) O
  | 0, _ => Or.inl rfl
  | n + 1, hn => by
    simp only [sp_bp]
    split
    · rename_i h; exact Or.inr ⟨n, by omega, rfl, h.1⟩
    · rcases sp_bp_in N P O n (by omega) with h | ⟨q, h1, h2, h3⟩
      · exact Or.inl h
      · exact Or.inr ⟨q, by omega, h2, h3⟩
theorem sp_bp1 {N : Nat → Int32} {P : Nat → Nat → Int32} {O : Nat → Int32} {n : Nat} (h : sp_su N (P n) O ∧ (sp_bp N P O n < 0 ∨ P n 3 < P (sp_bp N P O n).toNatClampNeg 3)) : sp_bp N P O (n + 1) = nI n := if_pos h
theorem sp_bp0 {N : Nat → Int32} {P : Nat → Nat → Int32} {O : Nat → Int32} {n : Nat} (h : ¬ (sp_su N (P n) O ∧ (sp_bp N P O n < 0 ∨ P n 3 < P (sp_bp N P O n).toNatClampNeg 3))) : sp_bp N P O (n + 1) = sp_bp N P O n := if_neg h
/-- how many of the first n pieces suit -/
noncomputable def sp_ns (N : Nat → Int32) (P : Nat → Nat → Int32) (O : Nat → Int32) : Nat → Int32
  | 0 => 0
  | n + 1 => sp_ns N P O n + sp_b (sp_su N (P n) O)
def sp_fi (N : Nat → Int32) (c : Nat) : Prop := ∀ p, p < c → ∃ f, f < 3 ∧ N (50 + 7 * p + 0) = nI f
theorem rk_n6 : ((-6 : Int32) < 0) := by decide
section MS
variable {w : rk_W} {l : Launch} {Sh : rk_Sh} {I : rk_Mm} {R : rk_Rm}
theorem cX11_suits_s {m p o fi : Nat} {x y : Int32} (hx : x = nI p) (hy : y = nI o) (hp : p < 24) (ho : o < 16) (hf : fi < 3) (h0 : I 26 (R 12 m 0) (50 + 7 * p + 0) = nI fi) : rk_P w l rk_mX11_suits 3 [rk_a 12 m, rk_i x, rk_i y] Sh I R (sp_b (sp_su (I 26 (R 12 m 0)) (sp_P (I 26 (R 12 m 0)) p) (sp_O (I 26 (R 12 m 0)) o))) := by
  subst hx hy
  refine rk_bP (ls := [(0, _), (1, _), (2, _)]) (by decide) rfl (Nat.le_of_ble_eq_true rfl) ?_
  refine rk_aload_n 0 dX11_suits_0 rfl rfl ?_
  refine rk_iload_n 1 dX11_suits_1 rfl rfl ?_
  refine rk_iconst 0 dX11_suits_2 (by decide) ?_
  refine rk_cVp (cX11_ofPiece_s p 0 rfl rfl hp (by decide)) rk_eX11_ofPiece rfl ⟨rfl, rfl⟩ rk_kX11_91 dX11_suits_3 rfl (by decide) (Nat.le_of_ble_eq_true rfl) ⟨Nat.le_refl _, Nat.le_refl _⟩ ?_
  refine rk_aload_n 0 dX11_suits_6 rfl rfl ?_
  refine rk_iload_n 2 dX11_suits_7 rfl rfl ?_
  refine rk_pc (pc' := 8) rfl ?_
  refine rk_iconst 0 dX11_suits_8 (by decide) ?_
  refine rk_cVp (cX11_orderAt_s o 0 rfl rfl ho (by decide)) rk_eX11_orderAt rfl ⟨rfl, rfl⟩ rk_kX11_109 dX11_suits_9 rfl (by decide) (Nat.le_of_ble_eq_true rfl) ⟨Nat.le_refl _, Nat.le_refl _⟩ ?_
  refine rk_icmp_ne 34 dX11_suits_12 (by decide) (fun qz12 => ?_) (fun qz12 => ?_)
  · skip
    refine rk_iconst 0 dX11_suits_34 (by decide) ?_
    refine rk_istore_n 3 (ls' := [(3, _), (0, _), (1, _), (2, _)]) dX11_suits_35 rfl (by decide) rfl ?_
    refine rk_iload_n 3 dX11_suits_36 rfl rfl ?_
    refine rk_if_eq 78 dX11_suits_37 (by decide) (fun qz37 => ?_) (fun qz37 => ?_)
    · skip
      refine rk_iconst 0 dX11_suits_78 (by decide) ?_
      refine rk_pc (pc' := 79) rfl ?_
      refine rk_iretP dX11_suits_79 rfl (by decide) ?_
      first | exact sp_b0 (fun z => qz12 z.1) | exact sp_b0 (fun z => Int32.not_lt.mpr z.2.1 qz27) | exact sp_b0 (fun z => Int32.not_lt.mpr z.2.2.2 qz71) | exact sp_b0 (fun z => z.2.2.1.elim qz47 qz57) | exact sp_b1 ⟨qz12, Int32.not_lt.mp qz27, Or.inl qz47, Int32.not_lt.mp qz71⟩ | exact sp_b1 ⟨qz12, Int32.not_lt.mp qz27, Or.inr qz57, Int32.not_lt.mp qz71⟩
    · skip
      exact absurd qz37 (by decide)
  · skip
    refine rk_aload_n 0 dX11_suits_15 rfl rfl ?_
    refine rk_iload_n 1 dX11_suits_16 rfl rfl ?_
    refine rk_iconst 3 dX11_suits_17 (by decide) ?_
    refine rk_cVp (cX11_ofPiece_s p 3 rfl rfl hp (by decide)) rk_eX11_ofPiece rfl ⟨rfl, rfl⟩ rk_kX11_91 dX11_suits_18 rfl (by decide) (Nat.le_of_ble_eq_true rfl) ⟨Nat.le_refl _, Nat.le_refl _⟩ ?_
    refine rk_aload_n 0 dX11_suits_21 rfl rfl ?_
    refine rk_iload_n 2 dX11_suits_22 rfl rfl ?_
    refine rk_pc (pc' := 23) rfl ?_
    refine rk_iconst 2 dX11_suits_23 (by decide) ?_
    refine rk_cVp (cX11_orderAt_s o 2 rfl rfl ho (by decide)) rk_eX11_orderAt rfl ⟨rfl, rfl⟩ rk_kX11_109 dX11_suits_24 rfl (by decide) (Nat.le_of_ble_eq_true rfl) ⟨Nat.le_refl _, Nat.le_refl _⟩ ?_
    refine rk_icmp_lt 34 dX11_suits_27 (by decide) (fun qz27 => ?_) (fun qz27 => ?_)
    · skip
      refine rk_iconst 0 dX11_suits_34 (by decide) ?_
      refine rk_istore_n 3 (ls' := [(3, _), (0, _), (1, _), (2, _)]) dX11_suits_35 rfl (by decide) rfl ?_
      refine rk_iload_n 3 dX11_suits_36 rfl rfl ?_
      refine rk_if_eq 78 dX11_suits_37 (by decide) (fun qz37 => ?_) (fun qz37 => ?_)
      · skip
        refine rk_iconst 0 dX11_suits_78 (by decide) ?_
        refine rk_pc (pc' := 79) rfl ?_
        refine rk_iretP dX11_suits_79 rfl (by decide) ?_
        first | exact sp_b0 (fun z => qz12 z.1) | exact sp_b0 (fun z => Int32.not_lt.mpr z.2.1 qz27) | exact sp_b0 (fun z => Int32.not_lt.mpr z.2.2.2 qz71) | exact sp_b0 (fun z => z.2.2.1.elim qz47 qz57) | exact sp_b1 ⟨qz12, Int32.not_lt.mp qz27, Or.inl qz47, Int32.not_lt.mp qz71⟩ | exact sp_b1 ⟨qz12, Int32.not_lt.mp qz27, Or.inr qz57, Int32.not_lt.mp qz71⟩
      · skip
        exact absurd qz37 (by decide)
    · skip
      refine rk_iconst 1 dX11_suits_30 (by decide) ?_
      refine rk_goto 35 dX11_suits_31 (by decide) ?_
      refine rk_istore_n 3 (ls' := [(3, _), (0, _), (1, _), (2, _)]) dX11_suits_35 rfl (by decide) rfl ?_
      refine rk_iload_n 3 dX11_suits_36 rfl rfl ?_
      refine rk_if_eq 78 dX11_suits_37 (by decide) (fun qz37 => ?_) (fun qz37 => ?_)
      · skip
        exact absurd qz37 (by decide)
      · skip
        refine rk_aload_n 0 dX11_suits_40 rfl rfl ?_
        refine rk_iload_n 2 dX11_suits_41 rfl rfl ?_
        refine rk_pc (pc' := 42) rfl ?_
        refine rk_iconst 4 dX11_suits_42 (by decide) ?_
        refine rk_cVp (cX11_orderAt_s o 4 rfl rfl ho (by decide)) rk_eX11_orderAt rfl ⟨rfl, rfl⟩ rk_kX11_109 dX11_suits_43 rfl (by decide) (Nat.le_of_ble_eq_true rfl) ⟨Nat.le_refl _, Nat.le_refl _⟩ ?_
        refine rk_iconst 1 dX11_suits_46 (by decide) ?_
        refine rk_icmp_eq 60 dX11_suits_47 (by decide) (fun qz47 => ?_) (fun qz47 => ?_)
        · skip
          refine rk_aload_n 0 dX11_suits_60 rfl rfl ?_
          refine rk_iload_n 1 dX11_suits_61 rfl rfl ?_
          refine rk_cVp (cX11_strengthOf_s p fi rfl hp hf h0) rk_eX11_strengthOf rfl ⟨rfl, rfl⟩ rk_kX11_101 dX11_suits_62 rfl (by decide) (Nat.le_of_ble_eq_true rfl) ⟨Nat.le_refl _, Nat.le_refl _⟩ ?_
          refine rk_pc (pc' := 65) rfl ?_
          refine rk_aload_n 0 dX11_suits_65 rfl rfl ?_
          refine rk_iload_n 2 dX11_suits_66 rfl rfl ?_
          refine rk_iconst 1 dX11_suits_67 (by decide) ?_
          refine rk_cVp (cX11_orderAt_s o 1 rfl rfl ho (by decide)) rk_eX11_orderAt rfl ⟨rfl, rfl⟩ rk_kX11_109 dX11_suits_68 rfl (by decide) (Nat.le_of_ble_eq_true rfl) ⟨Nat.le_refl _, Nat.le_refl _⟩ ?_
          refine rk_icmp_lt 78 dX11_suits_71 (by decide) (fun qz71 => ?_) (fun qz71 => ?_)
          · skip
            refine rk_iconst 0 dX11_suits_78 (by decide) ?_
            refine rk_iretP dX11_suits_79 rfl (by decide) ?_
            first | exact sp_b0 (fun z => qz12 z.1) | exact sp_b0 (fun z => Int32.not_lt.mpr z.2.1 qz27) | exact sp_b0 (fun z => Int32.not_lt.mpr z.2.2.2 qz71) | exact sp_b0 (fun z => z.2.2.1.elim qz47 qz57) | exact sp_b1 ⟨qz12, Int32.not_lt.mp qz27, Or.inl qz47, Int32.not_lt.mp qz71⟩ | exact sp_b1 ⟨qz12, Int32.not_lt.mp qz27, Or.inr qz57, Int32.not_lt.mp qz71⟩
          · skip
            refine rk_iconst 1 dX11_suits_74 (by decide) ?_
            refine rk_pc (pc' := 75) rfl ?_
            refine rk_goto 79 dX11_suits_75 (by decide) ?_
            refine rk_iretP dX11_suits_79 rfl (by decide) ?_
            first | exact sp_b0 (fun z => qz12 z.1) | exact sp_b0 (fun z => Int32.not_lt.mpr z.2.1 qz27) | exact sp_b0 (fun z => Int32.not_lt.mpr z.2.2.2 qz71) | exact sp_b0 (fun z => z.2.2.1.elim qz47 qz57) | exact sp_b1 ⟨qz12, Int32.not_lt.mp qz27, Or.inl qz47, Int32.not_lt.mp qz71⟩ | exact sp_b1 ⟨qz12, Int32.not_lt.mp qz27, Or.inr qz57, Int32.not_lt.mp qz71⟩
        · skip
          refine rk_aload_n 0 dX11_suits_50 rfl rfl ?_
          refine rk_iload_n 1 dX11_suits_51 rfl rfl ?_
          refine rk_bipush 6 dX11_suits_52 (by decide) ?_
          refine rk_cVp (cX11_ofPiece_s p 6 rfl rfl hp (by decide)) rk_eX11_ofPiece rfl ⟨rfl, rfl⟩ rk_kX11_91 dX11_suits_54 rfl (by decide) (Nat.le_of_ble_eq_true rfl) ⟨Nat.le_refl _, Nat.le_refl _⟩ ?_
          refine rk_if_ne 78 dX11_suits_57 (by decide) (fun qz57 => ?_) (fun qz57 => ?_)
          · skip
            refine rk_iconst 0 dX11_suits_78 (by decide) ?_
            refine rk_pc (pc' := 79) rfl ?_
            refine rk_iretP dX11_suits_79 rfl (by decide) ?_
            first | exact sp_b0 (fun z => qz12 z.1) | exact sp_b0 (fun z => Int32.not_lt.mpr z.2.1 qz27) | exact sp_b0 (fun z => Int32.not_lt.mpr z.2.2.2 qz71) | exact sp_b0 (fun z => z.2.2.1.elim qz47 qz57) | exact sp_b1 ⟨qz12, Int32.not_lt.mp qz27, Or.inl qz47, Int32.not_lt.mp qz71⟩ | exact sp_b1 ⟨qz12, Int32.not_lt.mp qz27, Or.inr qz57, Int32.not_lt.mp qz71⟩
          · skip
            refine rk_aload_n 0 dX11_suits_60 rfl rfl ?_
            refine rk_iload_n 1 dX11_suits_61 rfl rfl ?_
            refine rk_cVp (cX11_strengthOf_s p fi rfl hp hf h0) rk_eX11_strengthOf rfl ⟨rfl, rfl⟩ rk_kX11_101 dX11_suits_62 rfl (by decide) (Nat.le_of_ble_eq_true rfl) ⟨Nat.le_refl _, Nat.le_refl _⟩ ?_
            refine rk_aload_n 0 dX11_suits_65 rfl rfl ?_
            refine rk_iload_n 2 dX11_suits_66 rfl rfl ?_
            refine rk_iconst 1 dX11_suits_67 (by decide) ?_
            refine rk_pc (pc' := 68) rfl ?_
            refine rk_cVp (cX11_orderAt_s o 1 rfl rfl ho (by decide)) rk_eX11_orderAt rfl ⟨rfl, rfl⟩ rk_kX11_109 dX11_suits_68 rfl (by decide) (Nat.le_of_ble_eq_true rfl) ⟨Nat.le_refl _, Nat.le_refl _⟩ ?_
            refine rk_icmp_lt 78 dX11_suits_71 (by decide) (fun qz71 => ?_) (fun qz71 => ?_)
            · skip
              refine rk_iconst 0 dX11_suits_78 (by decide) ?_
              refine rk_iretP dX11_suits_79 rfl (by decide) ?_
              first | exact sp_b0 (fun z => qz12 z.1) | exact sp_b0 (fun z => Int32.not_lt.mpr z.2.1 qz27) | exact sp_b0 (fun z => Int32.not_lt.mpr z.2.2.2 qz71) | exact sp_b0 (fun z => z.2.2.1.elim qz47 qz57) | exact sp_b1 ⟨qz12, Int32.not_lt.mp qz27, Or.inl qz47, Int32.not_lt.mp qz71⟩ | exact sp_b1 ⟨qz12, Int32.not_lt.mp qz27, Or.inr qz57, Int32.not_lt.mp qz71⟩
            · skip
              refine rk_iconst 1 dX11_suits_74 (by decide) ?_
              refine rk_goto 79 dX11_suits_75 (by decide) ?_
              refine rk_iretP dX11_suits_79 rfl (by decide) ?_
              first | exact sp_b0 (fun z => qz12 z.1) | exact sp_b0 (fun z => Int32.not_lt.mpr z.2.1 qz27) | exact sp_b0 (fun z => Int32.not_lt.mpr z.2.2.2 qz71) | exact sp_b0 (fun z => z.2.2.1.elim qz47 qz57) | exact sp_b1 ⟨qz12, Int32.not_lt.mp qz27, Or.inl qz47, Int32.not_lt.mp qz71⟩ | exact sp_b1 ⟨qz12, Int32.not_lt.mp qz27, Or.inr qz57, Int32.not_lt.mp qz71⟩
theorem cX11_best_loop {m o c : Nat} (ho : o < 16) (hc : c ≤ 24) (h12 : I 26 (R 12 m 0) 12 = nI c) (hfi : sp_fi (I 26 (R 12 m 0)) c) : ∀ n k : Nat, k + n = c → rk_Wp w l rk_mX11_bestPiece 4 0 0 (rk_GP w Sh I R (sp_bp (I 26 (R 12 m 0)) (sp_P (I 26 (R 12 m 0))) (sp_O (I 26 (R 12 m 0)) o) c)) 5 [(0, rk_a 12 m), (1, rk_i (nI o)), (2, rk_i (sp_bp (I 26 (R 12 m 0)) (sp_P (I 26 (R 12 m 0))) (sp_O (I 26 (R 12 m 0)) o) k)), (3, rk_i (nI k))] [] (Sh, 0, 0) I R := by
  intro n
  induction n with
  | zero =>
    intro k hk
    obtain rfl : k = c := by omega
    refine rk_iload_n 3 dX11_bestPiece_5 rfl rfl ?_
    refine rk_aload_n 0 dX11_bestPiece_6 rfl rfl ?_
    refine rk_g12_0 rk_kX11_7 dX11_bestPiece_7 ?_
    refine rk_bipush 12 dX11_bestPiece_10 (by decide) ?_
    refine rk_rn26 12 dX11_bestPiece_12 rfl (by first | decide | assumption | omega) ?_
    rw [h12]
    refine rk_icmp_ge 56 dX11_bestPiece_13 (by decide) (fun qz13 => ?_) (fun qz13 => ?_)
    · skip
      refine rk_iload_n 2 dX11_bestPiece_56 rfl rfl ?_
      refine rk_pc (pc' := 57) rfl ?_
      refine rk_iretP dX11_bestPiece_57 rfl rfl ?_
      rfl
    · skip
      exact absurd (nI_le (Nat.le_refl k) (by omega)) qz13
  | succ n ih =>
    intro k hk
    obtain ⟨f, hf, h0⟩ := hfi k (by omega)
    have hnge : ¬ nI c ≤ nI k := nI_ge (by omega) (by omega)
    rcases sp_bp_in (I 26 (R 12 m 0)) (sp_P (I 26 (R 12 m 0))) (sp_O (I 26 (R 12 m 0)) o) k (by omega) with hb | ⟨q, hq, hb, -⟩
    · have hlt : sp_bp (I 26 (R 12 m 0)) (sp_P (I 26 (R 12 m 0))) (sp_O (I 26 (R 12 m 0)) o) k < 0 := by rw [hb]; exact rk_n6
      refine rk_iload_n 3 dX11_bestPiece_5 rfl rfl ?_
      refine rk_aload_n 0 dX11_bestPiece_6 rfl rfl ?_
      refine rk_g12_0 rk_kX11_7 dX11_bestPiece_7 ?_
      refine rk_bipush 12 dX11_bestPiece_10 (by decide) ?_
      refine rk_rn26 12 dX11_bestPiece_12 rfl (by first | decide | assumption | omega) ?_
      rw [h12]
      refine rk_icmp_ge 56 dX11_bestPiece_13 (by decide) (fun qz13 => ?_) (fun qz13 => ?_)
      · skip
        exact absurd qz13 hnge
      · skip
        refine rk_aload_n 0 dX11_bestPiece_16 rfl rfl ?_
        refine rk_pc (pc' := 17) rfl ?_
        refine rk_iload_n 3 dX11_bestPiece_17 rfl rfl ?_
        refine rk_iload_n 1 dX11_bestPiece_18 rfl rfl ?_
        refine rk_cVp (cX11_suits_s rfl rfl (by omega) ho hf h0) rk_eX11_suits rfl ⟨rfl, rfl⟩ rk_kX11_112 dX11_bestPiece_19 rfl (by decide) (Nat.le_of_ble_eq_true rfl) ⟨Nat.le_refl _, Nat.le_refl _⟩ ?_
        refine rk_if_eq 48 dX11_bestPiece_22 (by decide) (fun qz22 => ?_) (fun qz22 => ?_)
        · skip
          refine rk_iload_n 2 dX11_bestPiece_48 rfl rfl ?_
          refine rk_istore_n 2 (ls' := [(2, _), (0, _), (1, _), (3, _)]) dX11_bestPiece_49 rfl (by decide) rfl ?_
          refine rk_iinc 1 (ls' := [(3, _), (2, _), (0, _), (1, _)]) dX11_bestPiece_50 (by decide) rfl (by decide) rfl ?_
          refine rk_pc (pc' := 53) rfl ?_
          refine rk_goto 5 dX11_bestPiece_53 (by decide) ?_
          refine rk_ord [0, 1, 2, 3] (ls' := [(0, _), (1, _), (2, _), (3, _)]) rfl ?_
          rw [nI_1]
          first | (rw [← sp_bp1 (n := k) ⟨sp_bt qz22, Or.inl hlt⟩]; exact ih (k + 1) (by omega)) | (rw [← sp_bp0 (n := k) (fun z => sp_bf qz22 z.1)]; exact ih (k + 1) (by omega))
        · skip
          refine rk_iload_n 2 dX11_bestPiece_25 rfl rfl ?_
          refine rk_if_lt 44 dX11_bestPiece_26 (by decide) (fun qz26 => ?_) (fun qz26 => ?_)
          · skip
            refine rk_iload_n 3 dX11_bestPiece_44 rfl rfl ?_
            refine rk_goto 49 dX11_bestPiece_45 (by decide) ?_
            refine rk_istore_n 2 (ls' := [(2, _), (0, _), (1, _), (3, _)]) dX11_bestPiece_49 rfl (by decide) rfl ?_
            refine rk_iinc 1 (ls' := [(3, _), (2, _), (0, _), (1, _)]) dX11_bestPiece_50 (by decide) rfl (by decide) rfl ?_
            refine rk_pc (pc' := 53) rfl ?_
            refine rk_goto 5 dX11_bestPiece_53 (by decide) ?_
            refine rk_ord [0, 1, 2, 3] (ls' := [(0, _), (1, _), (2, _), (3, _)]) rfl ?_
            rw [nI_1]
            first | (rw [← sp_bp1 (n := k) ⟨sp_bt qz22, Or.inl hlt⟩]; exact ih (k + 1) (by omega)) | (rw [← sp_bp0 (n := k) (fun z => sp_bf qz22 z.1)]; exact ih (k + 1) (by omega))
          · skip
            exact absurd hlt qz26
    · have hcl : (sp_bp (I 26 (R 12 m 0)) (sp_P (I 26 (R 12 m 0))) (sp_O (I 26 (R 12 m 0)) o) k).toNatClampNeg = q := by rw [hb]; exact nI_clamp (by omega)
      have hnl : ¬ sp_bp (I 26 (R 12 m 0)) (sp_P (I 26 (R 12 m 0))) (sp_O (I 26 (R 12 m 0)) o) k < 0 := by rw [hb]; exact nI_pos (by omega)
      refine rk_iload_n 3 dX11_bestPiece_5 rfl rfl ?_
      refine rk_aload_n 0 dX11_bestPiece_6 rfl rfl ?_
      refine rk_g12_0 rk_kX11_7 dX11_bestPiece_7 ?_
      refine rk_bipush 12 dX11_bestPiece_10 (by decide) ?_
      refine rk_rn26 12 dX11_bestPiece_12 rfl (by first | decide | assumption | omega) ?_
      rw [h12]
      refine rk_icmp_ge 56 dX11_bestPiece_13 (by decide) (fun qz13 => ?_) (fun qz13 => ?_)
      · skip
        exact absurd qz13 hnge
      · skip
        refine rk_aload_n 0 dX11_bestPiece_16 rfl rfl ?_
        refine rk_pc (pc' := 17) rfl ?_
        refine rk_iload_n 3 dX11_bestPiece_17 rfl rfl ?_
        refine rk_iload_n 1 dX11_bestPiece_18 rfl rfl ?_
        refine rk_cVp (cX11_suits_s rfl rfl (by omega) ho hf h0) rk_eX11_suits rfl ⟨rfl, rfl⟩ rk_kX11_112 dX11_bestPiece_19 rfl (by decide) (Nat.le_of_ble_eq_true rfl) ⟨Nat.le_refl _, Nat.le_refl _⟩ ?_
        refine rk_if_eq 48 dX11_bestPiece_22 (by decide) (fun qz22 => ?_) (fun qz22 => ?_)
        · skip
          refine rk_iload_n 2 dX11_bestPiece_48 rfl rfl ?_
          refine rk_istore_n 2 (ls' := [(2, _), (0, _), (1, _), (3, _)]) dX11_bestPiece_49 rfl (by decide) rfl ?_
          refine rk_iinc 1 (ls' := [(3, _), (2, _), (0, _), (1, _)]) dX11_bestPiece_50 (by decide) rfl (by decide) rfl ?_
          refine rk_pc (pc' := 53) rfl ?_
          refine rk_goto 5 dX11_bestPiece_53 (by decide) ?_
          refine rk_ord [0, 1, 2, 3] (ls' := [(0, _), (1, _), (2, _), (3, _)]) rfl ?_
          rw [nI_1]
          first | (rw [← sp_bp1 (n := k) ⟨sp_bt qz22, Or.inr (by rw [hcl]; exact Int32.not_le.mp qz41)⟩]; exact ih (k + 1) (by omega)) | (rw [← sp_bp0 (n := k) (fun z => sp_bf qz22 z.1)]; exact ih (k + 1) (by omega)) | (rw [← sp_bp0 (n := k) (fun z => z.2.elim hnl (fun g => by rw [hcl] at g; exact Int32.not_lt.mpr qz41 g))]; exact ih (k + 1) (by omega))
        · skip
          refine rk_iload_n 2 dX11_bestPiece_25 rfl rfl ?_
          refine rk_if_lt 44 dX11_bestPiece_26 (by decide) (fun qz26 => ?_) (fun qz26 => ?_)
          · skip
            exact absurd qz26 hnl
          · skip
            refine rk_aload_n 0 dX11_bestPiece_29 rfl rfl ?_
            refine rk_iload_n 3 dX11_bestPiece_30 rfl rfl ?_
            refine rk_iconst 3 dX11_bestPiece_31 (by decide) ?_
            refine rk_cVp (cX11_ofPiece_s k 3 rfl rfl (by omega) (by decide)) rk_eX11_ofPiece rfl ⟨rfl, rfl⟩ rk_kX11_91 dX11_bestPiece_32 rfl (by decide) (Nat.le_of_ble_eq_true rfl) ⟨Nat.le_refl _, Nat.le_refl _⟩ ?_
            refine rk_pc (pc' := 35) rfl ?_
            refine rk_aload_n 0 dX11_bestPiece_35 rfl rfl ?_
            refine rk_iload_n 2 dX11_bestPiece_36 rfl rfl ?_
            refine rk_iconst 3 dX11_bestPiece_37 (by decide) ?_
            refine rk_cVp (cX11_ofPiece_s q 3 hb rfl (by omega) (by decide)) rk_eX11_ofPiece rfl ⟨rfl, rfl⟩ rk_kX11_91 dX11_bestPiece_38 rfl (by decide) (Nat.le_of_ble_eq_true rfl) ⟨Nat.le_refl _, Nat.le_refl _⟩ ?_
            refine rk_icmp_ge 48 dX11_bestPiece_41 (by decide) (fun qz41 => ?_) (fun qz41 => ?_)
            · skip
              refine rk_iload_n 2 dX11_bestPiece_48 rfl rfl ?_
              refine rk_istore_n 2 (ls' := [(2, _), (0, _), (1, _), (3, _)]) dX11_bestPiece_49 rfl (by decide) rfl ?_
              refine rk_pc (pc' := 50) rfl ?_
              refine rk_iinc 1 (ls' := [(3, _), (2, _), (0, _), (1, _)]) dX11_bestPiece_50 (by decide) rfl (by decide) rfl ?_
              refine rk_goto 5 dX11_bestPiece_53 (by decide) ?_
              refine rk_ord [0, 1, 2, 3] (ls' := [(0, _), (1, _), (2, _), (3, _)]) rfl ?_
              rw [nI_1]
              first | (rw [← sp_bp1 (n := k) ⟨sp_bt qz22, Or.inr (by rw [hcl]; exact Int32.not_le.mp qz41)⟩]; exact ih (k + 1) (by omega)) | (rw [← sp_bp0 (n := k) (fun z => sp_bf qz22 z.1)]; exact ih (k + 1) (by omega)) | (rw [← sp_bp0 (n := k) (fun z => z.2.elim hnl (fun g => by rw [hcl] at g; exact Int32.not_lt.mpr qz41 g))]; exact ih (k + 1) (by omega))
            · skip
              refine rk_iload_n 3 dX11_bestPiece_44 rfl rfl ?_
              refine rk_goto 49 dX11_bestPiece_45 (by decide) ?_
              refine rk_istore_n 2 (ls' := [(2, _), (0, _), (1, _), (3, _)]) dX11_bestPiece_49 rfl (by decide) rfl ?_
              refine rk_iinc 1 (ls' := [(3, _), (2, _), (0, _), (1, _)]) dX11_bestPiece_50 (by decide) rfl (by decide) rfl ?_
              refine rk_pc (pc' := 53) rfl ?_
              refine rk_goto 5 dX11_bestPiece_53 (by decide) ?_
              refine rk_ord [0, 1, 2, 3] (ls' := [(0, _), (1, _), (2, _), (3, _)]) rfl ?_
              rw [nI_1]
              first | (rw [← sp_bp1 (n := k) ⟨sp_bt qz22, Or.inr (by rw [hcl]; exact Int32.not_le.mp qz41)⟩]; exact ih (k + 1) (by omega)) | (rw [← sp_bp0 (n := k) (fun z => sp_bf qz22 z.1)]; exact ih (k + 1) (by omega)) | (rw [← sp_bp0 (n := k) (fun z => z.2.elim hnl (fun g => by rw [hcl] at g; exact Int32.not_lt.mpr qz41 g))]; exact ih (k + 1) (by omega))
theorem cX11_bestPiece_s {m o c : Nat} {x : Int32} (hx : x = nI o) (ho : o < 16) (hc : c ≤ 24) (h12 : I 26 (R 12 m 0) 12 = nI c) (hfi : sp_fi (I 26 (R 12 m 0)) c) : rk_P w l rk_mX11_bestPiece 4 [rk_a 12 m, rk_i x] Sh I R (sp_bp (I 26 (R 12 m 0)) (sp_P (I 26 (R 12 m 0))) (sp_O (I 26 (R 12 m 0)) o) c) := by
  subst hx
  refine rk_bP (ls := [(0, _), (1, _)]) (by decide) rfl (Nat.le_of_ble_eq_true rfl) ?_
  refine rk_bipush (-6) dX11_bestPiece_0 (by decide) ?_
  refine rk_istore_n 2 (ls' := [(2, _), (0, _), (1, _)]) dX11_bestPiece_2 rfl (by decide) rfl ?_
  refine rk_iconst 0 dX11_bestPiece_3 (by decide) ?_
  refine rk_istore_n 3 (ls' := [(3, _), (2, _), (0, _), (1, _)]) dX11_bestPiece_4 rfl (by decide) rfl ?_
  refine rk_ord [0, 1, 2, 3] (ls' := [(0, _), (1, _), (2, _), (3, _)]) rfl ?_
  exact cX11_best_loop ho hc h12 hfi c 0 (by omega)
theorem cX11_suiting_loop {m o c : Nat} (ho : o < 16) (hc : c ≤ 24) (h12 : I 26 (R 12 m 0) 12 = nI c) (hfi : sp_fi (I 26 (R 12 m 0)) c) : ∀ n k : Nat, k + n = c → rk_Wp w l rk_mX11_suiting 4 0 0 (rk_GP w Sh I R (sp_ns (I 26 (R 12 m 0)) (sp_P (I 26 (R 12 m 0))) (sp_O (I 26 (R 12 m 0)) o) c)) 4 [(0, rk_a 12 m), (1, rk_i (nI o)), (2, rk_i (sp_ns (I 26 (R 12 m 0)) (sp_P (I 26 (R 12 m 0))) (sp_O (I 26 (R 12 m 0)) o) k)), (3, rk_i (nI k))] [] (Sh, 0, 0) I R := by
  intro n
  induction n with
  | zero =>
    intro k hk
    obtain rfl : k = c := by omega
    refine rk_iload_n 3 dX11_suiting_4 rfl rfl ?_
    refine rk_aload_n 0 dX11_suiting_5 rfl rfl ?_
    refine rk_g12_0 rk_kX11_7 dX11_suiting_6 ?_
    refine rk_bipush 12 dX11_suiting_9 (by decide) ?_
    refine rk_rn26 12 dX11_suiting_11 rfl (by first | decide | assumption | omega) ?_
    rw [h12]
    refine rk_icmp_ge 38 dX11_suiting_12 (by decide) (fun qz12 => ?_) (fun qz12 => ?_)
    · skip
      refine rk_iload_n 2 dX11_suiting_38 rfl rfl ?_
      refine rk_pc (pc' := 39) rfl ?_
      refine rk_iretP dX11_suiting_39 rfl rfl ?_
      rfl
    · skip
      exact absurd (nI_le (Nat.le_refl k) (by omega)) qz12
  | succ n ih =>
    intro k hk
    obtain ⟨f, hf, h0⟩ := hfi k (by omega)
    have hnge : ¬ nI c ≤ nI k := nI_ge (by omega) (by omega)
    have hsc : ∀ v : Int32, v = sp_b (sp_su (I 26 (R 12 m 0)) (sp_P (I 26 (R 12 m 0)) k) (sp_O (I 26 (R 12 m 0)) o)) → sp_ns (I 26 (R 12 m 0)) (sp_P (I 26 (R 12 m 0))) (sp_O (I 26 (R 12 m 0)) o) k + v = sp_ns (I 26 (R 12 m 0)) (sp_P (I 26 (R 12 m 0))) (sp_O (I 26 (R 12 m 0)) o) (k + 1) := fun v hv => by rw [hv]; rfl
    refine rk_iload_n 3 dX11_suiting_4 rfl rfl ?_
    refine rk_aload_n 0 dX11_suiting_5 rfl rfl ?_
    refine rk_g12_0 rk_kX11_7 dX11_suiting_6 ?_
    refine rk_bipush 12 dX11_suiting_9 (by decide) ?_
    refine rk_rn26 12 dX11_suiting_11 rfl (by first | decide | assumption | omega) ?_
    rw [h12]
    refine rk_icmp_ge 38 dX11_suiting_12 (by decide) (fun qz12 => ?_) (fun qz12 => ?_)
    · skip
      exact absurd qz12 hnge
    · skip
      refine rk_iload_n 2 dX11_suiting_15 rfl rfl ?_
      refine rk_pc (pc' := 16) rfl ?_
      refine rk_aload_n 0 dX11_suiting_16 rfl rfl ?_
      refine rk_iload_n 3 dX11_suiting_17 rfl rfl ?_
      refine rk_iload_n 1 dX11_suiting_18 rfl rfl ?_
      refine rk_cVp (cX11_suits_s rfl rfl (by omega) ho hf h0) rk_eX11_suits rfl ⟨rfl, rfl⟩ rk_kX11_112 dX11_suiting_19 rfl (by decide) (Nat.le_of_ble_eq_true rfl) ⟨Nat.le_refl _, Nat.le_refl _⟩ ?_
      refine rk_if_eq 29 dX11_suiting_22 (by decide) (fun qz22 => ?_) (fun qz22 => ?_)
      · skip
        refine rk_iconst 0 dX11_suiting_29 (by decide) ?_
        refine rk_iadd dX11_suiting_30 ?_
        refine rk_pc (pc' := 31) rfl ?_
        refine rk_istore_n 2 (ls' := [(2, _), (0, _), (1, _), (3, _)]) dX11_suiting_31 rfl (by decide) rfl ?_
        refine rk_iinc 1 (ls' := [(3, _), (2, _), (0, _), (1, _)]) dX11_suiting_32 (by decide) rfl (by decide) rfl ?_
        refine rk_goto 4 dX11_suiting_35 (by decide) ?_
        refine rk_ord [0, 1, 2, 3] (ls' := [(0, _), (1, _), (2, _), (3, _)]) rfl ?_
        rw [nI_1]
        first | (rw [hsc _ (sp_b1 (sp_bt qz22))]; exact ih (k + 1) (by omega)) | (rw [hsc _ (sp_b0 (sp_bf qz22))]; exact ih (k + 1) (by omega))
      · skip
        refine rk_iconst 1 dX11_suiting_25 (by decide) ?_
        refine rk_goto 30 dX11_suiting_26 (by decide) ?_
        refine rk_iadd dX11_suiting_30 ?_
        refine rk_pc (pc' := 31) rfl ?_
        refine rk_istore_n 2 (ls' := [(2, _), (0, _), (1, _), (3, _)]) dX11_suiting_31 rfl (by decide) rfl ?_
        refine rk_iinc 1 (ls' := [(3, _), (2, _), (0, _), (1, _)]) dX11_suiting_32 (by decide) rfl (by decide) rfl ?_
        refine rk_goto 4 dX11_suiting_35 (by decide) ?_
        refine rk_ord [0, 1, 2, 3] (ls' := [(0, _), (1, _), (2, _), (3, _)]) rfl ?_
        rw [nI_1]
        first | (rw [hsc _ (sp_b1 (sp_bt qz22))]; exact ih (k + 1) (by omega)) | (rw [hsc _ (sp_b0 (sp_bf qz22))]; exact ih (k + 1) (by omega))
theorem cX11_suiting_s {m o c : Nat} {x : Int32} (hx : x = nI o) (ho : o < 16) (hc : c ≤ 24) (h12 : I 26 (R 12 m 0) 12 = nI c) (hfi : sp_fi (I 26 (R 12 m 0)) c) : rk_P w l rk_mX11_suiting 4 [rk_a 12 m, rk_i x] Sh I R (sp_ns (I 26 (R 12 m 0)) (sp_P (I 26 (R 12 m 0))) (sp_O (I 26 (R 12 m 0)) o) c) := by
  subst hx
  refine rk_bP (ls := [(0, _), (1, _)]) (by decide) rfl (Nat.le_of_ble_eq_true rfl) ?_
  refine rk_iconst 0 dX11_suiting_0 (by decide) ?_
  refine rk_istore_n 2 (ls' := [(2, _), (0, _), (1, _)]) dX11_suiting_1 rfl (by decide) rfl ?_
  refine rk_iconst 0 dX11_suiting_2 (by decide) ?_
  refine rk_istore_n 3 (ls' := [(3, _), (2, _), (0, _), (1, _)]) dX11_suiting_3 rfl (by decide) rfl ?_
  refine rk_ord [0, 1, 2, 3] (ls' := [(0, _), (1, _), (2, _), (3, _)]) rfl ?_
  exact cX11_suiting_loop ho hc h12 hfi c 0 (by omega)
end MS

