section CG
theorem sp_su_c {N P O O' : Nat → Int32} (h0 : O' 0 = O 0) (h1 : O' 1 = O 1) (h2 : O' 2 = O 2) (h4 : O' 4 = O 4) : sp_su N P O' = sp_su N P O := by
  simp only [sp_su, h0, h1, h2, h4]
theorem sp_bp_c {N O O' : Nat → Int32} {P : Nat → Nat → Int32} (h0 : O' 0 = O 0) (h1 : O' 1 = O 1) (h2 : O' 2 = O 2) (h4 : O' 4 = O 4) : ∀ n, sp_bp N P O' n = sp_bp N P O n := by
  intro n
  induction n with
  | zero => rfl
  | succ n ih => simp only [sp_bp]; rw [ih, sp_su_c h0 h1 h2 h4]
theorem sp_ns_c {N O O' : Nat → Int32} {P : Nat → Nat → Int32} (h0 : O' 0 = O 0) (h1 : O' 1 = O 1) (h2 : O' 2 = O 2) (h4 : O' 4 = O 4) : ∀ n, sp_ns N P O' n = sp_ns N P O n := by
  intro n
  induction n with
  | zero => rfl
  | succ n ih => simp only [sp_ns, ih, sp_su_c h0 h1 h2 h4]
/-- the rules' cells: all of one region -/
def cl_rs (rg : Nat → Nat) (R : rk_Rm) (a r : Nat) : Prop := rg a = r ∧ rg (R 7 a 0) = r ∧ rg (R 7 a 1) = r ∧ rg (R 7 a 2) = r
theorem cl_rs.fr {rg : Nat → Nat} {S : Nat → Prop} {I I' : rk_Mm} {R R' : rk_Rm} {a r : Nat} (h : cl_rs rg R a r) (g : cl_fr rg S I R I' R') : cl_rs rg R' a r := by
  unfold cl_rs
  rw [g.2.2 7 (by decide) (by decide) (by decide)]
  exact h
theorem cl_ru.fr {rg : Nat → Nat} {S : Nat → Prop} {I I' : rk_Mm} {R R' : rk_Rm} {a r : Nat} {N : Nat → Int32} (h : cl_ru I R a N) (hs : cl_rs rg R a r) (g : cl_fr rg S I R I' R') (hr : ¬ S r) : cl_ru I' R' a N := by
  unfold cl_ru
  rw [g.2.2 7 (by decide) (by decide) (by decide), g.1 17 _ (by rw [hs.2.1]; exact hr), g.1 18 _ (by rw [hs.2.2.1]; exact hr), g.1 19 _ (by rw [hs.2.2.2]; exact hr)]
  exact h
theorem cl_ru.c {I : rk_Mm} {R : rk_Rm} {a : Nat} {N M : Nat → Int32} (h : cl_ru I R a N) (e : ∀ j, j < 10 ∨ (∃ f, f < 3 ∧ (j = 20 + 3 * f ∨ j = 20 + 3 * f + 1)) → M j = N j) : cl_ru I R a M := ⟨fun j hj => (h.1 j hj).trans (e j (Or.inl hj)).symm, fun f hf => (h.2.1 f hf).trans (e _ (Or.inr ⟨f, hf, Or.inl rfl⟩)).symm, fun f hf => (h.2.2 f hf).trans (e _ (Or.inr ⟨f, hf, Or.inr rfl⟩)).symm⟩
end CG
section CH
variable {w : rk_W} {l : Launch} {Sh : rk_Sh} {rg : Nat → Nat} {I : rk_Mm} {R : rk_Rm} {q r c a o : Nat} {N : Nat → Int32}
theorem cX7_short_l (hsp : cl_sp I R q N) (hc : N 12 = nI c) (hc2 : c ≤ 24) (hru : cl_ru I R a N) (hfi : sp_fi N c) (h4 : I 3 o 4 = 0 ∨ I 3 o 4 = 1) : ∀ n k : Nat, k + n = c → rk_Wp w l rk_mX7_shortestFor 4 0 0 (rk_GP w Sh I R (sp_bp N (sp_P N) (I 3 o) c)) 6 [(0, rk_a 8 q), (1, rk_a 3 o), (2, rk_a 7 a), (3, rk_i (sp_bp N (sp_P N) (I 3 o) k)), (4, rk_i (nI k))] [] (Sh, 0, 0) I R := by
  have hcc : sp_c N 12 = c := sp_cN hc (by omega)
  have h8 : I 8 q 1 = nI c := hsp.1.trans hc
  intro n
  induction n with
  | zero =>
    intro k hk
    obtain rfl : k = c := by omega
    refine rk_iload dX7_shortestFor_6 rfl ?_
    refine rk_aload_n 0 dX7_shortestFor_8 rfl rfl ?_
    refine rk_g8_1 rk_kX7_23 dX7_shortestFor_9 ?_
    rw [h8]
    refine rk_icmp_ge 65 dX7_shortestFor_12 (by decide) (fun qz12 => ?_) (fun qz12 => ?_)
    · skip
      refine rk_iload_n 3 dX7_shortestFor_65 rfl rfl ?_
      refine rk_iretP dX7_shortestFor_66 rfl rfl ?_
      rfl
    · skip
      exact absurd (nI_le (Nat.le_refl k) (by omega)) qz12
  | succ n ih =>
    intro k hk
    obtain ⟨f, hf, h0⟩ := hfi k (by omega)
    have hnge : ¬ nI c ≤ nI k := nI_ge (by omega) (by omega)
    have hPk := hsp.2 k (by omega)
    rcases sp_bp_in N (sp_P N) (I 3 o) k (by omega) with hb | ⟨p, hp, hb, -⟩
    · have hlt : sp_bp N (sp_P N) (I 3 o) k < 0 := by rw [hb]; exact rk_n6
      refine rk_iload dX7_shortestFor_6 rfl ?_
      refine rk_aload_n 0 dX7_shortestFor_8 rfl rfl ?_
      refine rk_g8_1 rk_kX7_23 dX7_shortestFor_9 ?_
      rw [h8]
      refine rk_icmp_ge 65 dX7_shortestFor_12 (by decide) (fun qz12 => ?_) (fun qz12 => ?_)
      · skip
        exact absurd qz12 hnge
      · skip
        refine rk_aload_n 2 dX7_shortestFor_15 rfl rfl ?_
        refine rk_aload_n 0 dX7_shortestFor_16 rfl rfl ?_
        refine rk_g8_0 rk_kX7_11 dX7_shortestFor_17 ?_
        refine rk_pc (pc' := 20) rfl ?_
        refine rk_iload dX7_shortestFor_20 rfl ?_
        refine rk_rn20 (k) dX7_shortestFor_22 (by first | rfl | decide | assumption | (simp only [rk_lit, nI_add, pk_mul, nI_1]; done) | (simp only [rk_lit, nI_add, pk_mul, nI_1]; congr 1; omega)) (by first | decide | assumption | omega) ?_
        refine rk_aload_n 1 dX7_shortestFor_23 rfl rfl ?_
        refine rk_cVp (cX6_suits_s (P := sp_P N k) (O := I 3 o) hru hPk hf h0 (fun _ _ => rfl) h4) rk_eX6_suits rfl ⟨rfl, rfl⟩ rk_kX7_109 dX7_shortestFor_24 rfl (by decide) (Nat.le_of_ble_eq_true rfl) ⟨Nat.le_refl _, Nat.le_refl _⟩ ?_
        refine rk_if_eq 59 dX7_shortestFor_27 (by decide) (fun qz27 => ?_) (fun qz27 => ?_)
        · skip
          refine rk_iinc 1 (ls' := [(4, _), (0, _), (1, _), (2, _), (3, _)]) dX7_shortestFor_59 (by decide) rfl (by decide) rfl ?_
          refine rk_goto 6 dX7_shortestFor_62 (by decide) ?_
          refine rk_pc (pc' := 6) rfl ?_
          refine rk_ord [0, 1, 2, 3, 4] (ls' := [(0, _), (1, _), (2, _), (3, _), (4, _)]) rfl ?_
          rw [nI_1]
          first | (rw [← sp_bp1 (n := k) ⟨sp_bt qz27, Or.inl hlt⟩]; exact ih (k + 1) (by omega)) | (rw [← sp_bp0 (n := k) (fun z => sp_bf qz27 z.1)]; exact ih (k + 1) (by omega))
        · skip
          refine rk_iload_n 3 dX7_shortestFor_30 rfl rfl ?_
          refine rk_if_lt 56 dX7_shortestFor_31 (by decide) (fun qz31 => ?_) (fun qz31 => ?_)
          · skip
            refine rk_iload dX7_shortestFor_56 rfl ?_
            refine rk_istore_n 3 (ls' := [(3, _), (0, _), (1, _), (2, _), (4, _)]) dX7_shortestFor_58 rfl (by decide) rfl ?_
            refine rk_iinc 1 (ls' := [(4, _), (3, _), (0, _), (1, _), (2, _)]) dX7_shortestFor_59 (by decide) rfl (by decide) rfl ?_
            refine rk_goto 6 dX7_shortestFor_62 (by decide) ?_
            refine rk_ord [0, 1, 2, 3, 4] (ls' := [(0, _), (1, _), (2, _), (3, _), (4, _)]) rfl ?_
            rw [nI_1]
            first | (rw [← sp_bp1 (n := k) ⟨sp_bt qz27, Or.inl hlt⟩]; exact ih (k + 1) (by omega)) | (rw [← sp_bp0 (n := k) (fun z => sp_bf qz27 z.1)]; exact ih (k + 1) (by omega))
          · skip
            exact absurd hlt qz31
    · have hcl : (sp_bp N (sp_P N) (I 3 o) k).toNatClampNeg = p := by rw [hb]; exact nI_clamp (by omega)
      have hnl : ¬ sp_bp N (sp_P N) (I 3 o) k < 0 := by rw [hb]; exact nI_pos (by omega)
      have hPp := hsp.2 p (by omega)
      refine rk_iload dX7_shortestFor_6 rfl ?_
      refine rk_aload_n 0 dX7_shortestFor_8 rfl rfl ?_
      refine rk_g8_1 rk_kX7_23 dX7_shortestFor_9 ?_
      rw [h8]
      refine rk_icmp_ge 65 dX7_shortestFor_12 (by decide) (fun qz12 => ?_) (fun qz12 => ?_)
      · skip
        exact absurd qz12 hnge
      · skip
        refine rk_aload_n 2 dX7_shortestFor_15 rfl rfl ?_
        refine rk_aload_n 0 dX7_shortestFor_16 rfl rfl ?_
        refine rk_g8_0 rk_kX7_11 dX7_shortestFor_17 ?_
        refine rk_pc (pc' := 20) rfl ?_
        refine rk_iload dX7_shortestFor_20 rfl ?_
        refine rk_rn20 (k) dX7_shortestFor_22 (by first | rfl | decide | assumption | (simp only [rk_lit, nI_add, pk_mul, nI_1]; done) | (simp only [rk_lit, nI_add, pk_mul, nI_1]; congr 1; omega)) (by first | decide | assumption | omega) ?_
        refine rk_aload_n 1 dX7_shortestFor_23 rfl rfl ?_
        refine rk_cVp (cX6_suits_s (P := sp_P N k) (O := I 3 o) hru hPk hf h0 (fun _ _ => rfl) h4) rk_eX6_suits rfl ⟨rfl, rfl⟩ rk_kX7_109 dX7_shortestFor_24 rfl (by decide) (Nat.le_of_ble_eq_true rfl) ⟨Nat.le_refl _, Nat.le_refl _⟩ ?_
        refine rk_if_eq 59 dX7_shortestFor_27 (by decide) (fun qz27 => ?_) (fun qz27 => ?_)
        · skip
          refine rk_iinc 1 (ls' := [(4, _), (0, _), (1, _), (2, _), (3, _)]) dX7_shortestFor_59 (by decide) rfl (by decide) rfl ?_
          refine rk_goto 6 dX7_shortestFor_62 (by decide) ?_
          refine rk_pc (pc' := 6) rfl ?_
          refine rk_ord [0, 1, 2, 3, 4] (ls' := [(0, _), (1, _), (2, _), (3, _), (4, _)]) rfl ?_
          rw [nI_1]
          first | (rw [← sp_bp1 (n := k) ⟨sp_bt qz27, Or.inr (by rw [hcl]; exact Int32.not_le.mp qz53)⟩]; exact ih (k + 1) (by omega)) | (rw [← sp_bp0 (n := k) (fun z => sp_bf qz27 z.1)]; exact ih (k + 1) (by omega)) | (rw [← sp_bp0 (n := k) (fun z => z.2.elim hnl (fun g => by rw [hcl] at g; exact Int32.not_lt.mpr qz53 g))]; exact ih (k + 1) (by omega))
        · skip
          refine rk_iload_n 3 dX7_shortestFor_30 rfl rfl ?_
          refine rk_if_lt 56 dX7_shortestFor_31 (by decide) (fun qz31 => ?_) (fun qz31 => ?_)
          · skip
            exact absurd qz31 hnl
          · skip
            refine rk_aload_n 0 dX7_shortestFor_34 rfl rfl ?_
            refine rk_g8_0 rk_kX7_11 dX7_shortestFor_35 ?_
            refine rk_iload dX7_shortestFor_38 rfl ?_
            refine rk_rn20 (k) dX7_shortestFor_40 (by first | rfl | decide | assumption | (simp only [rk_lit, nI_add, pk_mul, nI_1]; done) | (simp only [rk_lit, nI_add, pk_mul, nI_1]; congr 1; omega)) (by first | decide | assumption | omega) ?_
            refine rk_g5_3 rk_kX7_50 dX7_shortestFor_41 ?_
            rw [hPk 3 (by decide)]
            refine rk_pc (pc' := 44) rfl ?_
            refine rk_aload_n 0 dX7_shortestFor_44 rfl rfl ?_
            refine rk_g8_0 rk_kX7_11 dX7_shortestFor_45 ?_
            refine rk_iload_n 3 dX7_shortestFor_48 rfl rfl ?_
            refine rk_rn20 (p) dX7_shortestFor_49 (by first | rfl | decide | assumption | (simp only [rk_lit, nI_add, pk_mul, nI_1]; done) | (simp only [rk_lit, nI_add, pk_mul, nI_1]; congr 1; omega)) (by first | decide | assumption | omega) ?_
            refine rk_g5_3 rk_kX7_50 dX7_shortestFor_50 ?_
            rw [hPp 3 (by decide)]
            refine rk_icmp_ge 59 dX7_shortestFor_53 (by decide) (fun qz53 => ?_) (fun qz53 => ?_)
            · skip
              refine rk_iinc 1 (ls' := [(4, _), (0, _), (1, _), (2, _), (3, _)]) dX7_shortestFor_59 (by decide) rfl (by decide) rfl ?_
              refine rk_pc (pc' := 62) rfl ?_
              refine rk_goto 6 dX7_shortestFor_62 (by decide) ?_
              refine rk_ord [0, 1, 2, 3, 4] (ls' := [(0, _), (1, _), (2, _), (3, _), (4, _)]) rfl ?_
              rw [nI_1]
              first | (rw [← sp_bp1 (n := k) ⟨sp_bt qz27, Or.inr (by rw [hcl]; exact Int32.not_le.mp qz53)⟩]; exact ih (k + 1) (by omega)) | (rw [← sp_bp0 (n := k) (fun z => sp_bf qz27 z.1)]; exact ih (k + 1) (by omega)) | (rw [← sp_bp0 (n := k) (fun z => z.2.elim hnl (fun g => by rw [hcl] at g; exact Int32.not_lt.mpr qz53 g))]; exact ih (k + 1) (by omega))
            · skip
              refine rk_iload dX7_shortestFor_56 rfl ?_
              refine rk_istore_n 3 (ls' := [(3, _), (0, _), (1, _), (2, _), (4, _)]) dX7_shortestFor_58 rfl (by decide) rfl ?_
              refine rk_iinc 1 (ls' := [(4, _), (3, _), (0, _), (1, _), (2, _)]) dX7_shortestFor_59 (by decide) rfl (by decide) rfl ?_
              refine rk_goto 6 dX7_shortestFor_62 (by decide) ?_
              refine rk_ord [0, 1, 2, 3, 4] (ls' := [(0, _), (1, _), (2, _), (3, _), (4, _)]) rfl ?_
              rw [nI_1]
              first | (rw [← sp_bp1 (n := k) ⟨sp_bt qz27, Or.inr (by rw [hcl]; exact Int32.not_le.mp qz53)⟩]; exact ih (k + 1) (by omega)) | (rw [← sp_bp0 (n := k) (fun z => sp_bf qz27 z.1)]; exact ih (k + 1) (by omega)) | (rw [← sp_bp0 (n := k) (fun z => z.2.elim hnl (fun g => by rw [hcl] at g; exact Int32.not_lt.mpr qz53 g))]; exact ih (k + 1) (by omega))
theorem cX7_shortestFor_s (hsp : cl_sp I R q N) (hc : N 12 = nI c) (hc2 : c ≤ 24) (hru : cl_ru I R a N) (hfi : sp_fi N c) (h4 : I 3 o 4 = 0 ∨ I 3 o 4 = 1) : rk_P w l rk_mX7_shortestFor 4 [rk_a 8 q, rk_a 3 o, rk_a 7 a] Sh I R (sp_bp N (sp_P N) (I 3 o) c) := by
  refine rk_bP (ls := [(0, _), (1, _), (2, _)]) (by decide) rfl (Nat.le_of_ble_eq_true rfl) ?_
  refine rk_bipush (-6) dX7_shortestFor_0 (by decide) ?_
  refine rk_istore_n 3 (ls' := [(3, _), (0, _), (1, _), (2, _)]) dX7_shortestFor_2 rfl (by decide) rfl ?_
  refine rk_iconst 0 dX7_shortestFor_3 (by decide) ?_
  refine rk_istore (ls' := [(4, _), (3, _), (0, _), (1, _), (2, _)]) dX7_shortestFor_4 (by decide) rfl ?_
  refine rk_ord [0, 1, 2, 3, 4] (ls' := [(0, _), (1, _), (2, _), (3, _), (4, _)]) rfl ?_
  exact cX7_short_l hsp hc hc2 hru hfi h4 c 0 (by omega)
theorem cX7_suiting_l (hsp : cl_sp I R q N) (hc : N 12 = nI c) (hc2 : c ≤ 24) (hru : cl_ru I R a N) (hfi : sp_fi N c) (h4 : I 3 o 4 = 0 ∨ I 3 o 4 = 1) : ∀ n k : Nat, k + n = c → rk_Wp w l rk_mX7_suitingCount 4 0 0 (rk_GP w Sh I R (sp_ns N (sp_P N) (I 3 o) c)) 5 [(0, rk_a 8 q), (1, rk_a 3 o), (2, rk_a 7 a), (3, rk_i (sp_ns N (sp_P N) (I 3 o) k)), (4, rk_i (nI k))] [] (Sh, 0, 0) I R := by
  have hcc : sp_c N 12 = c := sp_cN hc (by omega)
  have h8 : I 8 q 1 = nI c := hsp.1.trans hc
  intro n
  induction n with
  | zero =>
    intro k hk
    obtain rfl : k = c := by omega
    refine rk_iload dX7_suitingCount_5 rfl ?_
    refine rk_aload_n 0 dX7_suitingCount_7 rfl rfl ?_
    refine rk_g8_1 rk_kX7_23 dX7_suitingCount_8 ?_
    rw [h8]
    refine rk_icmp_ge 38 dX7_suitingCount_11 (by decide) (fun qz11 => ?_) (fun qz11 => ?_)
    · skip
      refine rk_iload_n 3 dX7_suitingCount_38 rfl rfl ?_
      refine rk_iretP dX7_suitingCount_39 rfl rfl ?_
      rfl
    · skip
      exact absurd (nI_le (Nat.le_refl k) (by omega)) qz11
  | succ n ih =>
    intro k hk
    obtain ⟨f, hf, h0⟩ := hfi k (by omega)
    have hnge : ¬ nI c ≤ nI k := nI_ge (by omega) (by omega)
    have hPk := hsp.2 k (by omega)
    have hsc : ∀ v : Int32, v = sp_b (sp_su N (sp_P N k) (I 3 o)) → sp_ns N (sp_P N) (I 3 o) k + v = sp_ns N (sp_P N) (I 3 o) (k + 1) := fun v hv => by rw [hv]; rfl
    have hs0 : ∀ v : Int32, v = sp_b (sp_su N (sp_P N k) (I 3 o)) → v = 0 → sp_ns N (sp_P N) (I 3 o) k = sp_ns N (sp_P N) (I 3 o) (k + 1) := fun v hv h0 => by rw [← hsc v hv, h0, Int32.add_zero]
    refine rk_iload dX7_suitingCount_5 rfl ?_
    refine rk_aload_n 0 dX7_suitingCount_7 rfl rfl ?_
    refine rk_g8_1 rk_kX7_23 dX7_suitingCount_8 ?_
    rw [h8]
    refine rk_icmp_ge 38 dX7_suitingCount_11 (by decide) (fun qz11 => ?_) (fun qz11 => ?_)
    · skip
      exact absurd qz11 hnge
    · skip
      refine rk_aload_n 2 dX7_suitingCount_14 rfl rfl ?_
      refine rk_aload_n 0 dX7_suitingCount_15 rfl rfl ?_
      refine rk_g8_0 rk_kX7_11 dX7_suitingCount_16 ?_
      refine rk_pc (pc' := 19) rfl ?_
      refine rk_iload dX7_suitingCount_19 rfl ?_
      refine rk_rn20 (k) dX7_suitingCount_21 (by first | rfl | decide | assumption | (simp only [rk_lit, nI_add, pk_mul, nI_1]; done) | (simp only [rk_lit, nI_add, pk_mul, nI_1]; congr 1; omega)) (by first | decide | assumption | omega) ?_
      refine rk_aload_n 1 dX7_suitingCount_22 rfl rfl ?_
      refine rk_cVp (cX6_suits_s (P := sp_P N k) (O := I 3 o) hru hPk hf h0 (fun _ _ => rfl) h4) rk_eX6_suits rfl ⟨rfl, rfl⟩ rk_kX7_109 dX7_suitingCount_23 rfl (by decide) (Nat.le_of_ble_eq_true rfl) ⟨Nat.le_refl _, Nat.le_refl _⟩ ?_
      refine rk_if_eq 32 dX7_suitingCount_26 (by decide) (fun qz26 => ?_) (fun qz26 => ?_)
      · skip
        refine rk_iinc 1 (ls' := [(4, _), (0, _), (1, _), (2, _), (3, _)]) dX7_suitingCount_32 (by decide) rfl (by decide) rfl ?_
        refine rk_goto 5 dX7_suitingCount_35 (by decide) ?_
        refine rk_pc (pc' := 5) rfl ?_
        refine rk_ord [0, 1, 2, 3, 4] (ls' := [(0, _), (1, _), (2, _), (3, _), (4, _)]) rfl ?_
        rw [nI_1]
        first | (rw [hsc _ (sp_b1 (sp_bt qz26))]; exact ih (k + 1) (by omega)) | (rw [hs0 _ (sp_b0 (sp_bf qz26)) rfl]; exact ih (k + 1) (by omega))
      · skip
        refine rk_iinc 1 (ls' := [(3, _), (0, _), (1, _), (2, _), (4, _)]) dX7_suitingCount_29 (by decide) rfl (by decide) rfl ?_
        refine rk_iinc 1 (ls' := [(4, _), (3, _), (0, _), (1, _), (2, _)]) dX7_suitingCount_32 (by decide) rfl (by decide) rfl ?_
        refine rk_goto 5 dX7_suitingCount_35 (by decide) ?_
        refine rk_ord [0, 1, 2, 3, 4] (ls' := [(0, _), (1, _), (2, _), (3, _), (4, _)]) rfl ?_
        rw [nI_1]
        first | (rw [hsc _ (sp_b1 (sp_bt qz26))]; exact ih (k + 1) (by omega)) | (rw [hs0 _ (sp_b0 (sp_bf qz26)) rfl]; exact ih (k + 1) (by omega))
theorem cX7_suitingCount_s (hsp : cl_sp I R q N) (hc : N 12 = nI c) (hc2 : c ≤ 24) (hru : cl_ru I R a N) (hfi : sp_fi N c) (h4 : I 3 o 4 = 0 ∨ I 3 o 4 = 1) : rk_P w l rk_mX7_suitingCount 4 [rk_a 8 q, rk_a 3 o, rk_a 7 a] Sh I R (sp_ns N (sp_P N) (I 3 o) c) := by
  refine rk_bP (ls := [(0, _), (1, _), (2, _)]) (by decide) rfl (Nat.le_of_ble_eq_true rfl) ?_
  refine rk_iconst 0 dX7_suitingCount_0 (by decide) ?_
  refine rk_istore_n 3 (ls' := [(3, _), (0, _), (1, _), (2, _)]) dX7_suitingCount_1 rfl (by decide) rfl ?_
  refine rk_iconst 0 dX7_suitingCount_2 (by decide) ?_
  refine rk_istore (ls' := [(4, _), (3, _), (0, _), (1, _), (2, _)]) dX7_suitingCount_3 (by decide) rfl ?_
  refine rk_ord [0, 1, 2, 3, 4] (ls' := [(0, _), (1, _), (2, _), (3, _), (4, _)]) rfl ?_
  exact cX7_suiting_l hsp hc hc2 hru hfi h4 c 0 (by omega)
end CH

