section CP
variable {w : rk_W} {l : Launch} {Sh : rk_Sh} {I : rk_Mm} {R : rk_Rm} {N : Nat → Int32}
def sp_lt (N : Nat → Int32) (days oc : Nat) : Int32 := sp_sI (fun o => N (220 + 7 * o + 3) * nI (sp_late (sp_c N 10) days (sp_c N (220 + 7 * o + 5)))) oc
theorem sp_lt_f {days : Nat} : ∀ oc, N 9 * sp_lt N days oc = sp_fines N days oc := by
  intro oc
  induction oc with
  | zero => show N 9 * 0 = 0; grind
  | succ n ih =>
    have e1 : sp_lt N days (n + 1) = sp_lt N days n + N (220 + 7 * n + 3) * nI (sp_late (sp_c N 10) days (sp_c N (220 + 7 * n + 5))) := rfl
    have e2 : sp_fines N days (n + 1) = sp_fines N days n + N 9 * N (220 + 7 * n + 3) * nI (sp_late (sp_c N 10) days (sp_c N (220 + 7 * n + 5))) := rfl
    rw [e1, e2, ← ih]
    grind
theorem rk_late {t dd du : Nat} (ht : t < 2 ^ 20) (hd : dd < 2 ^ 20) (hu : du < 2 ^ 20) : (if nI t < nI du then nI du else nI t) = nI (if t ≤ du then du else t) ∧ (if 0 < nI t + nI dd - nI (if t ≤ du then du else t) then nI t + nI dd - nI (if t ≤ du then du else t) else 0) = nI (sp_late t dd du) := by
  constructor
  · by_cases h : t < du
    · rw [if_pos (nI_lt h (by omega)), if_pos (by omega)]
    · rw [if_neg (nI_nlt (by omega) (by omega))]
      by_cases h2 : t ≤ du
      · rw [if_pos h2, show t = du by omega]
      · rw [if_neg h2]
  · unfold sp_late
    generalize hm : (if t ≤ du then du else t) = m
    have hm2 : m < 2 ^ 20 := by rw [← hm]; split <;> omega
    rw [nI_add]
    have hs := pk_sub_toInt (a := t + dd) (b := m) (by omega) (by omega)
    have h0 : (0 : Int32).toInt = 0 := by decide
    by_cases h : m < t + dd
    · rw [if_pos (Int32.lt_iff_toInt_lt.mpr (by rw [hs, h0]; omega)), pk_sub (by omega)]
    · rw [if_neg (fun z => by have := Int32.lt_iff_toInt_lt.mp z; rw [hs, h0] at this; omega), show t + dd - m = 0 by omega, nI_0]
theorem cX0_late_l {b t dd c : Nat} (h : cl_bc I R b N) (hc : N 13 = nI c) (hc2 : c ≤ 16) (h10 : N 10 = nI t) (ht : t ≤ 3000) (hdd : dd ≤ 200) (hdue : ∀ o, o < c → ∃ du, du ≤ 3101 ∧ N (220 + 7 * o + 5) = nI du) : ∀ n k : Nat, k + n = c → rk_Wp w l rk_mX0_lateRopes 1 0 0 (rk_GP w Sh I R (sp_lt N dd c)) 5 [(0, rk_a 1 b), (1, rk_i (nI t)), (2, rk_i (nI dd)), (3, rk_i (sp_lt N dd k)), (4, rk_i (nI k))] [] (Sh, 0, 0) I R := by
  have h1 : I 1 b 1 = nI c := h.1.trans hc
  intro n
  induction n with
  | zero =>
    intro k hk
    obtain rfl : k = c := by omega
    refine rk_iload dX0_lateRopes_5 rfl ?_
    refine rk_aload_n 0 dX0_lateRopes_7 rfl rfl ?_
    refine rk_g1_1 rk_kX0_18 dX0_lateRopes_8 ?_
    rw [h1]
    refine rk_icmp_ge 60 dX0_lateRopes_11 (by decide) (fun qz11 => ?_) (fun qz11 => ?_)
    · skip
      refine rk_iload_n 3 dX0_lateRopes_60 rfl rfl ?_
      refine rk_iretP dX0_lateRopes_61 rfl rfl ?_
      rfl
    · skip
      exact absurd (nI_le (Nat.le_refl k) (by omega)) qz11
  | succ n ih =>
    intro k hk
    obtain ⟨du, hu, hdu⟩ := hdue k (by omega)
    have hP := h.2.1 k (by rw [sp_cN hc (by omega)]; omega)
    have hnge : ¬ nI c ≤ nI k := nI_ge (by omega) (by omega)
    have hl := rk_late (t := t) (dd := dd) (du := du) (by omega) (by omega) (by omega)
    have hs : sp_lt N dd k + N (220 + 7 * k + 3) * nI (sp_late t dd du) = sp_lt N dd (k + 1) := by
      show _ = sp_lt N dd k + N (220 + 7 * k + 3) * nI (sp_late (sp_c N 10) dd (sp_c N (220 + 7 * k + 5)))
      rw [sp_cN h10 (by omega), sp_cN hdu (by omega)]
    refine rk_iload dX0_lateRopes_5 rfl ?_
    refine rk_aload_n 0 dX0_lateRopes_7 rfl rfl ?_
    refine rk_g1_1 rk_kX0_18 dX0_lateRopes_8 ?_
    rw [h1]
    refine rk_icmp_ge 60 dX0_lateRopes_11 (by decide) (fun qz11 => ?_) (fun qz11 => ?_)
    · skip
      exact absurd qz11 hnge
    · skip
      refine rk_iload_n 1 dX0_lateRopes_14 rfl rfl ?_
      refine rk_aload_n 0 dX0_lateRopes_15 rfl rfl ?_
      refine rk_g1_0 rk_kX0_11 dX0_lateRopes_16 ?_
      refine rk_pc (pc' := 19) rfl ?_
      refine rk_iload dX0_lateRopes_19 rfl ?_
      refine rk_rn13 (k) dX0_lateRopes_21 (by first | rfl | decide | assumption | (simp only [rk_lit, nI_add, pk_mul, nI_1]; done) | (simp only [rk_lit, nI_add, pk_mul, nI_1]; congr 1; omega)) (by first | decide | assumption | omega) ?_
      refine rk_g3_5 rk_kX0_30 dX0_lateRopes_22 ?_
      rw [hP 5 (by decide), hdu]
      refine rk_mmax dX0_lateRopes_25 (by exact rk_inT 707 (by decide +kernel) (by decide +kernel)) (by decide) (Nat.le_of_ble_eq_true rfl) ⟨Nat.le_refl _, Nat.le_refl _⟩ ?_
      rw [hl.1]
      refine rk_istore (ls' := [(5, _), (0, _), (1, _), (2, _), (3, _), (4, _)]) dX0_lateRopes_28 (by decide) rfl ?_
      refine rk_iload_n 3 dX0_lateRopes_30 rfl rfl ?_
      refine rk_pc (pc' := 31) rfl ?_
      refine rk_aload_n 0 dX0_lateRopes_31 rfl rfl ?_
      refine rk_g1_0 rk_kX0_11 dX0_lateRopes_32 ?_
      refine rk_iload dX0_lateRopes_35 rfl ?_
      refine rk_rn13 (k) dX0_lateRopes_37 (by first | rfl | decide | assumption | (simp only [rk_lit, nI_add, pk_mul, nI_1]; done) | (simp only [rk_lit, nI_add, pk_mul, nI_1]; congr 1; omega)) (by first | decide | assumption | omega) ?_
      refine rk_g3_3 rk_kX0_39 dX0_lateRopes_38 ?_
      rw [hP 3 (by decide)]
      refine rk_iconst 0 dX0_lateRopes_41 (by decide) ?_
      refine rk_pc (pc' := 42) rfl ?_
      refine rk_iload_n 1 dX0_lateRopes_42 rfl rfl ?_
      refine rk_iload_n 2 dX0_lateRopes_43 rfl rfl ?_
      refine rk_iadd dX0_lateRopes_44 ?_
      refine rk_iload dX0_lateRopes_45 rfl ?_
      refine rk_isub dX0_lateRopes_47 ?_
      refine rk_mmax dX0_lateRopes_48 (by exact rk_inT 707 (by decide +kernel) (by decide +kernel)) (by decide) (Nat.le_of_ble_eq_true rfl) ⟨Nat.le_refl _, Nat.le_refl _⟩ ?_
      rw [hl.2]
      refine rk_pc (pc' := 51) rfl ?_
      refine rk_imul dX0_lateRopes_51 ?_
      refine rk_iadd dX0_lateRopes_52 ?_
      refine rk_istore_n 3 (ls' := [(3, _), (5, _), (0, _), (1, _), (2, _), (4, _)]) dX0_lateRopes_53 rfl (by decide) rfl ?_
      refine rk_iinc 1 (ls' := [(4, _), (3, _), (5, _), (0, _), (1, _), (2, _)]) dX0_lateRopes_54 (by decide) rfl (by decide) rfl ?_
      refine rk_goto 5 dX0_lateRopes_57 (by decide) ?_
      refine rk_ord [0, 1, 2, 3, 4] (ls' := [(0, _), (1, _), (2, _), (3, _), (4, _)]) rfl ?_
      rw [nI_1, hs]
      exact ih (k + 1) (by omega)
theorem cX0_lateRopes_s {b t dd c : Nat} (h : cl_bc I R b N) (hc : N 13 = nI c) (hc2 : c ≤ 16) (h10 : N 10 = nI t) (ht : t ≤ 3000) (hdd : dd ≤ 200) (hdue : ∀ o, o < c → ∃ du, du ≤ 3101 ∧ N (220 + 7 * o + 5) = nI du) : rk_P w l rk_mX0_lateRopes 1 [rk_a 1 b, rk_i (nI t), rk_i (nI dd)] Sh I R (sp_lt N dd c) := by
  refine rk_bP (ls := [(0, _), (1, _), (2, _)]) (by decide) rfl (Nat.le_of_ble_eq_true rfl) ?_
  refine rk_iconst 0 dX0_lateRopes_0 (by decide) ?_
  refine rk_istore_n 3 (ls' := [(3, _), (0, _), (1, _), (2, _)]) dX0_lateRopes_1 rfl (by decide) rfl ?_
  refine rk_iconst 0 dX0_lateRopes_2 (by decide) ?_
  refine rk_istore (ls' := [(4, _), (3, _), (0, _), (1, _), (2, _)]) dX0_lateRopes_3 (by decide) rfl ?_
  refine rk_ord [0, 1, 2, 3, 4] (ls' := [(0, _), (1, _), (2, _), (3, _), (4, _)]) rfl ?_
  exact cX0_late_l h hc hc2 h10 ht hdd hdue c 0 (by omega)
end CP

