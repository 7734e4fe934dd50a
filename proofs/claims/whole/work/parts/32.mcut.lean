section MC
variable {w : rk_W} {l : Launch} {Sh : rk_Sh} {I : rk_Mm} {R : rk_Rm}
/-- the row while what is behind moves up: as far as j -/
def sp_mv (N : Nat → Int32) (cnt lo j : Nat) : Nat → Int32 := fun i => if i = cnt then N cnt - 1 else if lo ≤ i ∧ i < j then N (i + 7) else N i
theorem sp_mv1 {N : Nat → Int32} {cnt lo j : Nat} (h : cnt < lo) (hj : lo ≤ j) : sp_u (sp_mv N cnt lo j) j (N (j + 7)) = sp_mv N cnt lo (j + 1) := by
  funext i
  simp only [sp_u, sp_mv]
  by_cases h1 : i = j
  · subst h1
    rw [if_pos rfl, if_neg (by omega), if_pos (by omega)]
  · rw [if_neg h1]
    by_cases h2 : i = cnt
    · rw [if_pos h2, if_pos h2]
    · rw [if_neg h2, if_neg h2]
      by_cases h3 : lo ≤ i ∧ i < j
      · rw [if_pos h3, if_pos (by omega)]
      · rw [if_neg h3, if_neg (by omega)]
theorem sp_mv0 {N : Nat → Int32} {cnt lo : Nat} : sp_mv N cnt lo lo = sp_u N cnt (N cnt - 1) := by
  funext i
  simp only [sp_u, sp_mv]
  split
  · rfl
  · rw [if_neg (by omega)]
theorem sp_mve {N : Nat → Int32} {cnt base p c : Nat} (hc : N cnt = nI c) (hc2 : c < 2 ^ 31) : sp_mv N cnt (base + 7 * p) (base + 7 * (c - 1)) = sp_gone N cnt base p := by
  funext i
  simp only [sp_mv, sp_gone, sp_cN hc hc2]
theorem rk_pred {c : Nat} (h : 0 < c) : nI c - 1 = nI (c - 1) := by
  obtain ⟨k, rfl⟩ : ∃ k, c = k + 1 := ⟨c - 1, by omega⟩
  exact nI_pred k
theorem cX11_dropPiece_loop {m p c : Nat} (hc : c ≤ 24) (hp : p < c) (h12 : I 26 (R 12 m 0) 12 = nI c) : ∀ n j : Nat, j + n = 50 + 7 * (c - 1) → 50 + 7 * p ≤ j → ∀ J : rk_Mm, J = md_a I 26 (R 12 m 0) (sp_mv (I 26 (R 12 m 0)) 12 (50 + 7 * p) j) → rk_Wp w l rk_mX11_dropPiece 1 0 0 (rk_GU w Sh (fun I' R' => R' = R ∧ I' = md_a I 26 (R 12 m 0) (sp_gone (I 26 (R 12 m 0)) 12 50 p))) 19 [(0, rk_a 12 m), (1, rk_i (nI p)), (2, rk_i (nI j))] [] (Sh, 0, 0) J R := by
  intro n
  induction n with
  | zero =>
    intro j hj hlo J hJ
    have g12 : J 26 (R 12 m 0) 12 = nI (c - 1) := by rw [hJ, md_as]; simp only [sp_mv, if_true]; rw [h12, rk_pred (by omega)]
    have e : (50 : Int32) + 7 * nI (c - 1) = nI (50 + 7 * (c - 1)) := by simp only [rk_lit, nI_add, pk_mul]
    refine rk_iload_n 2 dX11_dropPiece_19 rfl rfl ?_
    refine rk_bipush 50 dX11_dropPiece_20 (by decide) ?_
    refine rk_bipush 7 dX11_dropPiece_22 (by decide) ?_
    refine rk_aload_n 0 dX11_dropPiece_24 rfl rfl ?_
    refine rk_g12_0 rk_kX11_7 dX11_dropPiece_25 ?_
    refine rk_bipush 12 dX11_dropPiece_28 (by decide) ?_
    refine rk_pc (pc' := 30) rfl ?_
    refine rk_rn26 12 dX11_dropPiece_30 rfl (by first | decide | assumption | omega) ?_
    rw [g12]
    refine rk_imul dX11_dropPiece_31 ?_
    refine rk_iadd dX11_dropPiece_32 ?_
    refine rk_icmp_ge 57 dX11_dropPiece_33 (by decide) (fun qz33 => ?_) (fun qz33 => ?_)
    · skip
      refine rk_vretU dX11_dropPiece_57 rfl ?_
      exact ⟨rfl, by rw [hJ, ← sp_mve h12 (by omega)]; rw [show j = 50 + 7 * (c - 1) by omega]⟩
    · skip
      exact absurd (by rw [e]; exact nI_le (by omega) (by omega)) qz33
  | succ n ih =>
    intro j hj hlo J hJ
    have g12 : J 26 (R 12 m 0) 12 = nI (c - 1) := by rw [hJ, md_as]; simp only [sp_mv, if_true]; rw [h12, rk_pred (by omega)]
    have g7 : J 26 (R 12 m 0) (j + 7) = I 26 (R 12 m 0) (j + 7) := by rw [hJ, md_as]; simp only [sp_mv]; rw [if_neg (by omega), if_neg (by omega)]
    have e : (50 : Int32) + 7 * nI (c - 1) = nI (50 + 7 * (c - 1)) := by simp only [rk_lit, nI_add, pk_mul]
    refine rk_iload_n 2 dX11_dropPiece_19 rfl rfl ?_
    refine rk_bipush 50 dX11_dropPiece_20 (by decide) ?_
    refine rk_bipush 7 dX11_dropPiece_22 (by decide) ?_
    refine rk_aload_n 0 dX11_dropPiece_24 rfl rfl ?_
    refine rk_g12_0 rk_kX11_7 dX11_dropPiece_25 ?_
    refine rk_bipush 12 dX11_dropPiece_28 (by decide) ?_
    refine rk_pc (pc' := 30) rfl ?_
    refine rk_rn26 12 dX11_dropPiece_30 rfl (by first | decide | assumption | omega) ?_
    rw [g12]
    refine rk_imul dX11_dropPiece_31 ?_
    refine rk_iadd dX11_dropPiece_32 ?_
    refine rk_icmp_ge 57 dX11_dropPiece_33 (by decide) (fun qz33 => ?_) (fun qz33 => ?_)
    · skip
      exact absurd qz33 (by rw [e]; exact nI_ge (by omega) (by omega))
    · skip
      refine rk_aload_n 0 dX11_dropPiece_36 rfl rfl ?_
      refine rk_g12_0 rk_kX11_7 dX11_dropPiece_37 ?_
      refine rk_iload_n 2 dX11_dropPiece_40 rfl rfl ?_
      refine rk_pc (pc' := 41) rfl ?_
      refine rk_aload_n 0 dX11_dropPiece_41 rfl rfl ?_
      refine rk_g12_0 rk_kX11_7 dX11_dropPiece_42 ?_
      refine rk_iload_n 2 dX11_dropPiece_45 rfl rfl ?_
      refine rk_bipush 7 dX11_dropPiece_46 (by decide) ?_
      refine rk_iadd dX11_dropPiece_48 ?_
      refine rk_rn26 (j + 7) dX11_dropPiece_49 (by first | rfl | decide | assumption | (simp only [rk_lit, nI_add, pk_mul, nI_1]; done) | (simp only [rk_lit, nI_add, pk_mul, nI_1]; congr 1; omega)) (by first | decide | assumption | omega) ?_
      rw [g7]
      refine rk_pc (pc' := 50) rfl ?_
      refine rk_sn26 (j) dX11_dropPiece_50 (by first | rfl | decide | assumption | (simp only [rk_lit, nI_add, pk_mul, nI_1]; done) | (simp only [rk_lit, nI_add, pk_mul, nI_1]; congr 1; omega)) (by first | decide | assumption | omega) (fun Iz1 eIz1 => ?_)
      refine rk_iinc 1 (ls' := [(2, _), (0, _), (1, _)]) dX11_dropPiece_51 (by decide) rfl (by decide) rfl ?_
      refine rk_goto 19 dX11_dropPiece_54 (by decide) ?_
      refine rk_ord [0, 1, 2] (ls' := [(0, _), (1, _), (2, _)]) rfl ?_
      rw [nI_1]
      exact ih (j + 1) (by omega) (by omega) _ (by rw [eIz1, hJ, md_u, sp_mv1 (by omega) hlo])
theorem cX11_dropPiece_s {m p c : Nat} {x : Int32} (hx : x = nI p) (hc : c ≤ 24) (hp : p < c) (h12 : I 26 (R 12 m 0) 12 = nI c) : rk_U w l rk_mX11_dropPiece 1 [rk_a 12 m, rk_i x] Sh I R (fun I' R' => R' = R ∧ I' = md_a I 26 (R 12 m 0) (sp_gone (I 26 (R 12 m 0)) 12 50 p)) := by
  subst hx
  have e : (50 : Int32) + 7 * nI p = nI (50 + 7 * p) := by simp only [rk_lit, nI_add, pk_mul]
  refine rk_bU (ls := [(0, _), (1, _)]) (by decide) rfl (Nat.le_of_ble_eq_true rfl) ?_
  refine rk_aload_n 0 dX11_dropPiece_0 rfl rfl ?_
  refine rk_g12_0 rk_kX11_7 dX11_dropPiece_1 ?_
  refine rk_bipush 12 dX11_dropPiece_4 (by decide) ?_
  refine rk_dup2 dX11_dropPiece_6 rfl rfl ?_
  refine rk_rn26 12 dX11_dropPiece_7 rfl (by first | decide | assumption | omega) ?_
  refine rk_iconst 1 dX11_dropPiece_8 (by decide) ?_
  refine rk_pc (pc' := 9) rfl ?_
  refine rk_isub dX11_dropPiece_9 ?_
  refine rk_sn26 12 dX11_dropPiece_10 rfl (by first | decide | assumption | omega) (fun Iz1 eIz1 => ?_)
  refine rk_bipush 50 dX11_dropPiece_11 (by decide) ?_
  refine rk_bipush 7 dX11_dropPiece_13 (by decide) ?_
  refine rk_iload_n 1 dX11_dropPiece_15 rfl rfl ?_
  refine rk_imul dX11_dropPiece_16 ?_
  refine rk_pc (pc' := 17) rfl ?_
  refine rk_iadd dX11_dropPiece_17 ?_
  refine rk_istore_n 2 (ls' := [(2, _), (0, _), (1, _)]) dX11_dropPiece_18 rfl (by decide) rfl ?_
  refine rk_ord [0, 1, 2] (ls' := [(0, _), (1, _), (2, _)]) rfl ?_
  rw [e]
  exact cX11_dropPiece_loop hc hp h12 (50 + 7 * (c - 1) - (50 + 7 * p)) (50 + 7 * p) (by omega) (by omega) _ (by rw [eIz1, md_u1, sp_mv0])
theorem cX11_dropOrder_loop {m p c : Nat} (hc : c ≤ 16) (hp : p < c) (h12 : I 26 (R 12 m 0) 13 = nI c) : ∀ n j : Nat, j + n = 220 + 7 * (c - 1) → 220 + 7 * p ≤ j → ∀ J : rk_Mm, J = md_a I 26 (R 12 m 0) (sp_mv (I 26 (R 12 m 0)) 13 (220 + 7 * p) j) → rk_Wp w l rk_mX11_dropOrder 1 0 0 (rk_GU w Sh (fun I' R' => R' = R ∧ I' = md_a I 26 (R 12 m 0) (sp_gone (I 26 (R 12 m 0)) 13 220 p))) 20 [(0, rk_a 12 m), (1, rk_i (nI p)), (2, rk_i (nI j))] [] (Sh, 0, 0) J R := by
  intro n
  induction n with
  | zero =>
    intro j hj hlo J hJ
    have g12 : J 26 (R 12 m 0) 13 = nI (c - 1) := by rw [hJ, md_as]; simp only [sp_mv, if_true]; rw [h12, rk_pred (by omega)]
    have e : (220 : Int32) + 7 * nI (c - 1) = nI (220 + 7 * (c - 1)) := by simp only [rk_lit, nI_add, pk_mul]
    refine rk_iload_n 2 dX11_dropOrder_20 rfl rfl ?_
    refine rk_sipush 220 dX11_dropOrder_21 (by decide) ?_
    refine rk_bipush 7 dX11_dropOrder_24 (by decide) ?_
    refine rk_aload_n 0 dX11_dropOrder_26 rfl rfl ?_
    refine rk_g12_0 rk_kX11_7 dX11_dropOrder_27 ?_
    refine rk_bipush 13 dX11_dropOrder_30 (by decide) ?_
    refine rk_pc (pc' := 32) rfl ?_
    refine rk_rn26 13 dX11_dropOrder_32 rfl (by first | decide | assumption | omega) ?_
    rw [g12]
    refine rk_imul dX11_dropOrder_33 ?_
    refine rk_iadd dX11_dropOrder_34 ?_
    refine rk_icmp_ge 59 dX11_dropOrder_35 (by decide) (fun qz35 => ?_) (fun qz35 => ?_)
    · skip
      refine rk_vretU dX11_dropOrder_59 rfl ?_
      exact ⟨rfl, by rw [hJ, ← sp_mve h12 (by omega)]; rw [show j = 220 + 7 * (c - 1) by omega]⟩
    · skip
      exact absurd (by rw [e]; exact nI_le (by omega) (by omega)) qz35
  | succ n ih =>
    intro j hj hlo J hJ
    have g12 : J 26 (R 12 m 0) 13 = nI (c - 1) := by rw [hJ, md_as]; simp only [sp_mv, if_true]; rw [h12, rk_pred (by omega)]
    have g7 : J 26 (R 12 m 0) (j + 7) = I 26 (R 12 m 0) (j + 7) := by rw [hJ, md_as]; simp only [sp_mv]; rw [if_neg (by omega), if_neg (by omega)]
    have e : (220 : Int32) + 7 * nI (c - 1) = nI (220 + 7 * (c - 1)) := by simp only [rk_lit, nI_add, pk_mul]
    refine rk_iload_n 2 dX11_dropOrder_20 rfl rfl ?_
    refine rk_sipush 220 dX11_dropOrder_21 (by decide) ?_
    refine rk_bipush 7 dX11_dropOrder_24 (by decide) ?_
    refine rk_aload_n 0 dX11_dropOrder_26 rfl rfl ?_
    refine rk_g12_0 rk_kX11_7 dX11_dropOrder_27 ?_
    refine rk_bipush 13 dX11_dropOrder_30 (by decide) ?_
    refine rk_pc (pc' := 32) rfl ?_
    refine rk_rn26 13 dX11_dropOrder_32 rfl (by first | decide | assumption | omega) ?_
    rw [g12]
    refine rk_imul dX11_dropOrder_33 ?_
    refine rk_iadd dX11_dropOrder_34 ?_
    refine rk_icmp_ge 59 dX11_dropOrder_35 (by decide) (fun qz35 => ?_) (fun qz35 => ?_)
    · skip
      exact absurd qz35 (by rw [e]; exact nI_ge (by omega) (by omega))
    · skip
      refine rk_aload_n 0 dX11_dropOrder_38 rfl rfl ?_
      refine rk_g12_0 rk_kX11_7 dX11_dropOrder_39 ?_
      refine rk_iload_n 2 dX11_dropOrder_42 rfl rfl ?_
      refine rk_pc (pc' := 43) rfl ?_
      refine rk_aload_n 0 dX11_dropOrder_43 rfl rfl ?_
      refine rk_g12_0 rk_kX11_7 dX11_dropOrder_44 ?_
      refine rk_iload_n 2 dX11_dropOrder_47 rfl rfl ?_
      refine rk_bipush 7 dX11_dropOrder_48 (by decide) ?_
      refine rk_iadd dX11_dropOrder_50 ?_
      refine rk_rn26 (j + 7) dX11_dropOrder_51 (by first | rfl | decide | assumption | (simp only [rk_lit, nI_add, pk_mul, nI_1]; done) | (simp only [rk_lit, nI_add, pk_mul, nI_1]; congr 1; omega)) (by first | decide | assumption | omega) ?_
      rw [g7]
      refine rk_pc (pc' := 52) rfl ?_
      refine rk_sn26 (j) dX11_dropOrder_52 (by first | rfl | decide | assumption | (simp only [rk_lit, nI_add, pk_mul, nI_1]; done) | (simp only [rk_lit, nI_add, pk_mul, nI_1]; congr 1; omega)) (by first | decide | assumption | omega) (fun Iz1 eIz1 => ?_)
      refine rk_iinc 1 (ls' := [(2, _), (0, _), (1, _)]) dX11_dropOrder_53 (by decide) rfl (by decide) rfl ?_
      refine rk_goto 20 dX11_dropOrder_56 (by decide) ?_
      refine rk_ord [0, 1, 2] (ls' := [(0, _), (1, _), (2, _)]) rfl ?_
      rw [nI_1]
      exact ih (j + 1) (by omega) (by omega) _ (by rw [eIz1, hJ, md_u, sp_mv1 (by omega) hlo])
theorem cX11_dropOrder_s {m p c : Nat} {x : Int32} (hx : x = nI p) (hc : c ≤ 16) (hp : p < c) (h12 : I 26 (R 12 m 0) 13 = nI c) : rk_U w l rk_mX11_dropOrder 1 [rk_a 12 m, rk_i x] Sh I R (fun I' R' => R' = R ∧ I' = md_a I 26 (R 12 m 0) (sp_gone (I 26 (R 12 m 0)) 13 220 p)) := by
  subst hx
  have e : (220 : Int32) + 7 * nI p = nI (220 + 7 * p) := by simp only [rk_lit, nI_add, pk_mul]
  refine rk_bU (ls := [(0, _), (1, _)]) (by decide) rfl (Nat.le_of_ble_eq_true rfl) ?_
  refine rk_aload_n 0 dX11_dropOrder_0 rfl rfl ?_
  refine rk_g12_0 rk_kX11_7 dX11_dropOrder_1 ?_
  refine rk_bipush 13 dX11_dropOrder_4 (by decide) ?_
  refine rk_dup2 dX11_dropOrder_6 rfl rfl ?_
  refine rk_rn26 13 dX11_dropOrder_7 rfl (by first | decide | assumption | omega) ?_
  refine rk_iconst 1 dX11_dropOrder_8 (by decide) ?_
  refine rk_pc (pc' := 9) rfl ?_
  refine rk_isub dX11_dropOrder_9 ?_
  refine rk_sn26 13 dX11_dropOrder_10 rfl (by first | decide | assumption | omega) (fun Iz1 eIz1 => ?_)
  refine rk_sipush 220 dX11_dropOrder_11 (by decide) ?_
  refine rk_bipush 7 dX11_dropOrder_14 (by decide) ?_
  refine rk_iload_n 1 dX11_dropOrder_16 rfl rfl ?_
  refine rk_imul dX11_dropOrder_17 ?_
  refine rk_pc (pc' := 18) rfl ?_
  refine rk_iadd dX11_dropOrder_18 ?_
  refine rk_istore_n 2 (ls' := [(2, _), (0, _), (1, _)]) dX11_dropOrder_19 rfl (by decide) rfl ?_
  refine rk_ord [0, 1, 2] (ls' := [(0, _), (1, _), (2, _)]) rfl ?_
  rw [e]
  exact cX11_dropOrder_loop hc hp h12 (220 + 7 * (c - 1) - (220 + 7 * p)) (220 + 7 * p) (by omega) (by omega) _ (by rw [eIz1, md_u1, sp_mv0])
end MC

