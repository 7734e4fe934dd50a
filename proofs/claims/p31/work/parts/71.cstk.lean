section CS
variable {w : rk_W} {l : Launch} {Sh : rk_Sh} {I : rk_Mm} {R : rk_Rm}
theorem cX7_has_s {q : Nat} {x : Int32} : rk_P w l rk_mX7_has 2 [rk_a 8 q, rk_i x] Sh I R (sp_b (0 ≤ x ∧ x ≤ I 8 q 1 - 1)) := by
  refine rk_bP (ls := [(0, _), (1, _)]) (by decide) rfl (Nat.le_of_ble_eq_true rfl) ?_
  refine rk_iload_n 1 dX7_has_0 rfl rfl ?_
  refine rk_iconst 0 dX7_has_1 (by decide) ?_
  refine rk_aload_n 0 dX7_has_2 rfl rfl ?_
  refine rk_g8_1 rk_kX7_23 dX7_has_3 ?_
  refine rk_iconst 1 dX7_has_6 (by decide) ?_
  refine rk_isub dX7_has_7 ?_
  refine rk_pc (pc' := 8) rfl ?_
  refine rk_cSNp (cX10_inRange_s _ _ _) rk_eX10_inRange rfl rk_nX7_37 dX7_has_8 rfl (by decide) (Nat.le_of_ble_eq_true rfl) ⟨Nat.le_refl _, Nat.le_refl _⟩ ?_
  refine rk_iretP dX7_has_11 rfl (by first | decide | exact rk_nz sp_bz) ?_
  rfl
theorem cX7_isFull_s {q : Nat} : rk_P w l rk_mX7_isFull 1 [rk_a 8 q] Sh I R (sp_b (24 ≤ I 8 q 1)) := by
  refine rk_bP (ls := [(0, _)]) (by decide) rfl (Nat.le_of_ble_eq_true rfl) ?_
  refine rk_aload_n 0 dX7_isFull_0 rfl rfl ?_
  refine rk_g8_1 rk_kX7_23 dX7_isFull_1 ?_
  refine rk_bipush 24 dX7_isFull_4 (by decide) ?_
  refine rk_icmp_lt 13 dX7_isFull_6 (by decide) (fun qz6 => ?_) (fun qz6 => ?_)
  · skip
    refine rk_iconst 0 dX7_isFull_13 (by decide) ?_
    refine rk_iretP dX7_isFull_14 rfl (by decide) ?_
    first | exact sp_b1 (Int32.not_lt.mp qz6) | exact sp_b0 (fun z => Int32.not_lt.mpr z qz6)
  · skip
    refine rk_iconst 1 dX7_isFull_9 (by decide) ?_
    refine rk_goto 14 dX7_isFull_10 (by decide) ?_
    refine rk_pc (pc' := 14) rfl ?_
    refine rk_iretP dX7_isFull_14 rfl (by decide) ?_
    first | exact sp_b1 (Int32.not_lt.mp qz6) | exact sp_b0 (fun z => Int32.not_lt.mpr z qz6)
theorem cX7_move_s {q f a b : Nat} {x : Int32} (hf : f < 3) (ha : a < 6) (hb : b < 6) : rk_U w l rk_mX7_move 1 [rk_a 8 q, rk_i (nI f), rk_i (nI a), rk_i (nI b), rk_i x] Sh I R (fun I' R' => R' = R ∧ I' = md_a I 22 (R 21 (R 8 q 2) f) (sp_u (sp_u (I 22 (R 21 (R 8 q 2) f)) a (I 22 (R 21 (R 8 q 2) f) a - x)) b ((sp_u (I 22 (R 21 (R 8 q 2) f)) a (I 22 (R 21 (R 8 q 2) f) a - x)) b + x))) := by
  refine rk_bU (ls := [(0, _), (1, _), (2, _), (3, _), (4, _)]) (by decide) rfl (Nat.le_of_ble_eq_true rfl) ?_
  refine rk_aload_n 0 dX7_move_0 rfl rfl ?_
  refine rk_g8_2 rk_kX7_19 dX7_move_1 ?_
  refine rk_iload_n 1 dX7_move_4 rfl rfl ?_
  refine rk_rn21 (f) dX7_move_5 (by first | rfl | decide | assumption | (simp only [rk_lit, nI_add, pk_mul, nI_1]; done) | (simp only [rk_lit, nI_add, pk_mul, nI_1]; congr 1; omega)) (by first | decide | assumption | omega) ?_
  refine rk_iload_n 2 dX7_move_6 rfl rfl ?_
  refine rk_dup2 dX7_move_7 rfl rfl ?_
  refine rk_pc (pc' := 8) rfl ?_
  refine rk_rn22 (a) dX7_move_8 (by first | rfl | decide | assumption | (simp only [rk_lit, nI_add, pk_mul, nI_1]; done) | (simp only [rk_lit, nI_add, pk_mul, nI_1]; congr 1; omega)) (by first | decide | assumption | omega) ?_
  refine rk_iload dX7_move_9 rfl ?_
  refine rk_isub dX7_move_11 ?_
  refine rk_sn22 (a) dX7_move_12 (by first | rfl | decide | assumption | (simp only [rk_lit, nI_add, pk_mul, nI_1]; done) | (simp only [rk_lit, nI_add, pk_mul, nI_1]; congr 1; omega)) (by first | decide | assumption | omega) (fun Iz1 eIz1 => ?_)
  refine rk_aload_n 0 dX7_move_13 rfl rfl ?_
  refine rk_g8_2 rk_kX7_19 dX7_move_14 ?_
  refine rk_pc (pc' := 17) rfl ?_
  refine rk_iload_n 1 dX7_move_17 rfl rfl ?_
  refine rk_rn21 (f) dX7_move_18 (by first | rfl | decide | assumption | (simp only [rk_lit, nI_add, pk_mul, nI_1]; done) | (simp only [rk_lit, nI_add, pk_mul, nI_1]; congr 1; omega)) (by first | decide | assumption | omega) ?_
  refine rk_iload_n 3 dX7_move_19 rfl rfl ?_
  refine rk_dup2 dX7_move_20 rfl rfl ?_
  refine rk_rn22 (b) dX7_move_21 (by first | rfl | decide | assumption | (simp only [rk_lit, nI_add, pk_mul, nI_1]; done) | (simp only [rk_lit, nI_add, pk_mul, nI_1]; congr 1; omega)) (by first | decide | assumption | omega) ?_
  refine rk_iload dX7_move_22 rfl ?_
  refine rk_pc (pc' := 24) rfl ?_
  refine rk_iadd dX7_move_24 ?_
  refine rk_sn22 (b) dX7_move_25 (by first | rfl | decide | assumption | (simp only [rk_lit, nI_add, pk_mul, nI_1]; done) | (simp only [rk_lit, nI_add, pk_mul, nI_1]; congr 1; omega)) (by first | decide | assumption | omega) (fun Iz2 eIz2 => ?_)
  refine rk_vretU dX7_move_26 rfl ?_
  have e1 := md_c1 eIz1
  refine ⟨rfl, ?_⟩
  rw [md_ch e1 eIz2, e1, md_as]
theorem cX7_addYarn_s {q f : Nat} {x : Int32} (hf : f < 3) : rk_J w l rk_mX7_addYarn 1 [rk_a 8 q, rk_i (nI f), rk_i x] Sh I R (fun r I' R' => r = I 22 (R 21 (R 8 q 2) f) 1 + x ∧ R' = R ∧ I' = md_a I 22 (R 21 (R 8 q 2) f) (sp_u (sp_u (I 22 (R 21 (R 8 q 2) f)) 0 (I 22 (R 21 (R 8 q 2) f) 0 + x)) 1 (I 22 (R 21 (R 8 q 2) f) 1 + x))) := by
  refine rk_bJ (ls := [(0, _), (1, _), (2, _)]) (by decide) rfl (Nat.le_of_ble_eq_true rfl) ?_
  refine rk_aload_n 0 dX7_addYarn_0 rfl rfl ?_
  refine rk_g8_2 rk_kX7_19 dX7_addYarn_1 ?_
  refine rk_iload_n 1 dX7_addYarn_4 rfl rfl ?_
  refine rk_rn21 (f) dX7_addYarn_5 (by first | rfl | decide | assumption | (simp only [rk_lit, nI_add, pk_mul, nI_1]; done) | (simp only [rk_lit, nI_add, pk_mul, nI_1]; congr 1; omega)) (by first | decide | assumption | omega) ?_
  refine rk_iconst 0 dX7_addYarn_6 (by decide) ?_
  refine rk_dup2 dX7_addYarn_7 rfl rfl ?_
  refine rk_pc (pc' := 8) rfl ?_
  refine rk_rn22 0 dX7_addYarn_8 rfl (by first | decide | assumption | omega) ?_
  refine rk_iload_n 2 dX7_addYarn_9 rfl rfl ?_
  refine rk_iadd dX7_addYarn_10 ?_
  refine rk_sn22 0 dX7_addYarn_11 rfl (by first | decide | assumption | omega) (fun Iz1 eIz1 => ?_)
  have sz1 := rk_ufs eIz1
  have nz1 := rk_ufn eIz1
  have pz1 := md_c1 eIz1
  refine rk_aload_n 0 dX7_addYarn_12 rfl rfl ?_
  refine rk_g8_2 rk_kX7_19 dX7_addYarn_13 ?_
  refine rk_pc (pc' := 16) rfl ?_
  refine rk_iload_n 1 dX7_addYarn_16 rfl rfl ?_
  refine rk_rn21 (f) dX7_addYarn_17 (by first | rfl | decide | assumption | (simp only [rk_lit, nI_add, pk_mul, nI_1]; done) | (simp only [rk_lit, nI_add, pk_mul, nI_1]; congr 1; omega)) (by first | decide | assumption | omega) ?_
  refine rk_iconst 1 dX7_addYarn_18 (by decide) ?_
  refine rk_dup2 dX7_addYarn_19 rfl rfl ?_
  refine rk_rn22 1 dX7_addYarn_20 rfl (by first | decide | assumption | omega) ?_
  rw [nz1 (1) (by omega)]
  refine rk_iload_n 2 dX7_addYarn_21 rfl rfl ?_
  refine rk_pc (pc' := 22) rfl ?_
  refine rk_iadd dX7_addYarn_22 ?_
  refine rk_sn22 1 dX7_addYarn_23 rfl (by first | decide | assumption | omega) (fun Iz2 eIz2 => ?_)
  have sz2 := rk_ufs eIz2
  have nz2 := rk_ufn eIz2
  have pz2 := md_ch pz1 eIz2
  refine rk_aload_n 0 dX7_addYarn_24 rfl rfl ?_
  refine rk_g8_2 rk_kX7_19 dX7_addYarn_25 ?_
  refine rk_iload_n 1 dX7_addYarn_28 rfl rfl ?_
  refine rk_rn21 (f) dX7_addYarn_29 (by first | rfl | decide | assumption | (simp only [rk_lit, nI_add, pk_mul, nI_1]; done) | (simp only [rk_lit, nI_add, pk_mul, nI_1]; congr 1; omega)) (by first | decide | assumption | omega) ?_
  refine rk_pc (pc' := 30) rfl ?_
  refine rk_iconst 1 dX7_addYarn_30 (by decide) ?_
  refine rk_rn22 1 dX7_addYarn_31 rfl (by first | decide | assumption | omega) ?_
  rw [sz2]
  refine rk_iretJ dX7_addYarn_32 rfl rfl ?_
  exact ⟨rfl, rfl, pz2⟩
def cl_mv (F : Nat → Nat) (p j : Nat) : Nat → Nat := fun i => if p ≤ i ∧ i < j then F (i + 1) else F i
theorem cl_mv1 {F : Nat → Nat} {p j : Nat} (h : p ≤ j) : sr_u (cl_mv F p j) j (F (j + 1)) = cl_mv F p (j + 1) := by
  funext i
  simp only [sr_u, cl_mv]
  by_cases h1 : i = j
  · subst h1; rw [if_pos rfl, if_pos (by omega)]
  · rw [if_neg h1]
    by_cases h2 : p ≤ i ∧ i < j
    · rw [if_pos h2, if_pos (by omega)]
    · rw [if_neg h2, if_neg (by omega)]
theorem cl_mv0 {F : Nat → Nat} {p : Nat} : cl_mv F p p = F := by
  funext i; simp only [cl_mv]; rw [if_neg (by omega)]
theorem cl_mve {F : Nat → Nat} {p c : Nat} (hp : p < c) : sr_u (cl_mv F p (c - 1)) (c - 1) (F p) = fun i => F (cl_sg p c i) := by
  funext i
  simp only [sr_u, cl_mv, cl_sg]
  by_cases h1 : i = c - 1
  · subst h1; rw [if_pos rfl, if_neg (by omega), if_pos rfl]
  · rw [if_neg h1]
    by_cases h2 : p ≤ i ∧ i < c - 1
    · rw [if_pos h2, if_pos h2]
    · rw [if_neg h2, if_neg h2, if_neg h1]
theorem cX7_remove_l {q p c : Nat} (hc : c ≤ 24) (hp : p < c) (hn : I 8 q 1 = nI c) : ∀ n j : Nat, j + n = c - 1 → p ≤ j → ∀ J : rk_Rm, J = md_r R 20 (R 8 q 0) (cl_mv (R 20 (R 8 q 0)) p j) → rk_Wp w l rk_mX7_remove 1 0 0 (rk_GU w Sh (fun I' R' => I' = rk_uI I 8 q 1 (nI (c - 1)) ∧ R' = md_r R 20 (R 8 q 0) (fun i => R 20 (R 8 q 0) (cl_sg p c i)))) 9 [(0, rk_a 8 q), (1, rk_i (nI p)), (2, rk_a 5 (R 20 (R 8 q 0) p)), (3, rk_i (nI j))] [] (Sh, 0, 0) I J := by
  intro n
  induction n with
  | zero =>
    intro j hj hlo J hJ
    have g8 : J 8 q 0 = R 8 q 0 := by rw [hJ, mr_c (by decide)]
    obtain rfl : j = c - 1 := by omega
    refine rk_iload_n 3 dX7_remove_9 rfl rfl ?_
    refine rk_aload_n 0 dX7_remove_10 rfl rfl ?_
    refine rk_g8_1 rk_kX7_23 dX7_remove_11 ?_
    rw [hn]
    refine rk_iconst 1 dX7_remove_14 (by decide) ?_
    refine rk_isub dX7_remove_15 ?_
    rw [rk_pred (by omega)]
    refine rk_icmp_ge 39 dX7_remove_16 (by decide) (fun qz16 => ?_) (fun qz16 => ?_)
    · skip
      refine rk_aload_n 0 dX7_remove_39 rfl rfl ?_
      refine rk_pc (pc' := 40) rfl ?_
      refine rk_dup dX7_remove_40 rfl ?_
      refine rk_g8_1 rk_kX7_23 dX7_remove_41 ?_
      rw [hn]
      refine rk_iconst 1 dX7_remove_44 (by decide) ?_
      refine rk_isub dX7_remove_45 ?_
      rw [rk_pred (by omega)]
      refine rk_p8_1 rk_kX7_23 dX7_remove_46 (fun Iz1 eIz1 => ?_)
      refine rk_aload_n 0 dX7_remove_49 rfl rfl ?_
      refine rk_pc (pc' := 50) rfl ?_
      refine rk_g8_0 rk_kX7_11 dX7_remove_50 ?_
      rw [g8]
      refine rk_aload_n 0 dX7_remove_53 rfl rfl ?_
      refine rk_g8_1 rk_kX7_23 dX7_remove_54 ?_
      rw [rk_ufs eIz1]
      refine rk_aload_n 2 dX7_remove_57 rfl rfl ?_
      refine rk_sn20 (c - 1) dX7_remove_58 (by first | rfl | decide | assumption | (simp only [rk_lit, nI_add, pk_mul, nI_1]; done) | (simp only [rk_lit, nI_add, pk_mul, nI_1]; congr 1; omega)) (by first | decide | assumption | omega) (fun Rz2 eRz2 => ?_)
      refine rk_vretU dX7_remove_59 rfl ?_
      exact ⟨eIz1, by rw [eRz2, hJ, mr_u, cl_mve hp]⟩
    · skip
      exact absurd (nI_le (Nat.le_refl _) (by omega)) qz16
  | succ n ih =>
    intro j hj hlo J hJ
    have g8 : J 8 q 0 = R 8 q 0 := by rw [hJ, mr_c (by decide)]
    have g20 : J 20 (R 8 q 0) (j + 1) = R 20 (R 8 q 0) (j + 1) := by rw [hJ, mr_s]; simp only [cl_mv]; rw [if_neg (by omega)]
    refine rk_iload_n 3 dX7_remove_9 rfl rfl ?_
    refine rk_aload_n 0 dX7_remove_10 rfl rfl ?_
    refine rk_g8_1 rk_kX7_23 dX7_remove_11 ?_
    rw [hn]
    refine rk_iconst 1 dX7_remove_14 (by decide) ?_
    refine rk_isub dX7_remove_15 ?_
    rw [rk_pred (by omega)]
    refine rk_icmp_ge 39 dX7_remove_16 (by decide) (fun qz16 => ?_) (fun qz16 => ?_)
    · skip
      exact absurd qz16 (nI_ge (by omega) (by omega))
    · skip
      refine rk_aload_n 0 dX7_remove_19 rfl rfl ?_
      refine rk_pc (pc' := 20) rfl ?_
      refine rk_g8_0 rk_kX7_11 dX7_remove_20 ?_
      rw [g8]
      refine rk_iload_n 3 dX7_remove_23 rfl rfl ?_
      refine rk_aload_n 0 dX7_remove_24 rfl rfl ?_
      refine rk_g8_0 rk_kX7_11 dX7_remove_25 ?_
      rw [g8]
      refine rk_iload_n 3 dX7_remove_28 rfl rfl ?_
      refine rk_iconst 1 dX7_remove_29 (by decide) ?_
      refine rk_pc (pc' := 30) rfl ?_
      refine rk_iadd dX7_remove_30 ?_
      refine rk_rn20 (j + 1) dX7_remove_31 (by first | rfl | decide | assumption | (simp only [rk_lit, nI_add, pk_mul, nI_1]; done) | (simp only [rk_lit, nI_add, pk_mul, nI_1]; congr 1; omega)) (by first | decide | assumption | omega) ?_
      rw [g20]
      refine rk_sn20 (j) dX7_remove_32 (by first | rfl | decide | assumption | (simp only [rk_lit, nI_add, pk_mul, nI_1]; done) | (simp only [rk_lit, nI_add, pk_mul, nI_1]; congr 1; omega)) (by first | decide | assumption | omega) (fun Rz1 eRz1 => ?_)
      refine rk_iinc 1 (ls' := [(3, _), (0, _), (1, _), (2, _)]) dX7_remove_33 (by decide) rfl (by decide) rfl ?_
      refine rk_goto 9 dX7_remove_36 (by decide) ?_
      refine rk_ord [0, 1, 2, 3] (ls' := [(0, _), (1, _), (2, _), (3, _)]) rfl ?_
      rw [nI_1]
      exact ih (j + 1) (by omega) (by omega) _ (by rw [eRz1, hJ, mr_u, cl_mv1 hlo])
theorem cX7_remove_s {q p c : Nat} (hc : c ≤ 24) (hp : p < c) (hn : I 8 q 1 = nI c) : rk_U w l rk_mX7_remove 1 [rk_a 8 q, rk_i (nI p)] Sh I R (fun I' R' => I' = rk_uI I 8 q 1 (nI (c - 1)) ∧ R' = md_r R 20 (R 8 q 0) (fun i => R 20 (R 8 q 0) (cl_sg p c i))) := by
  refine rk_bU (ls := [(0, _), (1, _)]) (by decide) rfl (Nat.le_of_ble_eq_true rfl) ?_
  refine rk_aload_n 0 dX7_remove_0 rfl rfl ?_
  refine rk_g8_0 rk_kX7_11 dX7_remove_1 ?_
  refine rk_iload_n 1 dX7_remove_4 rfl rfl ?_
  refine rk_rn20 (p) dX7_remove_5 (by first | rfl | decide | assumption | (simp only [rk_lit, nI_add, pk_mul, nI_1]; done) | (simp only [rk_lit, nI_add, pk_mul, nI_1]; congr 1; omega)) (by first | decide | assumption | omega) ?_
  refine rk_astore_n 2 (ls' := [(2, _), (0, _), (1, _)]) dX7_remove_6 rfl (by decide) rfl ?_
  refine rk_iload_n 1 dX7_remove_7 rfl rfl ?_
  refine rk_pc (pc' := 8) rfl ?_
  refine rk_istore_n 3 (ls' := [(3, _), (2, _), (0, _), (1, _)]) dX7_remove_8 rfl (by decide) rfl ?_
  refine rk_ord [0, 1, 2, 3] (ls' := [(0, _), (1, _), (2, _), (3, _)]) rfl ?_
  exact cX7_remove_l hc hp hn (c - 1 - p) p (by omega) (Nat.le_refl p) R (by rw [cl_mv0, mr_self])
end CS

