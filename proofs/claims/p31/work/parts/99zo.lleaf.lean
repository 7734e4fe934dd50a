section PE
variable {w : rk_W} {l : Launch} {Sh : rk_Sh} {rg : Nat → Nat} {I : rk_Mm} {R : rk_Rm} {N : Nat → Int32} {T U : Int} {x : Nat}
theorem lY.pv (h : lY rg I R x T N) {c : Nat} (hc : N 12 = nI c) (hc2 : c ≤ 24) : sp_pv T N c := by
  obtain ⟨⟨c', g⟩, -⟩ := h.vs.1
  have e : c' = c := (nI_eq (by have := g.1; omega) (by omega)).mp (g.2.1.symm.trans hc)
  rw [← e]; exact g
/-- a cell of the script -/
def cellv (w : rk_W) (k n : Nat) : Nat := if (rk_fz w 5).2.1 = 0 then (k * 37 + 5) % n else (((rk_fz w 5).2.2 (k % (rk_fz w 5).2.1) >>> ((nI k - nI k / 7 * 7) &&& 31)) &&& 4194303).toNatClampNeg % n
theorem cellv_lt {k n : Nat} (hn : 0 < n) : cellv w k n < n := by unfold cellv; split <;> exact Nat.mod_lt _ hn
theorem cL_cell_s {b k n : Nat} (hL : (rk_fz w 5).2.1 ≤ 260) (hk : k ≤ 1000) (hn0 : 0 < n) (hn : n < 2 ^ 31) : rk_P w l rk_mL_cell 1 [rk_a 105 b, rk_i (nI k), rk_i (nI n)] Sh I R (nI (cellv w k n)) := by
  have hd0 : ¬ nI n = 0 := nI_ne0 hn0 hn
  refine rk_bP (ls := [(0, _), (1, _), (2, _)]) (by decide) rfl (Nat.le_of_ble_eq_true rfl) ?_
  by_cases h0 : (rk_fz w 5).2.1 = 0
  · skip
    refine rk_aload_n 0 dL_cell_0 rfl rfl ?_
    refine rk_falen 105 5 (by decide) rfl dL_cell_1 ?_
    refine rk_if_ne 14 dL_cell_2 (by decide) (fun qz2 => ?_) (fun qz2 => ?_)
    · skip
      exact absurd (by rw [h0]; rfl) qz2
    · skip
      refine rk_iload_n 1 dL_cell_5 rfl rfl ?_
      refine rk_bipush 37 dL_cell_6 (by decide) ?_
      refine rk_imul dL_cell_8 ?_
      refine rk_iconst 5 dL_cell_9 (by decide) ?_
      refine rk_pc (pc' := 10) rfl ?_
      refine rk_iadd dL_cell_10 ?_
      refine rk_goto 28 dL_cell_11 (by decide) ?_
      refine rk_iload_n 2 dL_cell_28 rfl rfl ?_
      refine rk_irem dL_cell_29 (by exact hd0) ?_
      refine rk_iretP dL_cell_30 rfl rfl ?_
      rw [show nI k * 37 + 5 = nI (k * 37 + 5) by rw [rk_lit 37, rk_lit 5, pk_mul, nI_add], pk_rem (by omega) hn0 hn, cellv, if_pos h0]
  · have hL0 : ¬ Int32.ofNat (rk_fz w 5).2.1 = 0 := nI_ne0 (by omega) (by omega)
    have hidx : nI k - nI k / Int32.ofNat (rk_fz w 5).2.1 * Int32.ofNat (rk_fz w 5).2.1 = nI (k % (rk_fz w 5).2.1) := pk_rem (by omega) (by omega) (by omega)
    have hlt : k % (rk_fz w 5).2.1 < (rk_fz w 5).2.1 := Nat.mod_lt _ (by omega)
    refine rk_aload_n 0 dL_cell_0 rfl rfl ?_
    refine rk_falen 105 5 (by decide) rfl dL_cell_1 ?_
    refine rk_if_ne 14 dL_cell_2 (by decide) (fun qz2 => ?_) (fun qz2 => ?_)
    · skip
      refine rk_aload_n 0 dL_cell_14 rfl rfl ?_
      refine rk_iload_n 1 dL_cell_15 rfl rfl ?_
      refine rk_aload_n 0 dL_cell_16 rfl rfl ?_
      refine rk_falen 105 5 (by decide) rfl dL_cell_17 ?_
      refine rk_pc (pc' := 18) rfl ?_
      refine rk_irem dL_cell_18 (by exact hL0) ?_
      refine rk_fald 105 5 (by decide) rfl dL_cell_19 (by rw [hidx]; exact vp_in_nI hlt (by omega)) ?_
      refine rk_iload_n 1 dL_cell_20 rfl rfl ?_
      refine rk_bipush 7 dL_cell_21 (by decide) ?_
      refine rk_irem dL_cell_23 (by decide) ?_
      refine rk_ishr dL_cell_24 ?_
      refine rk_pc (pc' := 25) rfl ?_
      refine rk_ldc 4194303 dL_cell_25 (by first | exact rk_inT 369 (by decide +kernel) (by decide +kernel)) ?_
      refine rk_iand dL_cell_27 ?_
      refine rk_iload_n 2 dL_cell_28 rfl rfl ?_
      refine rk_irem dL_cell_29 (by exact hd0) ?_
      refine rk_iretP dL_cell_30 rfl rfl ?_
      rw [hidx, nI_clamp (by omega), cellv, if_neg h0]
      obtain ⟨j, hj, ej⟩ := pk_andE ((rk_fz w 5).2.2 (k % (rk_fz w 5).2.1) >>> ((nI k - nI k / 7 * 7) &&& 31)) (m := 4194303) 22 rfl
      rw [ej, nI_clamp (by omega), pk_rem (by omega) hn0 hn]
    · skip
      exact absurd qz2 hL0
theorem rk_upn {v b : Nat} (hb : 0 < b) : (v + b - 1) / b = v / b + (if v % b = 0 then 0 else 1) := by
  have e := Nat.div_add_mod v b
  have hlt := Nat.mod_lt v hb
  have e2 : v + b - 1 = (v % b + b - 1) + b * (v / b) := by omega
  rw [e2, Nat.add_mul_div_left _ _ hb]
  by_cases h : v % b = 0
  · rw [if_pos h, h, Nat.div_eq_of_lt (by omega)]; omega
  · rw [if_neg h, show v % b + b - 1 = (v % b - 1) + b by omega, Nat.add_div_right _ hb, Nat.div_eq_of_lt (by omega)]; omega
theorem cL_up_s {v b : Nat} (hb : 0 < b) (hv : v + b < 2 ^ 31) : rk_P w l rk_mL_up 1 [rk_i (nI v), rk_i (nI b)] Sh I R (sp_up (nI v) (nI b)) := by
  have hd0 : ¬ nI b = 0 := nI_ne0 hb (by omega)
  have hr := pk_rem (a := v) (d := b) (by omega) hb (by omega)
  have hlt := Nat.mod_lt v hb
  have hq : nI v / nI b = nI (v / b) := pk_div (by omega) hb (by omega)
  have hu : sp_up (nI v) (nI b) = nI (v / b + (if v % b = 0 then 0 else 1)) := by rw [sp_up_n hb hv, rk_upn hb]
  refine rk_bP (ls := [(0, _), (1, _)]) (by decide) rfl (Nat.le_of_ble_eq_true rfl) ?_
  refine rk_iload_n 0 dL_up_0 rfl rfl ?_
  refine rk_iload_n 1 dL_up_1 rfl rfl ?_
  refine rk_idiv dL_up_2 (by exact hd0) ?_
  refine rk_iload_n 0 dL_up_3 rfl rfl ?_
  refine rk_iload_n 1 dL_up_4 rfl rfl ?_
  refine rk_irem dL_up_5 (by exact hd0) ?_
  refine rk_pc (pc' := 6) rfl ?_
  refine rk_if_le 13 dL_up_6 (by decide) (fun qz6 => ?_) (fun qz6 => ?_)
  · skip
    refine rk_iconst 0 dL_up_13 (by decide) ?_
    refine rk_iadd dL_up_14 ?_
    refine rk_iretP dL_up_15 rfl rfl ?_
    rw [hr] at qz6
    rw [hu, hq]
    first | (rw [if_pos (show v % b = 0 from (by have := (nI_leI (a := v % b) (b := 0) (by omega) (by decide)).mp qz6; omega))]; exact Int32.add_zero _) | (rw [if_neg (show ¬ v % b = 0 from (fun z => qz6 (by rw [z]; decide))), nI_succ])
  · skip
    refine rk_iconst 1 dL_up_9 (by decide) ?_
    refine rk_goto 14 dL_up_10 (by decide) ?_
    refine rk_iadd dL_up_14 ?_
    refine rk_iretP dL_up_15 rfl rfl ?_
    rw [hr] at qz6
    rw [hu, hq]
    first | (rw [if_pos (show v % b = 0 from (by have := (nI_leI (a := v % b) (b := 0) (by omega) (by decide)).mp qz6; omega))]; exact Int32.add_zero _) | (rw [if_neg (show ¬ v % b = 0 from (fun z => qz6 (by rw [z]; decide))), nI_succ])
def spq (a b : Int32) : Int32 := if 100 - 2 * (if a - b < 0 then -(a - b) else a - b) < 40 then 40 else 100 - 2 * (if a - b < 0 then -(a - b) else a - b)
def lqq (a b : Int32) : Int32 := if a ≤ b then (if b - a ≤ 30 then 100 - 2 * (b - a) else 40) else (if a - b ≤ 30 then 100 - 2 * (a - b) else 40)
theorem lqq_e : ∀ a, a < 61 → ∀ b, b < 61 → lqq (nI a) (nI b) = spq (nI a) (nI b) := by decide +kernel
theorem lqq_q {f : Nat} (hr : sp_rl N) (hf : f < 3) : lqq (N 1) (N (20 + 3 * f + 1)) = sp_qual N f := by
  have h1 := hr.1 1 (by decide)
  have h2 := (hr.2 f hf).2
  obtain ⟨a, ha, ea⟩ := rk_nat (m := 60) (by decide) (Int32.le_trans (show (0 : Int32) ≤ sp_lst 1 by decide) h1.1) (show N 1 ≤ nI 60 from h1.2)
  obtain ⟨b, hb, eb⟩ := rk_nat (m := 60) (by decide) (Int32.le_trans (show (0 : Int32) ≤ 10 by decide) h2.1) (show N (20 + 3 * f + 1) ≤ nI 60 from h2.2)
  show _ = spq (N 1) (N (20 + 3 * f + 1))
  rw [ea, eb]
  exact lqq_e a (by omega) b (by omega)
theorem cL_quality_s {f : Nat} (h : lY rg I R x T N) (hf : f < 3) : rk_P w l rk_mL_quality 6 [rk_a 11 x, rk_i (nI f)] Sh I R (sp_qual N f) := by
  have hq := lqq_q h.vs.1.2.2.2 hf
  refine rk_bP (ls := [(0, _), (1, _)]) (by decide) rfl (Nat.le_of_ble_eq_true rfl) ?_
  refine rk_aload_n 0 dL_quality_0 rfl rfl ?_
  refine rk_bipush 10 dL_quality_1 (by decide) ?_
  refine rk_cVp (qc10 h) rk_eX10_count rfl ⟨rfl, rfl⟩ rk_kL_8 dL_quality_3 rfl (by decide) (Nat.le_of_ble_eq_true rfl) ⟨Nat.le_refl _, Nat.le_refl _⟩ ?_
  refine rk_aload_n 0 dL_quality_6 rfl rfl ?_
  refine rk_bipush 22 dL_quality_7 (by decide) ?_
  refine rk_iload_n 1 dL_quality_9 rfl rfl ?_
  refine rk_pc (pc' := 10) rfl ?_
  refine rk_iadd dL_quality_10 ?_
  refine rk_cVp (qct h hf) rk_eX10_count rfl ⟨rfl, rfl⟩ rk_kL_8 dL_quality_11 rfl (by decide) (Nat.le_of_ble_eq_true rfl) ⟨Nat.le_refl _, Nat.le_refl _⟩ ?_
  refine rk_icmp_le 35 dL_quality_14 (by decide) (fun qz14 => ?_) (fun qz14 => ?_)
  · skip
    refine rk_aload_n 0 dL_quality_35 rfl rfl ?_
    refine rk_bipush 22 dL_quality_36 (by decide) ?_
    refine rk_iload_n 1 dL_quality_38 rfl rfl ?_
    refine rk_iadd dL_quality_39 ?_
    refine rk_pc (pc' := 40) rfl ?_
    refine rk_cVp (qct h hf) rk_eX10_count rfl ⟨rfl, rfl⟩ rk_kL_8 dL_quality_40 rfl (by decide) (Nat.le_of_ble_eq_true rfl) ⟨Nat.le_refl _, Nat.le_refl _⟩ ?_
    refine rk_aload_n 0 dL_quality_43 rfl rfl ?_
    refine rk_bipush 10 dL_quality_44 (by decide) ?_
    refine rk_cVp (qc10 h) rk_eX10_count rfl ⟨rfl, rfl⟩ rk_kL_8 dL_quality_46 rfl (by decide) (Nat.le_of_ble_eq_true rfl) ⟨Nat.le_refl _, Nat.le_refl _⟩ ?_
    refine rk_isub dL_quality_49 ?_
    refine rk_istore_n 2 (ls' := [(2, _), (0, _), (1, _)]) dL_quality_50 rfl (by decide) rfl ?_
    refine rk_pc (pc' := 51) rfl ?_
    refine rk_iload_n 2 dL_quality_51 rfl rfl ?_
    refine rk_bipush 30 dL_quality_52 (by decide) ?_
    refine rk_icmp_le 62 dL_quality_54 (by decide) (fun qz54 => ?_) (fun qz54 => ?_)
    · skip
      refine rk_bipush 100 dL_quality_62 (by decide) ?_
      refine rk_iconst 2 dL_quality_64 (by decide) ?_
      refine rk_iload_n 2 dL_quality_65 rfl rfl ?_
      refine rk_imul dL_quality_66 ?_
      refine rk_pc (pc' := 67) rfl ?_
      refine rk_isub dL_quality_67 ?_
      refine rk_iretP dL_quality_68 rfl rfl ?_
      rw [← hq, lqq]
      first | (rw [if_pos qz14, if_pos qz54]) | (rw [if_pos qz14, if_neg qz54]) | (rw [if_neg qz14, if_pos qz54]) | (rw [if_neg qz14, if_neg qz54])
    · skip
      refine rk_bipush 40 dL_quality_57 (by decide) ?_
      refine rk_goto 68 dL_quality_59 (by decide) ?_
      refine rk_iretP dL_quality_68 rfl rfl ?_
      rw [← hq, lqq]
      first | (rw [if_pos qz14, if_pos qz54]) | (rw [if_pos qz14, if_neg qz54]) | (rw [if_neg qz14, if_pos qz54]) | (rw [if_neg qz14, if_neg qz54])
  · skip
    refine rk_aload_n 0 dL_quality_17 rfl rfl ?_
    refine rk_bipush 10 dL_quality_18 (by decide) ?_
    refine rk_cVp (qc10 h) rk_eX10_count rfl ⟨rfl, rfl⟩ rk_kL_8 dL_quality_20 rfl (by decide) (Nat.le_of_ble_eq_true rfl) ⟨Nat.le_refl _, Nat.le_refl _⟩ ?_
    refine rk_pc (pc' := 23) rfl ?_
    refine rk_aload_n 0 dL_quality_23 rfl rfl ?_
    refine rk_bipush 22 dL_quality_24 (by decide) ?_
    refine rk_iload_n 1 dL_quality_26 rfl rfl ?_
    refine rk_iadd dL_quality_27 ?_
    refine rk_cVp (qct h hf) rk_eX10_count rfl ⟨rfl, rfl⟩ rk_kL_8 dL_quality_28 rfl (by decide) (Nat.le_of_ble_eq_true rfl) ⟨Nat.le_refl _, Nat.le_refl _⟩ ?_
    refine rk_isub dL_quality_31 ?_
    refine rk_pc (pc' := 32) rfl ?_
    refine rk_goto 50 dL_quality_32 (by decide) ?_
    refine rk_istore_n 2 (ls' := [(2, _), (0, _), (1, _)]) dL_quality_50 rfl (by decide) rfl ?_
    refine rk_iload_n 2 dL_quality_51 rfl rfl ?_
    refine rk_bipush 30 dL_quality_52 (by decide) ?_
    refine rk_icmp_le 62 dL_quality_54 (by decide) (fun qz54 => ?_) (fun qz54 => ?_)
    · skip
      refine rk_bipush 100 dL_quality_62 (by decide) ?_
      refine rk_iconst 2 dL_quality_64 (by decide) ?_
      refine rk_pc (pc' := 65) rfl ?_
      refine rk_iload_n 2 dL_quality_65 rfl rfl ?_
      refine rk_imul dL_quality_66 ?_
      refine rk_isub dL_quality_67 ?_
      refine rk_iretP dL_quality_68 rfl rfl ?_
      rw [← hq, lqq]
      first | (rw [if_pos qz14, if_pos qz54]) | (rw [if_pos qz14, if_neg qz54]) | (rw [if_neg qz14, if_pos qz54]) | (rw [if_neg qz14, if_neg qz54])
    · skip
      refine rk_bipush 40 dL_quality_57 (by decide) ?_
      refine rk_goto 68 dL_quality_59 (by decide) ?_
      refine rk_iretP dL_quality_68 rfl rfl ?_
      rw [← hq, lqq]
      first | (rw [if_pos qz14, if_pos qz54]) | (rw [if_pos qz14, if_neg qz54]) | (rw [if_neg qz14, if_pos qz54]) | (rw [if_neg qz14, if_neg qz54])
theorem cL_strength_s {c p : Nat} (h : lY rg I R x T N) (hc : N 12 = nI c) (hc2 : c ≤ 24) (hp : p < c) : rk_P w l rk_mL_strength 6 [rk_a 11 x, rk_i (nI p)] Sh I R (sp_st N (sp_P N p)) := by
  have hv := h.pv hc hc2
  obtain ⟨f, hf, ef⟩ := hv.2.2.1 p hp
  have h6 := (hv.2.2.2.1 p hp).2.1
  have hz0 : N (50 + 7 * p + 6) ≤ 0 → N (50 + 7 * p + 6) = 0 := fun z => by
    have g := Int32.le_iff_toInt_le.mp z
    exact Int32.toInt_inj.mp (Int.le_antisymm g h6)
  have hz1 : ¬ N (50 + 7 * p + 6) ≤ 0 → ¬ N (50 + 7 * p + 6) = 0 := fun z g => z (by rw [g]; decide)
  have hst : sp_st N (sp_P N p) = (if N (50 + 7 * p + 6) = 0 then N (50 + 7 * p + 1) * N (50 + 7 * p + 2) * N (20 + 3 * f) * N (50 + 7 * p + 5) / 100 else N (50 + 7 * p + 1) * N (50 + 7 * p + 2) * N (20 + 3 * f) * N (50 + 7 * p + 5) / 100 * (100 - N 3) / 100) := by
    unfold sp_st
    rw [show (sp_P N p 0).toNatClampNeg = f from (by show (N (50 + 7 * p + 0)).toNatClampNeg = f; rw [ef]; exact nI_clamp (by omega))]
  refine rk_bP (ls := [(0, _), (1, _)]) (by decide) rfl (Nat.le_of_ble_eq_true rfl) ?_
  refine rk_aload_n 0 dL_strength_0 rfl rfl ?_
  refine rk_iload_n 1 dL_strength_1 rfl rfl ?_
  refine rk_iconst 1 dL_strength_2 (by decide) ?_
  refine rk_cVp (qp (k := 1) h hc hc2 hp (by decide) rfl rfl) rk_eX10_piece rfl ⟨rfl, rfl⟩ rk_kL_14 dL_strength_3 rfl (by decide) (Nat.le_of_ble_eq_true rfl) ⟨Nat.le_refl _, Nat.le_refl _⟩ ?_
  refine rk_aload_n 0 dL_strength_6 rfl rfl ?_
  refine rk_iload_n 1 dL_strength_7 rfl rfl ?_
  refine rk_pc (pc' := 8) rfl ?_
  refine rk_iconst 2 dL_strength_8 (by decide) ?_
  refine rk_cVp (qp (k := 2) h hc hc2 hp (by decide) rfl rfl) rk_eX10_piece rfl ⟨rfl, rfl⟩ rk_kL_14 dL_strength_9 rfl (by decide) (Nat.le_of_ble_eq_true rfl) ⟨Nat.le_refl _, Nat.le_refl _⟩ ?_
  refine rk_imul dL_strength_12 ?_
  refine rk_aload_n 0 dL_strength_13 rfl rfl ?_
  refine rk_bipush 19 dL_strength_14 (by decide) ?_
  refine rk_aload_n 0 dL_strength_16 rfl rfl ?_
  refine rk_pc (pc' := 17) rfl ?_
  refine rk_iload_n 1 dL_strength_17 rfl rfl ?_
  refine rk_iconst 0 dL_strength_18 (by decide) ?_
  refine rk_cVp (qp (k := 0) h hc hc2 hp (by decide) rfl rfl) rk_eX10_piece rfl ⟨rfl, rfl⟩ rk_kL_14 dL_strength_19 rfl (by decide) (Nat.le_of_ble_eq_true rfl) ⟨Nat.le_refl _, Nat.le_refl _⟩ ?_
  rw [ef]
  refine rk_iadd dL_strength_22 ?_
  refine rk_cVp (qcs h hf) rk_eX10_count rfl ⟨rfl, rfl⟩ rk_kL_8 dL_strength_23 rfl (by decide) (Nat.le_of_ble_eq_true rfl) ⟨Nat.le_refl _, Nat.le_refl _⟩ ?_
  refine rk_imul dL_strength_26 ?_
  refine rk_pc (pc' := 27) rfl ?_
  refine rk_aload_n 0 dL_strength_27 rfl rfl ?_
  refine rk_iload_n 1 dL_strength_28 rfl rfl ?_
  refine rk_iconst 5 dL_strength_29 (by decide) ?_
  refine rk_cVp (qp (k := 5) h hc hc2 hp (by decide) rfl rfl) rk_eX10_piece rfl ⟨rfl, rfl⟩ rk_kL_14 dL_strength_30 rfl (by decide) (Nat.le_of_ble_eq_true rfl) ⟨Nat.le_refl _, Nat.le_refl _⟩ ?_
  refine rk_imul dL_strength_33 ?_
  refine rk_bipush 100 dL_strength_34 (by decide) ?_
  refine rk_pc (pc' := 36) rfl ?_
  refine rk_idiv dL_strength_36 (by decide) ?_
  refine rk_istore_n 2 (ls' := [(2, _), (0, _), (1, _)]) dL_strength_37 rfl (by decide) rfl ?_
  refine rk_aload_n 0 dL_strength_38 rfl rfl ?_
  refine rk_iload_n 1 dL_strength_39 rfl rfl ?_
  refine rk_bipush 6 dL_strength_40 (by decide) ?_
  refine rk_cVp (qp (k := 6) h hc hc2 hp (by decide) rfl rfl) rk_eX10_piece rfl ⟨rfl, rfl⟩ rk_kL_14 dL_strength_42 rfl (by decide) (Nat.le_of_ble_eq_true rfl) ⟨Nat.le_refl _, Nat.le_refl _⟩ ?_
  refine rk_pc (pc' := 45) rfl ?_
  refine rk_if_le 65 dL_strength_45 (by decide) (fun qz45 => ?_) (fun qz45 => ?_)
  · skip
    refine rk_iload_n 2 dL_strength_65 rfl rfl ?_
    refine rk_iretP dL_strength_66 rfl rfl ?_
    rw [hst]
    first | rw [if_pos (hz0 qz45)] | rw [if_neg (hz1 qz45)]
  · skip
    refine rk_iload_n 2 dL_strength_48 rfl rfl ?_
    refine rk_bipush 100 dL_strength_49 (by decide) ?_
    refine rk_aload_n 0 dL_strength_51 rfl rfl ?_
    refine rk_bipush 12 dL_strength_52 (by decide) ?_
    refine rk_cVp (qc12 h) rk_eX10_count rfl ⟨rfl, rfl⟩ rk_kL_8 dL_strength_54 rfl (by decide) (Nat.le_of_ble_eq_true rfl) ⟨Nat.le_refl _, Nat.le_refl _⟩ ?_
    refine rk_pc (pc' := 57) rfl ?_
    refine rk_isub dL_strength_57 ?_
    refine rk_imul dL_strength_58 ?_
    refine rk_bipush 100 dL_strength_59 (by decide) ?_
    refine rk_idiv dL_strength_61 (by decide) ?_
    refine rk_goto 66 dL_strength_62 (by decide) ?_
    refine rk_iretP dL_strength_66 rfl rfl ?_
    rw [hst]
    first | rw [if_pos (hz0 qz45)] | rw [if_neg (hz1 qz45)]
end PE

