section PG
variable {w : rk_W} {l : Launch} {Sh : rk_Sh} {rg : Nat → Nat} {I I1 : rk_Mm} {R R1 : rk_Rm} {N M : Nat → Int32} {T T' U : Int} {x k : Nat}
theorem lY.mo (h : lY rg I R x T N) (e : T ≤ T') : lY rg I R x T' N := by
  obtain ⟨n, Hs, F, Sv, V, X⟩ := h
  exact ⟨n, Hs, F, Sv, V.mo e, X⟩
/-- the law's invariant behind k acts -/
def lX (rg : Nat → Nat) (I : rk_Mm) (R : rk_Rm) (x k : Nat) (N : Nat → Int32) : Prop := lY rg I R x (k : Int) N ∧ si (3000000 * (k : Int)) N ∧ (N 10).toInt ≤ 4 * (k : Int)
theorem lX.of (h : lY rg I R x ((k : Int) + 1) N) (s : si (3000000 * (k : Int)) N) (d : (N 10).toInt ≤ 4 * (k : Int)) : lX rg I R x (k + 1) N := ⟨h.mo (by omega), s.mo (by omega), by omega⟩
/-- what an act of the law leaves -/
def lQ (rg : Nat → Nat) (x k : Nat) (r : Int32) (I' : rk_Mm) (R' : rk_Rm) : Prop := r = 1 ∧ ∃ N', lX rg I' R' x (k + 1) N'
theorem rk_fibre {f : Nat} (hf : f < 3) : (0 : Int32) ≤ nI f ∧ nI f ≤ 2 := ⟨nI_pos' (by omega), nI_le (b := 2) (by omega) (by decide)⟩
theorem cL_isSpun_s {f ft : Nat} (h : lX rg I R x k N) (hk : k ≤ 200) (hf : f < 3) (h1 : 1 ≤ ft) (h3 : ft ≤ 3000000) : rk_J w l rk_mL_isSpun 8 [rk_a 11 x, rk_i (nI f), rk_i (nI ft)] Sh I R (lQ rg x k) := by
  obtain ⟨hY, hs, hd⟩ := h
  obtain ⟨c, hc2, hc⟩ := hY.c12
  have tft : (nI ft).toInt = (ft : Int) := nI_toInt (by omega)
  have hr1 : (1 : Int32) ≤ nI ft ∧ nI ft ≤ 3000000 := ⟨nI_le (a := 1) h1 (by omega), nI_le (b := 3000000) h3 (by decide)⟩
  have ef : (nI f).toNatClampNeg = f := nI_clamp (by omega)
  by_cases hle : N (20 + 3 * f + 2) + nI ft ≤ 9000000
  · have hsp : sp_spin N (nI f) (nI ft) = (N (20 + 3 * f + 2) + nI ft, some (sp_u (sp_u N (20 + 3 * f + 2) (N (20 + 3 * f + 2) + nI ft)) (30 + 4 * f) (N (30 + 4 * f) + nI ft))) := by
      unfold sp_spin
      rw [if_pos (rk_fibre hf), if_pos hr1, ef, if_pos hle]
    have hs2 := si_spin (ft := nI ft) hs (by omega) hc hc2 hf (by omega) (by omega)
    have a1 : sp_acc (sp_u (sp_u N (20 + 3 * f + 2) (N (20 + 3 * f + 2) + nI ft)) (30 + 4 * f) (N (30 + 4 * f) + nI ft)) f 1 = N (20 + 3 * f + 2) + nI ft := by
      show sp_u (sp_u N (20 + 3 * f + 2) (N (20 + 3 * f + 2) + nI ft)) (30 + 4 * f) (N (30 + 4 * f) + nI ft) (20 + 3 * f + 2) = _
      rw [sp_un (by omega), sp_us]
    have a0 : sp_acc (sp_u (sp_u N (20 + 3 * f + 2) (N (20 + 3 * f + 2) + nI ft)) (30 + 4 * f) (N (30 + 4 * f) + nI ft)) f 0 = N (30 + 4 * f) + nI ft := by
      show sp_u (sp_u N (20 + 3 * f + 2) (N (20 + 3 * f + 2) + nI ft)) (30 + 4 * f) (N (30 + 4 * f) + nI ft) (30 + 4 * f) = _
      rw [sp_us]
    have d1 : sp_u (sp_u N (20 + 3 * f + 2) (N (20 + 3 * f + 2) + nI ft)) (30 + 4 * f) (N (30 + 4 * f) + nI ft) 10 = N 10 := by rw [sp_un (by omega), sp_un (by omega)]
    refine rk_bJ (ls := [(0, _), (1, _), (2, _)]) (by decide) rfl (Nat.le_of_ble_eq_true rfl) ?_
    refine rk_aload_n 0 dL_isSpun_0 rfl rfl ?_
    refine rk_iload_n 1 dL_isSpun_1 rfl rfl ?_
    refine rk_iconst 1 dL_isSpun_2 (by decide) ?_
    refine rk_cVp (qa (k := 1) hY hf (by decide) rfl rfl) rk_eX10_account rfl ⟨rfl, rfl⟩ rk_kL_18 dL_isSpun_3 rfl (by decide) (Nat.le_of_ble_eq_true rfl) ⟨Nat.le_refl _, Nat.le_refl _⟩ ?_
    refine rk_istore_n 3 (ls' := [(3, _), (0, _), (1, _), (2, _)]) dL_isSpun_6 rfl (by decide) rfl ?_
    refine rk_aload_n 0 dL_isSpun_7 rfl rfl ?_
    refine rk_pc (pc' := 8) rfl ?_
    refine rk_iload_n 1 dL_isSpun_8 rfl rfl ?_
    refine rk_iconst 0 dL_isSpun_9 (by decide) ?_
    refine rk_cVp (qa (k := 0) hY hf (by decide) rfl rfl) rk_eX10_account rfl ⟨rfl, rfl⟩ rk_kL_18 dL_isSpun_10 rfl (by decide) (Nat.le_of_ble_eq_true rfl) ⟨Nat.le_refl _, Nat.le_refl _⟩ ?_
    refine rk_istore (ls' := [(4, _), (3, _), (0, _), (1, _), (2, _)]) dL_isSpun_13 (by decide) rfl ?_
    refine rk_aload_n 0 dL_isSpun_15 rfl rfl ?_
    refine rk_iload_n 1 dL_isSpun_16 rfl rfl ?_
    refine rk_pc (pc' := 17) rfl ?_
    refine rk_iload_n 2 dL_isSpun_17 rfl rfl ?_
    refine rk_cVi (lq_spin hY _ _) rk_eX10_spin rfl ⟨rfl, rfl⟩ rk_kL_91 dL_isSpun_18 rfl (by decide) (Nat.le_of_ble_eq_true rfl) ⟨Nat.le_refl _, Nat.le_refl _⟩ (fun xz1 Iz1 Rz1 hz1 => ?_)
    rw [hsp] at hz1
    obtain ⟨ex, hY2, -⟩ := hz1
    have hY3 : lY rg Iz1 Rz1 x ((k : Int) + 1) (sp_u (sp_u N (20 + 3 * f + 2) (N (20 + 3 * f + 2) + nI ft)) (30 + 4 * f) (N (30 + 4 * f) + nI ft)) := hY2
    refine rk_istore (ls' := [(5, _), (4, _), (3, _), (0, _), (1, _), (2, _)]) dL_isSpun_21 (by decide) rfl ?_
    refine rk_iload_n 3 dL_isSpun_23 rfl rfl ?_
    refine rk_iload_n 2 dL_isSpun_24 rfl rfl ?_
    refine rk_iadd dL_isSpun_25 ?_
    refine rk_pc (pc' := 26) rfl ?_
    refine rk_ldc 9000000 dL_isSpun_26 (by first | exact rk_inT 438 (by decide +kernel) (by decide +kernel)) ?_
    refine rk_icmp_le 56 dL_isSpun_28 (by decide) (fun qz28 => ?_) (fun qz28 => ?_)
    · skip
      refine rk_iload dL_isSpun_56 rfl ?_
      refine rk_iload_n 3 dL_isSpun_58 rfl rfl ?_
      refine rk_iload_n 2 dL_isSpun_59 rfl rfl ?_
      refine rk_iadd dL_isSpun_60 ?_
      refine rk_icmp_ne 92 dL_isSpun_61 (by decide) (fun qz61 => ?_) (fun qz61 => ?_)
      · skip
        exact absurd ex qz61
      · skip
        refine rk_aload_n 0 dL_isSpun_64 rfl rfl ?_
        refine rk_pc (pc' := 65) rfl ?_
        refine rk_iload_n 1 dL_isSpun_65 rfl rfl ?_
        refine rk_iconst 1 dL_isSpun_66 (by decide) ?_
        refine rk_cVp (qa (k := 1) hY3 hf (by decide) rfl rfl) rk_eX10_account rfl ⟨rfl, rfl⟩ rk_kL_18 dL_isSpun_67 rfl (by decide) (Nat.le_of_ble_eq_true rfl) ⟨Nat.le_refl _, Nat.le_refl _⟩ ?_
        refine rk_iload dL_isSpun_70 rfl ?_
        refine rk_icmp_ne 92 dL_isSpun_72 (by decide) (fun qz72 => ?_) (fun qz72 => ?_)
        · skip
          exact absurd (a1.trans ex.symm) qz72
        · skip
          refine rk_aload_n 0 dL_isSpun_75 rfl rfl ?_
          refine rk_iload_n 1 dL_isSpun_76 rfl rfl ?_
          refine rk_pc (pc' := 77) rfl ?_
          refine rk_iconst 0 dL_isSpun_77 (by decide) ?_
          refine rk_cVp (qa (k := 0) hY3 hf (by decide) rfl rfl) rk_eX10_account rfl ⟨rfl, rfl⟩ rk_kL_18 dL_isSpun_78 rfl (by decide) (Nat.le_of_ble_eq_true rfl) ⟨Nat.le_refl _, Nat.le_refl _⟩ ?_
          refine rk_iload dL_isSpun_81 rfl ?_
          refine rk_iload_n 2 dL_isSpun_83 rfl rfl ?_
          refine rk_iadd dL_isSpun_84 ?_
          refine rk_icmp_ne 92 dL_isSpun_85 (by decide) (fun qz85 => ?_) (fun qz85 => ?_)
          · skip
            exact absurd a0 qz85
          · skip
            refine rk_iconst 1 dL_isSpun_88 (by decide) ?_
            refine rk_pc (pc' := 89) rfl ?_
            refine rk_goto 93 dL_isSpun_89 (by decide) ?_
            refine rk_iretJ dL_isSpun_93 rfl (by decide) ?_
            exact ⟨rfl, _, hY3.mo (by omega), hs2.mo (by omega), by rw [d1]; omega⟩
    · skip
      exact absurd hle qz28
  · have hsp : sp_spin N (nI f) (nI ft) = (-5, none) := by
      unfold sp_spin
      rw [if_pos (rk_fibre hf), if_pos hr1, ef, if_neg hle]
    refine rk_bJ (ls := [(0, _), (1, _), (2, _)]) (by decide) rfl (Nat.le_of_ble_eq_true rfl) ?_
    refine rk_aload_n 0 dL_isSpun_0 rfl rfl ?_
    refine rk_iload_n 1 dL_isSpun_1 rfl rfl ?_
    refine rk_iconst 1 dL_isSpun_2 (by decide) ?_
    refine rk_cVp (qa (k := 1) hY hf (by decide) rfl rfl) rk_eX10_account rfl ⟨rfl, rfl⟩ rk_kL_18 dL_isSpun_3 rfl (by decide) (Nat.le_of_ble_eq_true rfl) ⟨Nat.le_refl _, Nat.le_refl _⟩ ?_
    refine rk_istore_n 3 (ls' := [(3, _), (0, _), (1, _), (2, _)]) dL_isSpun_6 rfl (by decide) rfl ?_
    refine rk_aload_n 0 dL_isSpun_7 rfl rfl ?_
    refine rk_pc (pc' := 8) rfl ?_
    refine rk_iload_n 1 dL_isSpun_8 rfl rfl ?_
    refine rk_iconst 0 dL_isSpun_9 (by decide) ?_
    refine rk_cVp (qa (k := 0) hY hf (by decide) rfl rfl) rk_eX10_account rfl ⟨rfl, rfl⟩ rk_kL_18 dL_isSpun_10 rfl (by decide) (Nat.le_of_ble_eq_true rfl) ⟨Nat.le_refl _, Nat.le_refl _⟩ ?_
    refine rk_istore (ls' := [(4, _), (3, _), (0, _), (1, _), (2, _)]) dL_isSpun_13 (by decide) rfl ?_
    refine rk_aload_n 0 dL_isSpun_15 rfl rfl ?_
    refine rk_iload_n 1 dL_isSpun_16 rfl rfl ?_
    refine rk_pc (pc' := 17) rfl ?_
    refine rk_iload_n 2 dL_isSpun_17 rfl rfl ?_
    refine rk_cVi (lq_spin hY _ _) rk_eX10_spin rfl ⟨rfl, rfl⟩ rk_kL_91 dL_isSpun_18 rfl (by decide) (Nat.le_of_ble_eq_true rfl) ⟨Nat.le_refl _, Nat.le_refl _⟩ (fun xz1 Iz1 Rz1 hz1 => ?_)
    rw [hsp] at hz1
    obtain ⟨ex, hY2, -⟩ := hz1
    have hY3 : lY rg Iz1 Rz1 x ((k : Int) + 1) N := hY2
    refine rk_istore (ls' := [(5, _), (4, _), (3, _), (0, _), (1, _), (2, _)]) dL_isSpun_21 (by decide) rfl ?_
    refine rk_iload_n 3 dL_isSpun_23 rfl rfl ?_
    refine rk_iload_n 2 dL_isSpun_24 rfl rfl ?_
    refine rk_iadd dL_isSpun_25 ?_
    refine rk_pc (pc' := 26) rfl ?_
    refine rk_ldc 9000000 dL_isSpun_26 (by first | exact rk_inT 438 (by decide +kernel) (by decide +kernel)) ?_
    refine rk_icmp_le 56 dL_isSpun_28 (by decide) (fun qz28 => ?_) (fun qz28 => ?_)
    · skip
      exact absurd qz28 hle
    · skip
      refine rk_iload dL_isSpun_31 rfl ?_
      refine rk_bipush (-5) dL_isSpun_33 (by decide) ?_
      refine rk_icmp_ne 52 dL_isSpun_35 (by decide) (fun qz35 => ?_) (fun qz35 => ?_)
      · skip
        exact absurd ex qz35
      · skip
        refine rk_aload_n 0 dL_isSpun_38 rfl rfl ?_
        refine rk_iload_n 1 dL_isSpun_39 rfl rfl ?_
        refine rk_iconst 1 dL_isSpun_40 (by decide) ?_
        refine rk_pc (pc' := 41) rfl ?_
        refine rk_cVp (qa (k := 1) hY3 hf (by decide) rfl rfl) rk_eX10_account rfl ⟨rfl, rfl⟩ rk_kL_18 dL_isSpun_41 rfl (by decide) (Nat.le_of_ble_eq_true rfl) ⟨Nat.le_refl _, Nat.le_refl _⟩ ?_
        refine rk_iload_n 3 dL_isSpun_44 rfl rfl ?_
        refine rk_icmp_ne 52 dL_isSpun_45 (by decide) (fun qz45 => ?_) (fun qz45 => ?_)
        · skip
          exact absurd rfl qz45
        · skip
          refine rk_iconst 1 dL_isSpun_48 (by decide) ?_
          refine rk_goto 93 dL_isSpun_49 (by decide) ?_
          refine rk_iretJ dL_isSpun_93 rfl (by decide) ?_
          exact ⟨rfl, N, lX.of hY3 hs hd⟩
theorem cL_isDropped_s {o oc : Nat} (h : lX rg I R x k N) (hk : k ≤ 200) (h13 : N 13 = nI oc) (hoc : oc ≤ 16) (ho : o ≤ oc) : rk_J w l rk_mL_isDropped 8 [rk_a 11 x, rk_i (nI o)] Sh I R (lQ rg x k) := by
  obtain ⟨hY, hs, hd⟩ := h
  obtain ⟨c, hc2, hc⟩ := hY.c12
  by_cases hlt : o < oc
  · have hio : sp_isor N (nI o) := ⟨nI_pos' (by omega), by rw [h13, rk_pred (by omega)]; exact nI_le (by omega) (by omega)⟩
    have hsp : sp_drop N (nI o) = (N 9 * N (220 + 7 * o + 3), some (sp_gone (sp_u N 16 (N 16 + N 9 * N (220 + 7 * o + 3))) 13 220 o)) := by
      unfold sp_drop
      rw [if_pos hio, nI_clamp (by omega)]
    have k13 : sp_u N 16 (N 16 + N 9 * N (220 + 7 * o + 3)) 13 = nI oc := by rw [sp_un (by decide)]; exact h13
    have g13 := sp_gone_n (N := sp_u N 16 (N 16 + N 9 * N (220 + 7 * o + 3))) (cnt := 13) (base := 220) (p := o) k13 (by omega)
    have gx : ∀ j, j ≠ 13 → j < 220 → sp_gone (sp_u N 16 (N 16 + N 9 * N (220 + 7 * o + 3))) 13 220 o j = sp_u N 16 (N 16 + N 9 * N (220 + 7 * o + 3)) j := fun j j1 j2 => sp_gone_x k13 (by omega) j1 (by omega)
    have gy : ∀ j, j ≠ 13 → j ≠ 16 → j < 220 → sp_gone (sp_u N 16 (N 16 + N 9 * N (220 + 7 * o + 3))) 13 220 o j = N j := fun j j1 j2 j3 => (gx j j1 j3).trans (sp_un j2)
    have g16 : sp_gone (sp_u N 16 (N 16 + N 9 * N (220 + 7 * o + 3))) 13 220 o 16 = N 16 + N 9 * N (220 + 7 * o + 3) := (gx 16 (by decide) (by decide)).trans sp_us
    have hs2 : si (3000000 * (k : Int)) (sp_gone (sp_u N 16 (N 16 + N 9 * N (220 + 7 * o + 3))) 13 220 o) := hs.cg hc hc2 (gy 12 (by decide) (by decide) (by decide)) (fun j hj => gy j (by omega) (by omega) (by omega)) (fun p hp => ⟨gy _ (by omega) (by omega) (by omega), gy _ (by omega) (by omega) (by omega)⟩)
    have n1 : ¬ nI oc ≤ nI o := nI_ge (by omega) (by omega)
    refine rk_bJ (ls := [(0, _), (1, _)]) (by decide) rfl (Nat.le_of_ble_eq_true rfl) ?_
    refine rk_aload_n 0 dL_isDropped_0 rfl rfl ?_
    refine rk_iconst 2 dL_isDropped_1 (by decide) ?_
    refine rk_cVp (qc2 hY) rk_eX10_count rfl ⟨rfl, rfl⟩ rk_kL_8 dL_isDropped_2 rfl (by decide) (Nat.le_of_ble_eq_true rfl) ⟨Nat.le_refl _, Nat.le_refl _⟩ ?_
    rw [h13]
    refine rk_istore_n 2 (ls' := [(2, _), (0, _), (1, _)]) dL_isDropped_5 rfl (by decide) rfl ?_
    refine rk_iload_n 1 dL_isDropped_6 rfl rfl ?_
    refine rk_iload_n 2 dL_isDropped_7 rfl rfl ?_
    refine rk_pc (pc' := 8) rfl ?_
    refine rk_icmp_lt 26 dL_isDropped_8 (by decide) (fun qz8 => ?_) (fun qz8 => ?_)
    · skip
      refine rk_aload_n 0 dL_isDropped_26 rfl rfl ?_
      refine rk_iload_n 1 dL_isDropped_27 rfl rfl ?_
      refine rk_iconst 3 dL_isDropped_28 (by decide) ?_
      refine rk_cVp (qo (k := 3) hY h13 hoc hlt (by decide) rfl rfl) rk_eX10_ofOrder rfl ⟨rfl, rfl⟩ rk_kL_65 dL_isDropped_29 rfl (by decide) (Nat.le_of_ble_eq_true rfl) ⟨Nat.le_refl _, Nat.le_refl _⟩ ?_
      refine rk_aload_n 0 dL_isDropped_32 rfl rfl ?_
      refine rk_bipush 18 dL_isDropped_33 (by decide) ?_
      refine rk_pc (pc' := 35) rfl ?_
      refine rk_cVp (qc18 hY) rk_eX10_count rfl ⟨rfl, rfl⟩ rk_kL_8 dL_isDropped_35 rfl (by decide) (Nat.le_of_ble_eq_true rfl) ⟨Nat.le_refl _, Nat.le_refl _⟩ ?_
      refine rk_imul dL_isDropped_38 ?_
      refine rk_istore_n 3 (ls' := [(3, _), (2, _), (0, _), (1, _)]) dL_isDropped_39 rfl (by decide) rfl ?_
      refine rk_aload_n 0 dL_isDropped_40 rfl rfl ?_
      refine rk_bipush 6 dL_isDropped_41 (by decide) ?_
      refine rk_cVp (qc6 hY) rk_eX10_count rfl ⟨rfl, rfl⟩ rk_kL_8 dL_isDropped_43 rfl (by decide) (Nat.le_of_ble_eq_true rfl) ⟨Nat.le_refl _, Nat.le_refl _⟩ ?_
      refine rk_pc (pc' := 46) rfl ?_
      refine rk_istore (ls' := [(4, _), (3, _), (2, _), (0, _), (1, _)]) dL_isDropped_46 (by decide) rfl ?_
      refine rk_aload_n 0 dL_isDropped_48 rfl rfl ?_
      refine rk_iload_n 1 dL_isDropped_49 rfl rfl ?_
      refine rk_cVi (lq_drop hY _) rk_eX10_drop rfl ⟨rfl, rfl⟩ rk_kL_82 dL_isDropped_50 rfl (by decide) (Nat.le_of_ble_eq_true rfl) ⟨Nat.le_refl _, Nat.le_refl _⟩ (fun xz1 Iz1 Rz1 hz1 => ?_)
      rw [hsp] at hz1
      obtain ⟨ex, hY2, -⟩ := hz1
      have hY3 : lY rg Iz1 Rz1 x ((k : Int) + 1) (sp_gone (sp_u N 16 (N 16 + N 9 * N (220 + 7 * o + 3))) 13 220 o) := hY2
      refine rk_iload_n 3 dL_isDropped_53 rfl rfl ?_
      refine rk_icmp_ne 85 dL_isDropped_54 (by decide) (fun qz54 => ?_) (fun qz54 => ?_)
      · skip
        exact absurd (ex.trans (Int32.mul_comm _ _)) qz54
      · skip
        refine rk_aload_n 0 dL_isDropped_57 rfl rfl ?_
        refine rk_pc (pc' := 58) rfl ?_
        refine rk_bipush 6 dL_isDropped_58 (by decide) ?_
        refine rk_cVp (qc6 hY3) rk_eX10_count rfl ⟨rfl, rfl⟩ rk_kL_8 dL_isDropped_60 rfl (by decide) (Nat.le_of_ble_eq_true rfl) ⟨Nat.le_refl _, Nat.le_refl _⟩ ?_
        refine rk_iload dL_isDropped_63 rfl ?_
        refine rk_iload_n 3 dL_isDropped_65 rfl rfl ?_
        refine rk_iadd dL_isDropped_66 ?_
        refine rk_icmp_ne 85 dL_isDropped_67 (by decide) (fun qz67 => ?_) (fun qz67 => ?_)
        · skip
          exact absurd (g16.trans (by rw [Int32.mul_comm])) qz67
        · skip
          refine rk_aload_n 0 dL_isDropped_70 rfl rfl ?_
          refine rk_pc (pc' := 71) rfl ?_
          refine rk_iconst 2 dL_isDropped_71 (by decide) ?_
          refine rk_cVp (qc2 hY3) rk_eX10_count rfl ⟨rfl, rfl⟩ rk_kL_8 dL_isDropped_72 rfl (by decide) (Nat.le_of_ble_eq_true rfl) ⟨Nat.le_refl _, Nat.le_refl _⟩ ?_
          refine rk_iload_n 2 dL_isDropped_75 rfl rfl ?_
          refine rk_iconst 1 dL_isDropped_76 (by decide) ?_
          refine rk_isub dL_isDropped_77 ?_
          refine rk_icmp_ne 85 dL_isDropped_78 (by decide) (fun qz78 => ?_) (fun qz78 => ?_)
          · skip
            exact absurd (g13.trans (rk_pred (by omega)).symm) qz78
          · skip
            refine rk_iconst 1 dL_isDropped_81 (by decide) ?_
            refine rk_pc (pc' := 82) rfl ?_
            refine rk_goto 86 dL_isDropped_82 (by decide) ?_
            refine rk_iretJ dL_isDropped_86 rfl (by decide) ?_
            exact ⟨rfl, _, lX.of hY3 hs2 (by rw [gy 10 (by decide) (by decide) (by decide)]; exact hd)⟩
    · skip
      exact absurd (nI_lt hlt (by omega)) qz8
  · have hio : ¬ sp_isor N (nI o) := fun z => by
      obtain ⟨i, hi, e⟩ := sp_isor_n z h13 hoc
      have := (nI_eq (by omega) (by omega)).mp e
      omega
    have hsp : sp_drop N (nI o) = (-1, none) := by
      unfold sp_drop
      rw [if_neg hio]
    refine rk_bJ (ls := [(0, _), (1, _)]) (by decide) rfl (Nat.le_of_ble_eq_true rfl) ?_
    refine rk_aload_n 0 dL_isDropped_0 rfl rfl ?_
    refine rk_iconst 2 dL_isDropped_1 (by decide) ?_
    refine rk_cVp (qc2 hY) rk_eX10_count rfl ⟨rfl, rfl⟩ rk_kL_8 dL_isDropped_2 rfl (by decide) (Nat.le_of_ble_eq_true rfl) ⟨Nat.le_refl _, Nat.le_refl _⟩ ?_
    rw [h13]
    refine rk_istore_n 2 (ls' := [(2, _), (0, _), (1, _)]) dL_isDropped_5 rfl (by decide) rfl ?_
    refine rk_iload_n 1 dL_isDropped_6 rfl rfl ?_
    refine rk_iload_n 2 dL_isDropped_7 rfl rfl ?_
    refine rk_pc (pc' := 8) rfl ?_
    refine rk_icmp_lt 26 dL_isDropped_8 (by decide) (fun qz8 => ?_) (fun qz8 => ?_)
    · skip
      exact absurd qz8 (nI_nlt (by omega) (by omega))
    · skip
      refine rk_aload_n 0 dL_isDropped_11 rfl rfl ?_
      refine rk_iload_n 1 dL_isDropped_12 rfl rfl ?_
      refine rk_cVi (lq_drop hY _) rk_eX10_drop rfl ⟨rfl, rfl⟩ rk_kL_82 dL_isDropped_13 rfl (by decide) (Nat.le_of_ble_eq_true rfl) ⟨Nat.le_refl _, Nat.le_refl _⟩ (fun xz1 Iz1 Rz1 hz1 => ?_)
      rw [hsp] at hz1
      obtain ⟨ex, hY2, -⟩ := hz1
      have hY3 : lY rg Iz1 Rz1 x ((k : Int) + 1) N := hY2
      refine rk_iconst (-1) dL_isDropped_16 (by decide) ?_
      refine rk_icmp_ne 24 dL_isDropped_17 (by decide) (fun qz17 => ?_) (fun qz17 => ?_)
      · skip
        exact absurd ex qz17
      · skip
        refine rk_iconst 1 dL_isDropped_20 (by decide) ?_
        refine rk_goto 25 dL_isDropped_21 (by decide) ?_
        refine rk_pc (pc' := 25) rfl ?_
        refine rk_iretJ dL_isDropped_25 rfl (by decide) ?_
        exact ⟨rfl, N, lX.of hY3 hs hd⟩
theorem cL_isOrdered_s {f st ft mn tr : Nat} (h : lX rg I R x k N) (hk : k ≤ 200) (hf : f < 3) (h1 : 1 ≤ st ∧ st ≤ 600) (h2 : 1 ≤ ft ∧ ft ≤ 60) (h3 : 1 ≤ mn ∧ mn ≤ 6) (h4 : tr ≤ 11) : rk_J w l rk_mL_isOrdered 8 [rk_a 11 x, rk_i (nI f), rk_i (nI st), rk_i (nI ft), rk_i (nI mn), rk_i (nI tr)] Sh I R (lQ rg x k) := by
  obtain ⟨hY, hs, hd⟩ := h
  obtain ⟨c, hc2, hc⟩ := hY.c12
  obtain ⟨oc, hoc, h13⟩ := hY.c13
  have hok : sp_orok (nI st) (nI ft) (nI mn) (nI tr) 700 := ⟨⟨nI_le (a := 1) h1.1 (by omega), nI_le (b := 50000) (by omega) (by decide)⟩, ⟨nI_le (a := 1) h2.1 (by omega), nI_le (b := 500) (by omega) (by decide)⟩, ⟨nI_le (a := 1) h3.1 (by omega), nI_le (b := 20) (by omega) (by decide)⟩, ⟨nI_pos' (by omega), nI_le (b := 201) (by omega) (by decide)⟩, by decide, by decide⟩
  by_cases h16 : oc = 16
  · have e16 : N 13 = 16 := by rw [h13, h16]; rfl
    have hsp : sp_order N (nI f) (nI st) (nI ft) (nI mn) (nI tr) 700 = (-4, none) := by
      unfold sp_order
      rw [if_pos (rk_fibre hf), if_pos hok, if_pos e16]
    refine rk_bJ (ls := [(0, _), (1, _), (2, _), (3, _), (4, _), (5, _)]) (by decide) rfl (Nat.le_of_ble_eq_true rfl) ?_
    refine rk_aload_n 0 dL_isOrdered_0 rfl rfl ?_
    refine rk_iconst 2 dL_isOrdered_1 (by decide) ?_
    refine rk_cVp (qc2 hY) rk_eX10_count rfl ⟨rfl, rfl⟩ rk_kL_8 dL_isOrdered_2 rfl (by decide) (Nat.le_of_ble_eq_true rfl) ⟨Nat.le_refl _, Nat.le_refl _⟩ ?_
    refine rk_istore (ls' := [(6, _), (0, _), (1, _), (2, _), (3, _), (4, _), (5, _)]) dL_isOrdered_5 (by decide) rfl ?_
    refine rk_aload_n 0 dL_isOrdered_7 rfl rfl ?_
    refine rk_iload_n 1 dL_isOrdered_8 rfl rfl ?_
    refine rk_pc (pc' := 9) rfl ?_
    refine rk_iload_n 2 dL_isOrdered_9 rfl rfl ?_
    refine rk_iload_n 3 dL_isOrdered_10 rfl rfl ?_
    refine rk_iload dL_isOrdered_11 rfl ?_
    refine rk_iload dL_isOrdered_13 rfl ?_
    refine rk_sipush 700 dL_isOrdered_15 (by decide) ?_
    refine rk_cVi (lq_order hY _ _ _ _ _ _) rk_eX10_order rfl ⟨rfl, rfl⟩ rk_kL_68 dL_isOrdered_18 rfl (by decide) (Nat.le_of_ble_eq_true rfl) ⟨Nat.le_refl _, Nat.le_refl _⟩ (fun xz1 Iz1 Rz1 hz1 => ?_)
    rw [hsp] at hz1
    obtain ⟨ex, hY2, -⟩ := hz1
    have hY3 : lY rg Iz1 Rz1 x ((k : Int) + 1) N := hY2
    refine rk_pc (pc' := 21) rfl ?_
    refine rk_istore (ls' := [(7, _), (6, _), (0, _), (1, _), (2, _), (3, _), (4, _), (5, _)]) dL_isOrdered_21 (by decide) rfl ?_
    refine rk_iload dL_isOrdered_23 rfl ?_
    refine rk_bipush 16 dL_isOrdered_25 (by decide) ?_
    refine rk_icmp_ne 53 dL_isOrdered_27 (by decide) (fun qz27 => ?_) (fun qz27 => ?_)
    · skip
      exact absurd e16 qz27
    · skip
      refine rk_iload dL_isOrdered_30 rfl ?_
      refine rk_bipush (-4) dL_isOrdered_32 (by decide) ?_
      refine rk_icmp_ne 51 dL_isOrdered_34 (by decide) (fun qz34 => ?_) (fun qz34 => ?_)
      · skip
        exact absurd ex qz34
      · skip
        refine rk_aload_n 0 dL_isOrdered_37 rfl rfl ?_
        refine rk_pc (pc' := 38) rfl ?_
        refine rk_iconst 2 dL_isOrdered_38 (by decide) ?_
        refine rk_cVp (qc2 hY3) rk_eX10_count rfl ⟨rfl, rfl⟩ rk_kL_8 dL_isOrdered_39 rfl (by decide) (Nat.le_of_ble_eq_true rfl) ⟨Nat.le_refl _, Nat.le_refl _⟩ ?_
        refine rk_bipush 16 dL_isOrdered_42 (by decide) ?_
        refine rk_icmp_ne 51 dL_isOrdered_44 (by decide) (fun qz44 => ?_) (fun qz44 => ?_)
        · skip
          exact absurd e16 qz44
        · skip
          refine rk_iconst 1 dL_isOrdered_47 (by decide) ?_
          refine rk_goto 52 dL_isOrdered_48 (by decide) ?_
          refine rk_iretJ dL_isOrdered_52 rfl (by decide) ?_
          exact ⟨rfl, N, lX.of hY3 hs hd⟩
  · have n16 : ¬ N 13 = 16 := fun z => h16 ((nI_eq (by omega) (by decide)).mp (h13.symm.trans z))
    have hsp : sp_order N (nI f) (nI st) (nI ft) (nI mn) (nI tr) 700 = (N 13 + 1 - 1, some (sp_orderN N f oc (nI st) (nI ft) (nI mn) (nI tr) 700)) := by
      unfold sp_order
      rw [if_pos (rk_fibre hf), if_pos hok, if_neg n16, nI_clamp (by omega), sp_cN h13 (by omega)]
    have hx : ∀ j, j ≠ 13 → (j < 220 + 7 * oc ∨ 220 + 7 * oc + 7 ≤ j) → sp_orderN N f oc (nI st) (nI ft) (nI mn) (nI tr) 700 j = N j := fun j j1 j2 => by
      simp only [sp_orderN]
      rw [sp_un (by omega), sp_un (by omega), sp_un (by omega), sp_un (by omega), sp_un (by omega), sp_un (by omega), sp_un (by omega), sp_un (by omega)]
    have m13 : sp_orderN N f oc (nI st) (nI ft) (nI mn) (nI tr) 700 13 = nI (oc + 1) := by
      simp only [sp_orderN]
      rw [sp_us, h13, nI_1]
    have m0 : sp_orderN N f oc (nI st) (nI ft) (nI mn) (nI tr) 700 (220 + 7 * oc + 0) = nI f := by
      simp only [sp_orderN]
      rw [sp_un (by omega), sp_un (by omega), sp_un (by omega), sp_un (by omega), sp_un (by omega), sp_un (by omega), sp_un (by omega)]
      exact sp_us
    have m1 : sp_orderN N f oc (nI st) (nI ft) (nI mn) (nI tr) 700 (220 + 7 * oc + 1) = nI st := by
      simp only [sp_orderN]
      rw [sp_un (by omega), sp_un (by omega), sp_un (by omega), sp_un (by omega), sp_un (by omega), sp_un (by omega), sp_us]
    have m2 : sp_orderN N f oc (nI st) (nI ft) (nI mn) (nI tr) 700 (220 + 7 * oc + 2) = nI ft := by
      simp only [sp_orderN]
      rw [sp_un (by omega), sp_un (by omega), sp_un (by omega), sp_un (by omega), sp_un (by omega), sp_us]
    have m3 : sp_orderN N f oc (nI st) (nI ft) (nI mn) (nI tr) 700 (220 + 7 * oc + 3) = nI mn := by
      simp only [sp_orderN]
      rw [sp_un (by omega), sp_un (by omega), sp_un (by omega), sp_un (by omega), sp_us]
    have m4 : sp_orderN N f oc (nI st) (nI ft) (nI mn) (nI tr) 700 (220 + 7 * oc + 4) = nI tr - nI tr / 2 * 2 := by
      simp only [sp_orderN]
      rw [sp_un (by omega), sp_un (by omega), sp_un (by omega), sp_us]
    have m5 : sp_orderN N f oc (nI st) (nI ft) (nI mn) (nI tr) 700 (220 + 7 * oc + 5) = N 10 + nI tr / 2 := by
      simp only [sp_orderN]
      rw [sp_un (by omega), sp_un (by omega), sp_us]
    have m6 : sp_orderN N f oc (nI st) (nI ft) (nI mn) (nI tr) 700 (220 + 7 * oc + 6) = 700 := by
      simp only [sp_orderN]
      rw [sp_un (by omega), sp_us]
    have hs2 : si (3000000 * (k : Int)) (sp_orderN N f oc (nI st) (nI ft) (nI mn) (nI tr) 700) := hs.cg hc hc2 (hx 12 (by decide) (by omega)) (fun j hj => hx j (by omega) (by omega)) (fun p hp => ⟨hx _ (by omega) (by omega), hx _ (by omega) (by omega)⟩)
    have ho : oc < oc + 1 := by omega
    have m10 : sp_orderN N f oc (nI st) (nI ft) (nI mn) (nI tr) 700 10 = N 10 := hx 10 (by decide) (by omega)
    refine rk_bJ (ls := [(0, _), (1, _), (2, _), (3, _), (4, _), (5, _)]) (by decide) rfl (Nat.le_of_ble_eq_true rfl) ?_
    refine rk_aload_n 0 dL_isOrdered_0 rfl rfl ?_
    refine rk_iconst 2 dL_isOrdered_1 (by decide) ?_
    refine rk_cVp (qc2 hY) rk_eX10_count rfl ⟨rfl, rfl⟩ rk_kL_8 dL_isOrdered_2 rfl (by decide) (Nat.le_of_ble_eq_true rfl) ⟨Nat.le_refl _, Nat.le_refl _⟩ ?_
    rw [h13]
    refine rk_istore (ls' := [(6, _), (0, _), (1, _), (2, _), (3, _), (4, _), (5, _)]) dL_isOrdered_5 (by decide) rfl ?_
    refine rk_aload_n 0 dL_isOrdered_7 rfl rfl ?_
    refine rk_iload_n 1 dL_isOrdered_8 rfl rfl ?_
    refine rk_pc (pc' := 9) rfl ?_
    refine rk_iload_n 2 dL_isOrdered_9 rfl rfl ?_
    refine rk_iload_n 3 dL_isOrdered_10 rfl rfl ?_
    refine rk_iload dL_isOrdered_11 rfl ?_
    refine rk_iload dL_isOrdered_13 rfl ?_
    refine rk_sipush 700 dL_isOrdered_15 (by decide) ?_
    refine rk_cVi (lq_order hY _ _ _ _ _ _) rk_eX10_order rfl ⟨rfl, rfl⟩ rk_kL_68 dL_isOrdered_18 rfl (by decide) (Nat.le_of_ble_eq_true rfl) ⟨Nat.le_refl _, Nat.le_refl _⟩ (fun xz1 Iz1 Rz1 hz1 => ?_)
    rw [hsp] at hz1
    obtain ⟨ex, hY2, -⟩ := hz1
    have hY3 : lY rg Iz1 Rz1 x ((k : Int) + 1) (sp_orderN N f oc (nI st) (nI ft) (nI mn) (nI tr) 700) := hY2
    refine rk_pc (pc' := 21) rfl ?_
    refine rk_istore (ls' := [(7, _), (6, _), (0, _), (1, _), (2, _), (3, _), (4, _), (5, _)]) dL_isOrdered_21 (by decide) rfl ?_
    refine rk_iload dL_isOrdered_23 rfl ?_
    refine rk_bipush 16 dL_isOrdered_25 (by decide) ?_
    refine rk_icmp_ne 53 dL_isOrdered_27 (by decide) (fun qz27 => ?_) (fun qz27 => ?_)
    · skip
      refine rk_iload dL_isOrdered_53 rfl ?_
      refine rk_iload dL_isOrdered_55 rfl ?_
      refine rk_icmp_ne 157 dL_isOrdered_57 (by decide) (fun qz57 => ?_) (fun qz57 => ?_)
      · skip
        exact absurd (ex.trans (by show N 13 + 1 - 1 = nI oc; rw [h13, nI_1, nI_pred])) qz57
      · skip
        refine rk_aload_n 0 dL_isOrdered_60 rfl rfl ?_
        refine rk_pc (pc' := 61) rfl ?_
        refine rk_iload dL_isOrdered_61 rfl ?_
        refine rk_iconst 0 dL_isOrdered_63 (by decide) ?_
        refine rk_cVp (qo (k := 0) hY3 m13 (by omega) ho (by decide) rfl rfl) rk_eX10_ofOrder rfl ⟨rfl, rfl⟩ rk_kL_65 dL_isOrdered_64 rfl (by decide) (Nat.le_of_ble_eq_true rfl) ⟨Nat.le_refl _, Nat.le_refl _⟩ ?_
        refine rk_iload_n 1 dL_isOrdered_67 rfl rfl ?_
        refine rk_icmp_ne 157 dL_isOrdered_68 (by decide) (fun qz68 => ?_) (fun qz68 => ?_)
        · skip
          exact absurd m0 qz68
        · skip
          refine rk_aload_n 0 dL_isOrdered_71 rfl rfl ?_
          refine rk_iload dL_isOrdered_72 rfl ?_
          refine rk_pc (pc' := 74) rfl ?_
          refine rk_iconst 1 dL_isOrdered_74 (by decide) ?_
          refine rk_cVp (qo (k := 1) hY3 m13 (by omega) ho (by decide) rfl rfl) rk_eX10_ofOrder rfl ⟨rfl, rfl⟩ rk_kL_65 dL_isOrdered_75 rfl (by decide) (Nat.le_of_ble_eq_true rfl) ⟨Nat.le_refl _, Nat.le_refl _⟩ ?_
          refine rk_iload_n 2 dL_isOrdered_78 rfl rfl ?_
          refine rk_icmp_ne 157 dL_isOrdered_79 (by decide) (fun qz79 => ?_) (fun qz79 => ?_)
          · skip
            exact absurd m1 qz79
          · skip
            refine rk_aload_n 0 dL_isOrdered_82 rfl rfl ?_
            refine rk_iload dL_isOrdered_83 rfl ?_
            refine rk_iconst 2 dL_isOrdered_85 (by decide) ?_
            refine rk_pc (pc' := 86) rfl ?_
            refine rk_cVp (qo (k := 2) hY3 m13 (by omega) ho (by decide) rfl rfl) rk_eX10_ofOrder rfl ⟨rfl, rfl⟩ rk_kL_65 dL_isOrdered_86 rfl (by decide) (Nat.le_of_ble_eq_true rfl) ⟨Nat.le_refl _, Nat.le_refl _⟩ ?_
            refine rk_iload_n 3 dL_isOrdered_89 rfl rfl ?_
            refine rk_icmp_ne 157 dL_isOrdered_90 (by decide) (fun qz90 => ?_) (fun qz90 => ?_)
            · skip
              exact absurd m2 qz90
            · skip
              refine rk_aload_n 0 dL_isOrdered_93 rfl rfl ?_
              refine rk_iload dL_isOrdered_94 rfl ?_
              refine rk_iconst 3 dL_isOrdered_96 (by decide) ?_
              refine rk_cVp (qo (k := 3) hY3 m13 (by omega) ho (by decide) rfl rfl) rk_eX10_ofOrder rfl ⟨rfl, rfl⟩ rk_kL_65 dL_isOrdered_97 rfl (by decide) (Nat.le_of_ble_eq_true rfl) ⟨Nat.le_refl _, Nat.le_refl _⟩ ?_
              refine rk_pc (pc' := 100) rfl ?_
              refine rk_iload dL_isOrdered_100 rfl ?_
              refine rk_icmp_ne 157 dL_isOrdered_102 (by decide) (fun qz102 => ?_) (fun qz102 => ?_)
              · skip
                exact absurd m3 qz102
              · skip
                refine rk_aload_n 0 dL_isOrdered_105 rfl rfl ?_
                refine rk_iload dL_isOrdered_106 rfl ?_
                refine rk_iconst 4 dL_isOrdered_108 (by decide) ?_
                refine rk_cVp (qo (k := 4) hY3 m13 (by omega) ho (by decide) rfl rfl) rk_eX10_ofOrder rfl ⟨rfl, rfl⟩ rk_kL_65 dL_isOrdered_109 rfl (by decide) (Nat.le_of_ble_eq_true rfl) ⟨Nat.le_refl _, Nat.le_refl _⟩ ?_
                refine rk_iload dL_isOrdered_112 rfl ?_
                refine rk_pc (pc' := 114) rfl ?_
                refine rk_iconst 2 dL_isOrdered_114 (by decide) ?_
                refine rk_irem dL_isOrdered_115 (by decide) ?_
                refine rk_icmp_ne 157 dL_isOrdered_116 (by decide) (fun qz116 => ?_) (fun qz116 => ?_)
                · skip
                  exact absurd m4 qz116
                · skip
                  refine rk_aload_n 0 dL_isOrdered_119 rfl rfl ?_
                  refine rk_iload dL_isOrdered_120 rfl ?_
                  refine rk_iconst 5 dL_isOrdered_122 (by decide) ?_
                  refine rk_cVp (qo (k := 5) hY3 m13 (by omega) ho (by decide) rfl rfl) rk_eX10_ofOrder rfl ⟨rfl, rfl⟩ rk_kL_65 dL_isOrdered_123 rfl (by decide) (Nat.le_of_ble_eq_true rfl) ⟨Nat.le_refl _, Nat.le_refl _⟩ ?_
                  refine rk_pc (pc' := 126) rfl ?_
                  refine rk_aload_n 0 dL_isOrdered_126 rfl rfl ?_
                  refine rk_iconst 0 dL_isOrdered_127 (by decide) ?_
                  refine rk_cVp (qc0 hY3) rk_eX10_count rfl ⟨rfl, rfl⟩ rk_kL_8 dL_isOrdered_128 rfl (by decide) (Nat.le_of_ble_eq_true rfl) ⟨Nat.le_refl _, Nat.le_refl _⟩ ?_
                  refine rk_iload dL_isOrdered_131 rfl ?_
                  refine rk_iconst 2 dL_isOrdered_133 (by decide) ?_
                  refine rk_idiv dL_isOrdered_134 (by decide) ?_
                  refine rk_pc (pc' := 135) rfl ?_
                  refine rk_iadd dL_isOrdered_135 ?_
                  refine rk_icmp_ne 157 dL_isOrdered_136 (by decide) (fun qz136 => ?_) (fun qz136 => ?_)
                  · skip
                    exact absurd (m5.trans (by rw [m10])) qz136
                  · skip
                    refine rk_aload_n 0 dL_isOrdered_139 rfl rfl ?_
                    refine rk_iload dL_isOrdered_140 rfl ?_
                    refine rk_bipush 6 dL_isOrdered_142 (by decide) ?_
                    refine rk_cVp (qo (k := 6) hY3 m13 (by omega) ho (by decide) rfl rfl) rk_eX10_ofOrder rfl ⟨rfl, rfl⟩ rk_kL_65 dL_isOrdered_144 rfl (by decide) (Nat.le_of_ble_eq_true rfl) ⟨Nat.le_refl _, Nat.le_refl _⟩ ?_
                    refine rk_sipush 700 dL_isOrdered_147 (by decide) ?_
                    refine rk_pc (pc' := 150) rfl ?_
                    refine rk_icmp_ne 157 dL_isOrdered_150 (by decide) (fun qz150 => ?_) (fun qz150 => ?_)
                    · skip
                      exact absurd m6 qz150
                    · skip
                      refine rk_iconst 1 dL_isOrdered_153 (by decide) ?_
                      refine rk_goto 158 dL_isOrdered_154 (by decide) ?_
                      refine rk_iretJ dL_isOrdered_158 rfl (by decide) ?_
                      exact ⟨rfl, _, lX.of hY3 hs2 (by rw [m10]; exact hd)⟩
    · skip
      exact absurd (h13.trans qz27) n16
end PG

