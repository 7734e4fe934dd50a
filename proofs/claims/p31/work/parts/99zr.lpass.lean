section PH
variable {w : rk_W} {l : Launch} {Sh : rk_Sh} {rg : Nat → Nat} {I I1 : rk_Mm} {R R1 : rk_Rm} {N M : Nat → Int32} {T T' U : Int} {x k : Nat}
theorem late_step {t d du : Nat} : sp_late t (d + 1) du = sp_late t d du + (if du ≤ t + d then 1 else 0) := by
  unfold sp_late
  split <;> split <;> omega
/-- what a day costs for an order -/
def pgt (N : Nat → Int32) (d o : Nat) : Int32 := if N 10 + nI d < N (220 + 7 * o + 5) then 0 else N (220 + 7 * o + 3) * N 9
theorem sI_add {a b c : Nat → Int32} : ∀ {n : Nat}, (∀ i, i < n → c i = a i + b i) → sp_sI c n = sp_sI a n + sp_sI b n
  | 0, _ => by simp [sp_sI]
  | n + 1, h => by
    simp only [sp_sI]
    rw [sI_add (fun i hi => h i (by omega)), h n (by omega)]
    grind
theorem fines_step {t d oc : Nat} (h10 : N 10 = nI t) (ht : t ≤ 3000) (hd : d ≤ 200) (hdu : ∀ o, o < oc → ∃ du, du ≤ 3101 ∧ N (220 + 7 * o + 5) = nI du) : sp_fines N (d + 1) oc = sp_fines N d oc + sp_sI (pgt N d) oc := by
  unfold sp_fines
  refine sI_add (fun o ho => ?_)
  obtain ⟨du, h1, h2⟩ := hdu o ho
  have e10 : sp_c N 10 = t := sp_cN h10 (by omega)
  have e5 : sp_c N (220 + 7 * o + 5) = du := sp_cN h2 (by omega)
  rw [e10, e5, late_step]
  unfold pgt
  rw [h10, h2, nI_add]
  by_cases hle : du ≤ t + d
  · rw [if_pos hle, if_neg (nI_nlt hle (by omega)), nI_succ]
    grind
  · rw [if_neg hle, if_pos (nI_lt (by omega) (by omega)), Nat.add_zero (sp_late t d du), Int32.add_zero]
theorem fines_0 {oc : Nat} : sp_fines N 0 oc = 0 := by
  have hz : ∀ n, sp_sI (fun _ => (0 : Int32)) n = 0 := by
    intro n
    induction n with
    | zero => rfl
    | succ n ih => simp only [sp_sI]; rw [ih]; rfl
  unfold sp_fines
  refine (sp_sI_c (fun o ho => ?_)).trans (hz oc)
  have e : sp_late (sp_c N 10) 0 (sp_c N (220 + 7 * o + 5)) = 0 := by
    unfold sp_late
    split <;> omega
  rw [e, nI_0, Int32.mul_zero]
theorem lq_fines {d : Nat} (h : lY rg I R x T N) (h1 : 1 ≤ d) (h2 : d ≤ 200) : rk_P w l rk_mX10_finesIn 7 [rk_a 11 x, rk_i (nI d)] Sh I R (sp_fines N d (sp_c N 13)) := by
  obtain ⟨n, Hs, F, Sv, V, X⟩ := h
  refine rk_P.eq (cX10_finesIn_s V X (nI d)) ?_
  unfold sp_finesIn
  rw [if_pos ⟨nI_le (a := 1) h1 (by omega), nI_le (b := 200) h2 (by decide)⟩, nI_clamp (by omega)]
theorem cL_isPassed_b {d oc days : Nat} {G : List Frame → Array Value → State → State → Prop} {Q0 : Int32} (h : lY rg I R x T N) (h13 : N 13 = nI oc) (hoc : oc ≤ 16) (hk : ∀ v, v = sp_fines N d oc + sp_sI (pgt N d) oc → rk_Wp w l rk_mL_isPassed 8 0 0 G 81 [(0, rk_a 11 x), (1, rk_i (nI days)), (2, rk_i (N 10)), (3, rk_i Q0), (4, rk_i v), (5, rk_i (nI d))] [] (Sh, 0, 0) I R) : ∀ n j : Nat, j + n = oc → rk_Wp w l rk_mL_isPassed 8 0 0 G 28 [(0, rk_a 11 x), (1, rk_i (nI days)), (2, rk_i (N 10)), (3, rk_i Q0), (4, rk_i (sp_fines N d oc + sp_sI (pgt N d) j)), (5, rk_i (nI d)), (6, rk_i (nI j))] [] (Sh, 0, 0) I R := by
  intro n
  induction n with
  | zero =>
    intro j hj
    obtain rfl : j = oc := by omega
    refine rk_iload dL_isPassed_28 rfl ?_
    refine rk_aload_n 0 dL_isPassed_30 rfl rfl ?_
    refine rk_iconst 2 dL_isPassed_31 (by decide) ?_
    refine rk_cVp (qc2 h) rk_eX10_count rfl ⟨rfl, rfl⟩ rk_kL_8 dL_isPassed_32 rfl (by decide) (Nat.le_of_ble_eq_true rfl) ⟨Nat.le_refl _, Nat.le_refl _⟩ ?_
    rw [h13]
    refine rk_icmp_ge 81 dL_isPassed_35 (by decide) (fun qz35 => ?_) (fun qz35 => ?_)
    · skip
      refine rk_ord [0, 1, 2, 3, 4, 5] (ls' := [(0, _), (1, _), (2, _), (3, _), (4, _), (5, _)]) rfl ?_
      exact hk _ rfl
    · skip
      exact absurd (nI_le (Nat.le_refl j) (by omega)) qz35
  | succ n ih =>
    intro j hj
    have ho : j < oc := by omega
    have hn : ¬ nI oc ≤ nI j := nI_ge (by omega) (by omega)
    have p1 : N (220 + 7 * j + 5) ≤ N 10 + nI d → sp_fines N d oc + sp_sI (pgt N d) j + N (220 + 7 * j + 3) * N 9 = sp_fines N d oc + sp_sI (pgt N d) (j + 1) := fun z => by
      have e : pgt N d j = N (220 + 7 * j + 3) * N 9 := if_neg (Int32.not_lt.mpr z)
      simp only [sp_sI]
      rw [e, Int32.add_assoc]
    have p0 : ¬ N (220 + 7 * j + 5) ≤ N 10 + nI d → sp_fines N d oc + sp_sI (pgt N d) j + 0 = sp_fines N d oc + sp_sI (pgt N d) (j + 1) := fun z => by
      have e : pgt N d j = 0 := if_pos (Int32.not_le.mp z)
      simp only [sp_sI]
      rw [e, Int32.add_assoc]
    refine rk_iload dL_isPassed_28 rfl ?_
    refine rk_aload_n 0 dL_isPassed_30 rfl rfl ?_
    refine rk_iconst 2 dL_isPassed_31 (by decide) ?_
    refine rk_cVp (qc2 h) rk_eX10_count rfl ⟨rfl, rfl⟩ rk_kL_8 dL_isPassed_32 rfl (by decide) (Nat.le_of_ble_eq_true rfl) ⟨Nat.le_refl _, Nat.le_refl _⟩ ?_
    rw [h13]
    refine rk_icmp_ge 81 dL_isPassed_35 (by decide) (fun qz35 => ?_) (fun qz35 => ?_)
    · skip
      exact absurd qz35 hn
    · skip
      refine rk_iload dL_isPassed_38 rfl ?_
      refine rk_aload_n 0 dL_isPassed_40 rfl rfl ?_
      refine rk_pc (pc' := 41) rfl ?_
      refine rk_iload dL_isPassed_41 rfl ?_
      refine rk_iconst 5 dL_isPassed_43 (by decide) ?_
      refine rk_cVp (qo (k := 5) h h13 hoc ho (by decide) rfl rfl) rk_eX10_ofOrder rfl ⟨rfl, rfl⟩ rk_kL_65 dL_isPassed_44 rfl (by decide) (Nat.le_of_ble_eq_true rfl) ⟨Nat.le_refl _, Nat.le_refl _⟩ ?_
      refine rk_iload_n 2 dL_isPassed_47 rfl rfl ?_
      refine rk_iload dL_isPassed_48 rfl ?_
      refine rk_iadd dL_isPassed_50 ?_
      refine rk_pc (pc' := 51) rfl ?_
      refine rk_icmp_le 58 dL_isPassed_51 (by decide) (fun qz51 => ?_) (fun qz51 => ?_)
      · skip
        refine rk_aload_n 0 dL_isPassed_58 rfl rfl ?_
        refine rk_iload dL_isPassed_59 rfl ?_
        refine rk_iconst 3 dL_isPassed_61 (by decide) ?_
        refine rk_cVp (qo (k := 3) h h13 hoc ho (by decide) rfl rfl) rk_eX10_ofOrder rfl ⟨rfl, rfl⟩ rk_kL_65 dL_isPassed_62 rfl (by decide) (Nat.le_of_ble_eq_true rfl) ⟨Nat.le_refl _, Nat.le_refl _⟩ ?_
        refine rk_aload_n 0 dL_isPassed_65 rfl rfl ?_
        refine rk_bipush 18 dL_isPassed_66 (by decide) ?_
        refine rk_pc (pc' := 68) rfl ?_
        refine rk_cVp (qc18 h) rk_eX10_count rfl ⟨rfl, rfl⟩ rk_kL_8 dL_isPassed_68 rfl (by decide) (Nat.le_of_ble_eq_true rfl) ⟨Nat.le_refl _, Nat.le_refl _⟩ ?_
        refine rk_imul dL_isPassed_71 ?_
        refine rk_iadd dL_isPassed_72 ?_
        refine rk_istore (ls' := [(4, _), (0, _), (1, _), (2, _), (3, _), (5, _), (6, _)]) dL_isPassed_73 (by decide) rfl ?_
        refine rk_iinc 1 (ls' := [(6, _), (4, _), (0, _), (1, _), (2, _), (3, _), (5, _)]) dL_isPassed_75 (by decide) rfl (by decide) rfl ?_
        refine rk_goto 28 dL_isPassed_78 (by decide) ?_
        refine rk_pc (pc' := 28) rfl ?_
        refine rk_ord [0, 1, 2, 3, 4, 5, 6] (ls' := [(0, _), (1, _), (2, _), (3, _), (4, _), (5, _), (6, _)]) rfl ?_
        rw [nI_1]
        first | (rw [p1 qz51]; exact ih (j + 1) (by omega)) | (rw [p0 qz51]; exact ih (j + 1) (by omega))
      · skip
        refine rk_iconst 0 dL_isPassed_54 (by decide) ?_
        refine rk_goto 72 dL_isPassed_55 (by decide) ?_
        refine rk_iadd dL_isPassed_72 ?_
        refine rk_istore (ls' := [(4, _), (0, _), (1, _), (2, _), (3, _), (5, _), (6, _)]) dL_isPassed_73 (by decide) rfl ?_
        refine rk_iinc 1 (ls' := [(6, _), (4, _), (0, _), (1, _), (2, _), (3, _), (5, _)]) dL_isPassed_75 (by decide) rfl (by decide) rfl ?_
        refine rk_goto 28 dL_isPassed_78 (by decide) ?_
        refine rk_pc (pc' := 28) rfl ?_
        refine rk_ord [0, 1, 2, 3, 4, 5, 6] (ls' := [(0, _), (1, _), (2, _), (3, _), (4, _), (5, _), (6, _)]) rfl ?_
        rw [nI_1]
        first | (rw [p1 qz51]; exact ih (j + 1) (by omega)) | (rw [p0 qz51]; exact ih (j + 1) (by omega))
theorem cL_isPassed_l {oc days : Nat} {G : List Frame → Array Value → State → State → Prop} {Q0 : Int32} (h : lY rg I R x T N) (h13 : N 13 = nI oc) (hoc : oc ≤ 16) (hdays : days ≤ 4) (hdu : ∀ o, o < oc → ∃ du, du ≤ 3101 ∧ N (220 + 7 * o + 5) = nI du) {t : Nat} (h10 : N 10 = nI t) (ht : t ≤ 3000) (hk : rk_Wp w l rk_mL_isPassed 8 0 0 G 87 [(0, rk_a 11 x), (1, rk_i (nI days)), (2, rk_i (N 10)), (3, rk_i Q0), (4, rk_i (sp_fines N days oc)), (5, rk_i (nI days))] [] (Sh, 0, 0) I R) : ∀ n d : Nat, d + n = days → rk_Wp w l rk_mL_isPassed 8 0 0 G 19 [(0, rk_a 11 x), (1, rk_i (nI days)), (2, rk_i (N 10)), (3, rk_i Q0), (4, rk_i (sp_fines N d oc)), (5, rk_i (nI d))] [] (Sh, 0, 0) I R := by
  intro n
  induction n with
  | zero =>
    intro d hd
    obtain rfl : d = days := by omega
    refine rk_iload dL_isPassed_19 rfl ?_
    refine rk_iload_n 1 dL_isPassed_21 rfl rfl ?_
    refine rk_icmp_ge 87 dL_isPassed_22 (by decide) (fun qz22 => ?_) (fun qz22 => ?_)
    · skip
      exact hk
    · skip
      exact absurd (nI_le (Nat.le_refl d) (by omega)) qz22
  | succ n ih =>
    intro d hd
    have hn : ¬ nI days ≤ nI d := nI_ge (by omega) (by omega)
    have hst := fines_step (d := d) h10 ht (by omega) hdu
    have k81 : ∀ v, v = sp_fines N d oc + sp_sI (pgt N d) oc → rk_Wp w l rk_mL_isPassed 8 0 0 G 81 [(0, rk_a 11 x), (1, rk_i (nI days)), (2, rk_i (N 10)), (3, rk_i Q0), (4, rk_i v), (5, rk_i (nI d))] [] (Sh, 0, 0) I R := fun v hv => by
      rw [hv, ← hst]
      have hi := ih (d + 1) (by omega)
      refine rk_iinc 1 (ls' := [(5, _), (0, _), (1, _), (2, _), (3, _), (4, _)]) dL_isPassed_81 (by decide) rfl (by decide) rfl ?_
      refine rk_goto 19 dL_isPassed_84 (by decide) ?_
      refine rk_ord [0, 1, 2, 3, 4, 5] (ls' := [(0, _), (1, _), (2, _), (3, _), (4, _), (5, _)]) rfl ?_
      rw [nI_1]
      exact hi
    have e0 : sp_fines N d oc = sp_fines N d oc + sp_sI (pgt N d) 0 := (Int32.add_zero _).symm
    rw [e0]
    refine rk_iload dL_isPassed_19 rfl ?_
    refine rk_iload_n 1 dL_isPassed_21 rfl rfl ?_
    refine rk_icmp_ge 87 dL_isPassed_22 (by decide) (fun qz22 => ?_) (fun qz22 => ?_)
    · skip
      exact absurd qz22 hn
    · skip
      refine rk_iconst 0 dL_isPassed_25 (by decide) ?_
      refine rk_istore (ls' := [(6, _), (0, _), (1, _), (2, _), (3, _), (4, _), (5, _)]) dL_isPassed_26 (by decide) rfl ?_
      refine rk_ord [0, 1, 2, 3, 4, 5, 6] (ls' := [(0, _), (1, _), (2, _), (3, _), (4, _), (5, _), (6, _)]) rfl ?_
      exact cL_isPassed_b h h13 hoc k81 oc 0 (by omega)
theorem cL_isPassed_s {days : Nat} (h : lX rg I R x k N) (hk : k ≤ 200) (h1 : 1 ≤ days) (h4 : days ≤ 4) : rk_J w l rk_mL_isPassed 8 [rk_a 11 x, rk_i (nI days)] Sh I R (lQ rg x k) := by
  obtain ⟨hY, hs, hd⟩ := h
  obtain ⟨c, hc2, hc⟩ := hY.c12
  obtain ⟨-, ⟨oc, hoc, h13, hb⟩, ⟨t, ht, h10⟩, hr⟩ := hY.vs.1
  have ec : sp_c N 13 = oc := sp_cN h13 (by omega)
  have t10 : (N 10).toInt = (t : Int) := by rw [h10]; exact nI_toInt (by omega)
  have hle : N 10 + nI days ≤ 3000 := by
    rw [h10, nI_add]
    exact nI_le (b := 3000) (by omega) (by decide)
  have hsp : sp_pass N (nI days) = (N 10 + nI days, some (sp_u (sp_u (sp_u N 16 (N 16 + sp_fines N days oc)) 10 (N 10 + nI days)) 11 0)) := by
    unfold sp_pass
    rw [if_pos ⟨nI_le (a := 1) h1 (by omega), nI_le (b := 60) (by omega) (by decide)⟩, if_pos hle, nI_clamp (by omega), ec]
  have gx : ∀ j, j ≠ 16 → j ≠ 10 → j ≠ 11 → sp_u (sp_u (sp_u N 16 (N 16 + sp_fines N days oc)) 10 (N 10 + nI days)) 11 0 j = N j := fun j j1 j2 j3 => by rw [sp_un j3, sp_un j2, sp_un j1]
  have g16 : sp_u (sp_u (sp_u N 16 (N 16 + sp_fines N days oc)) 10 (N 10 + nI days)) 11 0 16 = N 16 + sp_fines N days oc := by rw [sp_un (by decide), sp_un (by decide), sp_us]
  have g10 : sp_u (sp_u (sp_u N 16 (N 16 + sp_fines N days oc)) 10 (N 10 + nI days)) 11 0 10 = N 10 + nI days := by rw [sp_un (by decide), sp_us]
  have g11 : sp_u (sp_u (sp_u N 16 (N 16 + sp_fines N days oc)) 10 (N 10 + nI days)) 11 0 11 = 0 := sp_us
  have g7 : sp_u (sp_u (sp_u N 16 (N 16 + sp_fines N days oc)) 10 (N 10 + nI days)) 11 0 7 = N 7 := gx 7 (by decide) (by decide) (by decide)
  have h7 := (hr.1 7 (by decide)).1
  have gl : sp_left (sp_u (sp_u (sp_u N 16 (N 16 + sp_fines N days oc)) 10 (N 10 + nI days)) 11 0) = N 7 := by
    unfold sp_left
    rw [g11, g7, if_pos (show (0 : Int32) < N 7 from Int32.lt_of_lt_of_le (show (0 : Int32) < sp_lst 7 by decide) h7)]
    exact Int32.sub_zero _
  have hs2 : si (3000000 * (k : Int)) (sp_u (sp_u (sp_u N 16 (N 16 + sp_fines N days oc)) 10 (N 10 + nI days)) 11 0) := hs.cg hc hc2 (gx 12 (by decide) (by decide) (by decide)) (fun j hj => gx j (by omega) (by omega) (by omega)) (fun p hp => ⟨gx _ (by omega) (by omega) (by omega), gx _ (by omega) (by omega) (by omega)⟩)
  have d2 : (sp_u (sp_u (sp_u N 16 (N 16 + sp_fines N days oc)) 10 (N 10 + nI days)) 11 0 10).toInt ≤ 4 * (k : Int) + 4 := by
    rw [g10, h10, nI_add, nI_toInt (by omega)]
    omega
  have h87 : rk_Wp w l rk_mL_isPassed 8 0 0 (rk_GJ w Sh (lQ rg x k)) 87 [(0, rk_a 11 x), (1, rk_i (nI days)), (2, rk_i (N 10)), (3, rk_i (N 16)), (4, rk_i (sp_fines N days oc)), (5, rk_i (nI days))] [] (Sh, 0, 0) I R := by
    refine rk_aload_n 0 dL_isPassed_87 rfl rfl ?_
    refine rk_iload_n 1 dL_isPassed_88 rfl rfl ?_
    refine rk_cVp (lq_fines hY h1 (by omega)) rk_eX10_finesIn rfl ⟨rfl, rfl⟩ rk_kL_85 dL_isPassed_89 rfl (by decide) (Nat.le_of_ble_eq_true rfl) ⟨Nat.le_refl _, Nat.le_refl _⟩ ?_
    rw [ec]
    refine rk_iload dL_isPassed_92 rfl ?_
    refine rk_icmp_ne 139 dL_isPassed_94 (by decide) (fun qz94 => ?_) (fun qz94 => ?_)
    · skip
      exact absurd rfl qz94
    · skip
      refine rk_aload_n 0 dL_isPassed_97 rfl rfl ?_
      refine rk_iload_n 1 dL_isPassed_98 rfl rfl ?_
      refine rk_pc (pc' := 99) rfl ?_
      refine rk_cVi (lq_pass hY _) rk_eX10_pass rfl ⟨rfl, rfl⟩ rk_kL_88 dL_isPassed_99 rfl (by decide) (Nat.le_of_ble_eq_true rfl) ⟨Nat.le_refl _, Nat.le_refl _⟩ (fun xz1 Iz1 Rz1 hz1 => ?_)
      rw [hsp] at hz1
      obtain ⟨ex, hY2, -⟩ := hz1
      have hY3 : lY rg Iz1 Rz1 x ((k : Int) + 1) (sp_u (sp_u (sp_u N 16 (N 16 + sp_fines N days oc)) 10 (N 10 + nI days)) 11 0) := hY2
      refine rk_iload_n 2 dL_isPassed_102 rfl rfl ?_
      refine rk_iload_n 1 dL_isPassed_103 rfl rfl ?_
      refine rk_iadd dL_isPassed_104 ?_
      refine rk_icmp_ne 139 dL_isPassed_105 (by decide) (fun qz105 => ?_) (fun qz105 => ?_)
      · skip
        exact absurd ex qz105
      · skip
        refine rk_aload_n 0 dL_isPassed_108 rfl rfl ?_
        refine rk_bipush 6 dL_isPassed_109 (by decide) ?_
        refine rk_pc (pc' := 111) rfl ?_
        refine rk_cVp (qc6 hY3) rk_eX10_count rfl ⟨rfl, rfl⟩ rk_kL_8 dL_isPassed_111 rfl (by decide) (Nat.le_of_ble_eq_true rfl) ⟨Nat.le_refl _, Nat.le_refl _⟩ ?_
        refine rk_iload_n 3 dL_isPassed_114 rfl rfl ?_
        refine rk_iload dL_isPassed_115 rfl ?_
        refine rk_iadd dL_isPassed_117 ?_
        refine rk_icmp_ne 139 dL_isPassed_118 (by decide) (fun qz118 => ?_) (fun qz118 => ?_)
        · skip
          exact absurd g16 qz118
        · skip
          refine rk_aload_n 0 dL_isPassed_121 rfl rfl ?_
          refine rk_iconst 3 dL_isPassed_122 (by decide) ?_
          refine rk_pc (pc' := 123) rfl ?_
          refine rk_cVp (qc3 hY3) rk_eX10_count rfl ⟨rfl, rfl⟩ rk_kL_8 dL_isPassed_123 rfl (by decide) (Nat.le_of_ble_eq_true rfl) ⟨Nat.le_refl _, Nat.le_refl _⟩ ?_
          refine rk_aload_n 0 dL_isPassed_126 rfl rfl ?_
          refine rk_bipush 16 dL_isPassed_127 (by decide) ?_
          refine rk_cVp (qc16 hY3) rk_eX10_count rfl ⟨rfl, rfl⟩ rk_kL_8 dL_isPassed_129 rfl (by decide) (Nat.le_of_ble_eq_true rfl) ⟨Nat.le_refl _, Nat.le_refl _⟩ ?_
          refine rk_icmp_ne 139 dL_isPassed_132 (by decide) (fun qz132 => ?_) (fun qz132 => ?_)
          · skip
            exact absurd (gl.trans g7.symm) qz132
          · skip
            refine rk_iconst 1 dL_isPassed_135 (by decide) ?_
            refine rk_goto 140 dL_isPassed_136 (by decide) ?_
            refine rk_pc (pc' := 140) rfl ?_
            refine rk_iretJ dL_isPassed_140 rfl (by decide) ?_
            exact ⟨rfl, _, hY3.mo (by omega), hs2.mo (by omega), by omega⟩
  have e0 : (0 : Int32) = sp_fines N 0 oc := fines_0.symm
  have h19 := cL_isPassed_l (Q0 := N 16) hY h13 hoc h4 (fun o ho => (hb o ho).2.2) h10 ht h87 days 0 (by omega)
  rw [fines_0] at h19
  refine rk_bJ (ls := [(0, _), (1, _)]) (by decide) rfl (Nat.le_of_ble_eq_true rfl) ?_
  refine rk_aload_n 0 dL_isPassed_0 rfl rfl ?_
  refine rk_iconst 0 dL_isPassed_1 (by decide) ?_
  refine rk_cVp (qc0 hY) rk_eX10_count rfl ⟨rfl, rfl⟩ rk_kL_8 dL_isPassed_2 rfl (by decide) (Nat.le_of_ble_eq_true rfl) ⟨Nat.le_refl _, Nat.le_refl _⟩ ?_
  refine rk_istore_n 2 (ls' := [(2, _), (0, _), (1, _)]) dL_isPassed_5 rfl (by decide) rfl ?_
  refine rk_aload_n 0 dL_isPassed_6 rfl rfl ?_
  refine rk_bipush 6 dL_isPassed_7 (by decide) ?_
  refine rk_pc (pc' := 9) rfl ?_
  refine rk_cVp (qc6 hY) rk_eX10_count rfl ⟨rfl, rfl⟩ rk_kL_8 dL_isPassed_9 rfl (by decide) (Nat.le_of_ble_eq_true rfl) ⟨Nat.le_refl _, Nat.le_refl _⟩ ?_
  refine rk_istore_n 3 (ls' := [(3, _), (2, _), (0, _), (1, _)]) dL_isPassed_12 rfl (by decide) rfl ?_
  refine rk_iconst 0 dL_isPassed_13 (by decide) ?_
  refine rk_istore (ls' := [(4, _), (3, _), (2, _), (0, _), (1, _)]) dL_isPassed_14 (by decide) rfl ?_
  refine rk_iconst 0 dL_isPassed_16 (by decide) ?_
  refine rk_istore (ls' := [(5, _), (4, _), (3, _), (2, _), (0, _), (1, _)]) dL_isPassed_17 (by decide) rfl ?_
  refine rk_pc (pc' := 19) rfl ?_
  refine rk_ord [0, 1, 2, 3, 4, 5] (ls' := [(0, _), (1, _), (2, _), (3, _), (4, _), (5, _)]) rfl ?_
  exact h19
end PH

