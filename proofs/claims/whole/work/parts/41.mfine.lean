section MF
variable {w : rk_W} {l : Launch} {Sh : rk_Sh} {I : rk_Mm} {R : rk_Rm}
/-- of days days from t on, how many a due day du is not after -/
def sp_late (t days du : Nat) : Nat := t + days - (if t ≤ du then du else t)
def sp_fines (N : Nat → Int32) (days oc : Nat) : Int32 := sp_sI (fun o => N 9 * N (220 + 7 * o + 3) * nI (sp_late (sp_c N 10) days (sp_c N (220 + 7 * o + 5)))) oc
theorem rk_x0 {S X : Int32} : S + X * nI 0 = S := by rw [nI_0]; grind
theorem cX11_fines_in {m t dd k du : Nat} {S X : Int32} {G : List Frame → Array Value → State → State → Prop} (ht : t ≤ 3000) (hdd : dd ≤ 200) (hk : k < 16) (hdu : du < 2 ^ 20) (h10 : I 26 (R 12 m 0) 10 = nI t) (h5 : I 26 (R 12 m 0) (220 + 7 * k + 5) = nI du) (hX : X = I 26 (R 12 m 0) 9 * I 26 (R 12 m 0) (220 + 7 * k + 3)) (kk : rk_Wp w l rk_mX11_finesOf 2 0 0 G 76 [(0, rk_a 12 m), (1, rk_i (nI dd)), (2, rk_i (S + X * nI (sp_late t dd du))), (3, rk_i (nI k)), (4, rk_i (nI (t + dd)))] [] (Sh, 0, 0) I R) : ∀ n d : Nat, d + n = dd → rk_Wp w l rk_mX11_finesOf 2 0 0 G 24 [(0, rk_a 12 m), (1, rk_i (nI dd)), (2, rk_i (S + X * nI (sp_late t d du))), (3, rk_i (nI k)), (4, rk_i (nI (t + d)))] [] (Sh, 0, 0) I R := by
  intro n
  induction n with
  | zero =>
    intro d hd
    obtain rfl : d = dd := by omega
    refine rk_iload dX11_finesOf_24 rfl ?_
    refine rk_aload_n 0 dX11_finesOf_26 rfl rfl ?_
    refine rk_g12_0 rk_kX11_7 dX11_finesOf_27 ?_
    refine rk_bipush 10 dX11_finesOf_30 (by decide) ?_
    refine rk_rn26 10 dX11_finesOf_32 rfl (by first | decide | assumption | omega) ?_
    rw [h10]
    refine rk_iload_n 1 dX11_finesOf_33 rfl rfl ?_
    refine rk_pc (pc' := 34) rfl ?_
    refine rk_iadd dX11_finesOf_34 ?_
    refine rk_icmp_ge 76 dX11_finesOf_35 (by decide) (fun qz35 => ?_) (fun qz35 => ?_)
    · skip
      exact kk
    · skip
      exact absurd (by rw [nI_add]; exact nI_le (Nat.le_refl _) (by omega)) qz35
  | succ n ih =>
    intro d hd
    have hlt : ¬ nI t + nI dd ≤ nI (t + d) := by rw [nI_add]; exact nI_ge (by omega) (by omega)
    have e1 : du ≤ t + d → S + X * nI (sp_late t d du) + X = S + X * nI (sp_late t (d + 1) du) := fun h => by
      have : sp_late t (d + 1) du = sp_late t d du + 1 := by unfold sp_late; split <;> omega
      rw [this, nI_succ]; grind
    have e0 : ¬ du ≤ t + d → S + X * nI (sp_late t d du) + 0 = S + X * nI (sp_late t (d + 1) du) := fun h => by
      have h1 : sp_late t (d + 1) du = 0 := by unfold sp_late; split <;> omega
      have h2 : sp_late t d du = 0 := by unfold sp_late; split <;> omega
      rw [h1, h2]; grind
    refine rk_iload dX11_finesOf_24 rfl ?_
    refine rk_aload_n 0 dX11_finesOf_26 rfl rfl ?_
    refine rk_g12_0 rk_kX11_7 dX11_finesOf_27 ?_
    refine rk_bipush 10 dX11_finesOf_30 (by decide) ?_
    refine rk_rn26 10 dX11_finesOf_32 rfl (by first | decide | assumption | omega) ?_
    rw [h10]
    refine rk_iload_n 1 dX11_finesOf_33 rfl rfl ?_
    refine rk_pc (pc' := 34) rfl ?_
    refine rk_iadd dX11_finesOf_34 ?_
    refine rk_icmp_ge 76 dX11_finesOf_35 (by decide) (fun qz35 => ?_) (fun qz35 => ?_)
    · skip
      exact absurd qz35 hlt
    · skip
      refine rk_iload_n 2 dX11_finesOf_38 rfl rfl ?_
      refine rk_aload_n 0 dX11_finesOf_39 rfl rfl ?_
      refine rk_iload_n 3 dX11_finesOf_40 rfl rfl ?_
      refine rk_iconst 5 dX11_finesOf_41 (by decide) ?_
      refine rk_cVp (cX11_orderAt_s k 5 rfl rfl hk (by decide)) rk_eX11_orderAt rfl ⟨rfl, rfl⟩ rk_kX11_109 dX11_finesOf_42 rfl (by decide) (Nat.le_of_ble_eq_true rfl) ⟨Nat.le_refl _, Nat.le_refl _⟩ ?_
      rw [h5]
      refine rk_pc (pc' := 45) rfl ?_
      refine rk_iload dX11_finesOf_45 rfl ?_
      refine rk_icmp_gt 67 dX11_finesOf_47 (by decide) (fun qz47 => ?_) (fun qz47 => ?_)
      · skip
        refine rk_iconst 0 dX11_finesOf_67 (by decide) ?_
        refine rk_iadd dX11_finesOf_68 ?_
        refine rk_istore_n 2 (ls' := [(2, _), (0, _), (1, _), (3, _), (4, _)]) dX11_finesOf_69 rfl (by decide) rfl ?_
        refine rk_iinc 1 (ls' := [(4, _), (2, _), (0, _), (1, _), (3, _)]) dX11_finesOf_70 (by decide) rfl (by decide) rfl ?_
        refine rk_goto 24 dX11_finesOf_73 (by decide) ?_
        refine rk_pc (pc' := 24) rfl ?_
        refine rk_ord [0, 1, 2, 3, 4] (ls' := [(0, _), (1, _), (2, _), (3, _), (4, _)]) rfl ?_
        rw [nI_1]
        first | (rw [e1 ((nI_leI (by omega) (by omega)).mp (Int32.not_lt.mp qz47))]; exact ih (d + 1) (by omega)) | (rw [e0 (fun z => Int32.not_le.mpr qz47 (nI_le z (by omega)))]; exact ih (d + 1) (by omega))
      · skip
        refine rk_aload_n 0 dX11_finesOf_50 rfl rfl ?_
        refine rk_g12_0 rk_kX11_7 dX11_finesOf_51 ?_
        refine rk_bipush 9 dX11_finesOf_54 (by decide) ?_
        refine rk_rn26 9 dX11_finesOf_56 rfl (by first | decide | assumption | omega) ?_
        refine rk_aload_n 0 dX11_finesOf_57 rfl rfl ?_
        refine rk_iload_n 3 dX11_finesOf_58 rfl rfl ?_
        refine rk_pc (pc' := 59) rfl ?_
        refine rk_iconst 3 dX11_finesOf_59 (by decide) ?_
        refine rk_cVp (cX11_orderAt_s k 3 rfl rfl hk (by decide)) rk_eX11_orderAt rfl ⟨rfl, rfl⟩ rk_kX11_109 dX11_finesOf_60 rfl (by decide) (Nat.le_of_ble_eq_true rfl) ⟨Nat.le_refl _, Nat.le_refl _⟩ ?_
        refine rk_imul dX11_finesOf_63 ?_
        rw [← hX]
        refine rk_goto 68 dX11_finesOf_64 (by decide) ?_
        refine rk_iadd dX11_finesOf_68 ?_
        refine rk_istore_n 2 (ls' := [(2, _), (0, _), (1, _), (3, _), (4, _)]) dX11_finesOf_69 rfl (by decide) rfl ?_
        refine rk_pc (pc' := 70) rfl ?_
        refine rk_iinc 1 (ls' := [(4, _), (2, _), (0, _), (1, _), (3, _)]) dX11_finesOf_70 (by decide) rfl (by decide) rfl ?_
        refine rk_goto 24 dX11_finesOf_73 (by decide) ?_
        refine rk_ord [0, 1, 2, 3, 4] (ls' := [(0, _), (1, _), (2, _), (3, _), (4, _)]) rfl ?_
        rw [nI_1]
        first | (rw [e1 ((nI_leI (by omega) (by omega)).mp (Int32.not_lt.mp qz47))]; exact ih (d + 1) (by omega)) | (rw [e0 (fun z => Int32.not_le.mpr qz47 (nI_le z (by omega)))]; exact ih (d + 1) (by omega))
theorem cX11_finesOf_s {m t dd c : Nat} {x : Int32} (hx : x = nI dd) (ht : t ≤ 3000) (hdd : dd ≤ 200) (hc : c ≤ 16) (h10 : I 26 (R 12 m 0) 10 = nI t) (h13 : I 26 (R 12 m 0) 13 = nI c) (hdue : ∀ o, o < c → ∃ du, du < 2 ^ 20 ∧ I 26 (R 12 m 0) (220 + 7 * o + 5) = nI du) : rk_P w l rk_mX11_finesOf 2 [rk_a 12 m, rk_i x] Sh I R (sp_fines (I 26 (R 12 m 0)) dd c) := by
  subst hx
  have hct : sp_c (I 26 (R 12 m 0)) 10 = t := sp_cN h10 (by omega)
  have outer : ∀ n k : Nat, ∀ z : Int32, k + n = c → rk_Wp w l rk_mX11_finesOf 2 0 0 (rk_GP w Sh I R (sp_fines (I 26 (R 12 m 0)) dd c)) 4 [(0, rk_a 12 m), (1, rk_i (nI dd)), (2, rk_i (sp_fines (I 26 (R 12 m 0)) dd k)), (3, rk_i (nI k))] [] (Sh, 0, 0) I R := by
    intro n
    induction n with
    | zero =>
      intro k z hk
      obtain rfl : k = c := by omega
      refine rk_iload_n 3 dX11_finesOf_4 rfl rfl ?_
      refine rk_aload_n 0 dX11_finesOf_5 rfl rfl ?_
      refine rk_g12_0 rk_kX11_7 dX11_finesOf_6 ?_
      refine rk_bipush 13 dX11_finesOf_9 (by decide) ?_
      refine rk_rn26 13 dX11_finesOf_11 rfl (by first | decide | assumption | omega) ?_
      rw [h13]
      refine rk_icmp_ge 82 dX11_finesOf_12 (by decide) (fun qz12 => ?_) (fun qz12 => ?_)
      · skip
        refine rk_iload_n 2 dX11_finesOf_82 rfl rfl ?_
        refine rk_pc (pc' := 83) rfl ?_
        refine rk_iretP dX11_finesOf_83 rfl rfl ?_
        rfl
      · skip
        exact absurd (nI_le (Nat.le_refl k) (by omega)) qz12
    | succ n ih =>
      intro k z hk
      have hlt : ¬ nI c ≤ nI k := nI_ge (by omega) (by omega)
      obtain ⟨du, hdu, h5⟩ := hdue k (by omega)
      have hcd : sp_c (I 26 (R 12 m 0)) (220 + 7 * k + 5) = du := sp_cN h5 (by omega)
      refine rk_iload_n 3 dX11_finesOf_4 rfl rfl ?_
      refine rk_aload_n 0 dX11_finesOf_5 rfl rfl ?_
      refine rk_g12_0 rk_kX11_7 dX11_finesOf_6 ?_
      refine rk_bipush 13 dX11_finesOf_9 (by decide) ?_
      refine rk_rn26 13 dX11_finesOf_11 rfl (by first | decide | assumption | omega) ?_
      rw [h13]
      refine rk_icmp_ge 82 dX11_finesOf_12 (by decide) (fun qz12 => ?_) (fun qz12 => ?_)
      · skip
        exact absurd qz12 hlt
      · skip
        refine rk_aload_n 0 dX11_finesOf_15 rfl rfl ?_
        refine rk_pc (pc' := 16) rfl ?_
        refine rk_g12_0 rk_kX11_7 dX11_finesOf_16 ?_
        refine rk_bipush 10 dX11_finesOf_19 (by decide) ?_
        refine rk_rn26 10 dX11_finesOf_21 rfl (by first | decide | assumption | omega) ?_
        rw [h10]
        refine rk_istore (ls' := [(4, _), (0, _), (1, _), (2, _), (3, _)]) dX11_finesOf_22 (by decide) rfl ?_
        refine rk_ord [0, 1, 2, 3, 4] (ls' := [(0, _), (1, _), (2, _), (3, _), (4, _)]) rfl ?_
        rw [show rk_i (sp_fines (I 26 (R 12 m 0)) dd k) = rk_i (sp_fines (I 26 (R 12 m 0)) dd k + I 26 (R 12 m 0) 9 * I 26 (R 12 m 0) (220 + 7 * k + 3) * nI (sp_late t 0 du)) by rw [show sp_late t 0 du = 0 by unfold sp_late; split <;> omega, rk_x0]]
        refine cX11_fines_in ht hdd (by omega) hdu h10 h5 rfl ?_ dd 0 (by omega)
        rw [show sp_fines (I 26 (R 12 m 0)) dd k + I 26 (R 12 m 0) 9 * I 26 (R 12 m 0) (220 + 7 * k + 3) * nI (sp_late t dd du) = sp_fines (I 26 (R 12 m 0)) dd (k + 1) by simp only [sp_fines, sp_sI, hct, hcd]]
        refine rk_iinc 1 (ls' := [(3, _), (0, _), (1, _), (2, _), (4, _)]) dX11_finesOf_76 (by decide) rfl (by decide) rfl ?_
        refine rk_goto 4 dX11_finesOf_79 (by decide) ?_
        refine rk_ord [0, 1, 2, 3] (ls' := [(0, _), (1, _), (2, _), (3, _)]) rfl ?_
        rw [nI_1]
        exact ih (k + 1) z (by omega)
  refine rk_bP (ls := [(0, _), (1, _)]) (by decide) rfl (Nat.le_of_ble_eq_true rfl) ?_
  refine rk_iconst 0 dX11_finesOf_0 (by decide) ?_
  refine rk_istore_n 2 (ls' := [(2, _), (0, _), (1, _)]) dX11_finesOf_1 rfl (by decide) rfl ?_
  refine rk_iconst 0 dX11_finesOf_2 (by decide) ?_
  refine rk_istore_n 3 (ls' := [(3, _), (2, _), (0, _), (1, _)]) dX11_finesOf_3 rfl (by decide) rfl ?_
  refine rk_ord [0, 1, 2, 3] (ls' := [(0, _), (1, _), (2, _), (3, _)]) rfl ?_
  exact outer c 0 0 (by omega)
noncomputable def sp_pass (N : Nat → Int32) (d : Int32) : sp_R := @ite _ (1 ≤ d ∧ d ≤ 60) (Classical.propDecidable _) (if N 10 + d ≤ 3000 then (N 10 + d, some (sp_u (sp_u (sp_u N 16 (N 16 + sp_fines N d.toNatClampNeg (sp_c N 13))) 10 (N 10 + d)) 11 0)) else (-5, none)) (-2, none)
theorem sp_fines_c {N M : Nat → Int32} {d c : Nat} (h9 : M 9 = N 9) (h10 : M 10 = N 10) (ho : ∀ j, 220 ≤ j → M j = N j) : sp_fines M d c = sp_fines N d c := by
  unfold sp_fines
  exact sp_sI_c (fun i _ => by rw [h9, ho _ (by omega)]; simp only [sp_c, h10, ho (220 + 7 * i + 5) (by omega)])
theorem cX11_pass_s {m u t c : Nat} (hu : I 12 m 3 = nI u) (hu6 : u ≤ 6) (ht : t ≤ 3000) (hc : c ≤ 16) (h10 : I 26 (R 12 m 0) 10 = nI t) (h13 : I 26 (R 12 m 0) 13 = nI c) (hdue : ∀ o, o < c → ∃ du, du < 2 ^ 20 ∧ I 26 (R 12 m 0) (220 + 7 * o + 5) = nI du) (x : Int32) : rk_J w l rk_mX11_pass 3 [rk_a 12 m, rk_i x] Sh I R (md_Q I R m (sp_pass (I 26 (R 12 m 0)) x)) := by
  have h26 : md_rec I R m 26 = I 26 := md_rec_c (by decide) (by decide)
  have hcc : sp_c (I 26 (R 12 m 0)) 13 = c := sp_cN h13 (by omega)
  refine rk_bJ (ls := [(0, _), (1, _)]) (by decide) rfl (Nat.le_of_ble_eq_true rfl) ?_
  refine rk_iload_n 1 dX11_pass_0 rfl rfl ?_
  refine rk_iconst 1 dX11_pass_1 (by decide) ?_
  refine rk_bipush 60 dX11_pass_2 (by decide) ?_
  refine rk_cSp (cX11_in_s _ _ _) rk_eX11_in rfl rk_kX11_43 dX11_pass_4 rfl (by decide) (Nat.le_of_ble_eq_true rfl) ⟨Nat.le_refl _, Nat.le_refl _⟩ ?_
  refine rk_if_ne 13 dX11_pass_7 (by decide) (fun qz7 => ?_) (fun qz7 => ?_)
  · skip
    obtain ⟨d, hd, rfl⟩ := rk_in_n (n := 60) rfl (by decide) ⟨Int32.le_trans (by decide) (sp_bt qz7).1, (sp_bt qz7).2⟩
    have hcl : (nI d).toNatClampNeg = d := nI_clamp (by omega)
    refine rk_aload_n 0 dX11_pass_13 rfl rfl ?_
    refine rk_g12_0 rk_kX11_7 dX11_pass_14 ?_
    refine rk_pc (pc' := 17) rfl ?_
    refine rk_bipush 10 dX11_pass_17 (by decide) ?_
    refine rk_rn26 10 dX11_pass_19 rfl (by first | decide | assumption | omega) ?_
    refine rk_iload_n 1 dX11_pass_20 rfl rfl ?_
    refine rk_iadd dX11_pass_21 ?_
    refine rk_sipush 3000 dX11_pass_22 (by decide) ?_
    refine rk_icmp_le 31 dX11_pass_25 (by decide) (fun qz25 => ?_) (fun qz25 => ?_)
    · skip
      refine rk_aload_n 0 dX11_pass_31 rfl rfl ?_
      refine rk_pc (pc' := 32) rfl ?_
      refine rk_cVv (cX11_record_s hu hu6) rk_eX11_record rfl ⟨rfl, rfl⟩ rk_kX11_54 dX11_pass_32 rfl (by decide) (Nat.le_of_ble_eq_true rfl) ⟨Nat.le_refl _, Nat.le_refl _⟩ (fun Iz1 Rz1 hz1 => ?_)
      obtain ⟨qhz1, eIz1⟩ := hz1
      obtain rfl := qhz1.symm
      have h26z : Iz1 26 = I 26 := by rw [eIz1, h26]
      refine rk_aload_n 0 dX11_pass_35 rfl rfl ?_
      refine rk_g12_0 rk_kX11_7 dX11_pass_36 ?_
      refine rk_bipush 16 dX11_pass_39 (by decide) ?_
      refine rk_dup2 dX11_pass_41 rfl rfl ?_
      refine rk_rn26 16 dX11_pass_42 rfl (by first | decide | assumption | omega) ?_
      rw [h26z]
      refine rk_pc (pc' := 43) rfl ?_
      refine rk_aload_n 0 dX11_pass_43 rfl rfl ?_
      refine rk_iload_n 1 dX11_pass_44 rfl rfl ?_
      refine rk_cVp (cX11_finesOf_s rfl ht (by omega) hc (by rw [h26z]; exact h10) (by rw [h26z]; exact h13) (by rw [h26z]; exact hdue)) rk_eX11_finesOf rfl ⟨rfl, rfl⟩ rk_kX11_127 dX11_pass_45 rfl (by decide) (Nat.le_of_ble_eq_true rfl) ⟨Nat.le_refl _, Nat.le_refl _⟩ ?_
      rw [h26z]
      refine rk_iadd dX11_pass_48 ?_
      refine rk_sn26 16 dX11_pass_49 rfl (by first | decide | assumption | omega) (fun Iz2 eIz2 => ?_)
      have sz2 := rk_ufs eIz2
      have nz2 := rk_ufn eIz2
      have pz2 := md_c1 eIz2
      refine rk_aload_n 0 dX11_pass_50 rfl rfl ?_
      refine rk_pc (pc' := 51) rfl ?_
      refine rk_g12_0 rk_kX11_7 dX11_pass_51 ?_
      refine rk_bipush 10 dX11_pass_54 (by decide) ?_
      refine rk_dup2 dX11_pass_56 rfl rfl ?_
      refine rk_rn26 10 dX11_pass_57 rfl (by first | decide | assumption | omega) ?_
      rw [nz2 (10) (by omega)]
      rw [h26z]
      refine rk_iload_n 1 dX11_pass_58 rfl rfl ?_
      refine rk_iadd dX11_pass_59 ?_
      refine rk_pc (pc' := 60) rfl ?_
      refine rk_sn26 10 dX11_pass_60 rfl (by first | decide | assumption | omega) (fun Iz3 eIz3 => ?_)
      have sz3 := rk_ufs eIz3
      have nz3 := rk_ufn eIz3
      have pz3 := md_ch pz2 eIz3
      refine rk_aload_n 0 dX11_pass_61 rfl rfl ?_
      refine rk_g12_0 rk_kX11_7 dX11_pass_62 ?_
      refine rk_bipush 11 dX11_pass_65 (by decide) ?_
      refine rk_iconst 0 dX11_pass_67 (by decide) ?_
      refine rk_sn26 11 dX11_pass_68 rfl (by first | decide | assumption | omega) (fun Iz4 eIz4 => ?_)
      have sz4 := rk_ufs eIz4
      have nz4 := rk_ufn eIz4
      have pz4 := md_ch pz3 eIz4
      refine rk_pc (pc' := 69) rfl ?_
      refine rk_aload_n 0 dX11_pass_69 rfl rfl ?_
      refine rk_g12_0 rk_kX11_7 dX11_pass_70 ?_
      refine rk_bipush 10 dX11_pass_73 (by decide) ?_
      refine rk_rn26 10 dX11_pass_75 rfl (by first | decide | assumption | omega) ?_
      rw [nz4 (10) (by omega), sz3]
      refine rk_iretJ dX11_pass_76 rfl rfl ?_
      rw [show sp_pass (I 26 (R 12 m 0)) (nI d) = (I 26 (R 12 m 0) 10 + nI d, some (sp_u (sp_u (sp_u (I 26 (R 12 m 0)) 16 (I 26 (R 12 m 0) 16 + sp_fines (I 26 (R 12 m 0)) d c)) 10 (I 26 (R 12 m 0) 10 + nI d)) 11 0)) from (if_pos (sp_bt qz7)).trans ((if_pos qz25).trans (by rw [hcl, hcc]))]
      exact ⟨rfl, rfl, by rw [pz4, eIz1, h26]; rfl⟩
    · skip
      refine rk_bipush (-5) dX11_pass_28 (by decide) ?_
      refine rk_iretJ dX11_pass_30 rfl rfl ?_
      rw [show sp_pass (I 26 (R 12 m 0)) (nI d) = (-5, none) from (if_pos (sp_bt qz7)).trans (if_neg qz25)]
      exact ⟨rfl, rfl, rfl⟩
  · skip
    refine rk_bipush (-2) dX11_pass_10 (by decide) ?_
    refine rk_pc (pc' := 12) rfl ?_
    refine rk_iretJ dX11_pass_12 rfl rfl ?_
    rw [show sp_pass (I 26 (R 12 m 0)) x = (-2, none) from if_neg (sp_bf qz7)]
    exact ⟨rfl, rfl, rfl⟩
noncomputable def sp_drop (N : Nat → Int32) (o : Int32) : sp_R := @ite _ (sp_isor N o) (Classical.propDecidable _) (N 9 * N (220 + 7 * o.toNatClampNeg + 3), some (sp_gone (sp_u N 16 (N 16 + N 9 * N (220 + 7 * o.toNatClampNeg + 3))) 13 220 o.toNatClampNeg)) (-1, none)
theorem cX11_drop_s {m u c : Nat} (hu : I 12 m 3 = nI u) (hu6 : u ≤ 6) (hc : c ≤ 16) (h13 : I 26 (R 12 m 0) 13 = nI c) (x : Int32) : rk_J w l rk_mX11_drop 3 [rk_a 12 m, rk_i x] Sh I R (md_Q I R m (sp_drop (I 26 (R 12 m 0)) x)) := by
  have h26 : md_rec I R m 26 = I 26 := md_rec_c (by decide) (by decide)
  refine rk_bJ (ls := [(0, _), (1, _)]) (by decide) rfl (Nat.le_of_ble_eq_true rfl) ?_
  refine rk_aload_n 0 dX11_drop_0 rfl rfl ?_
  refine rk_iload_n 1 dX11_drop_1 rfl rfl ?_
  refine rk_cVp (cX11_isOrder_s _) rk_eX11_isOrder rfl ⟨rfl, rfl⟩ rk_kX11_118 dX11_drop_2 rfl (by decide) (Nat.le_of_ble_eq_true rfl) ⟨Nat.le_refl _, Nat.le_refl _⟩ ?_
  refine rk_if_ne 10 dX11_drop_5 (by decide) (fun qz5 => ?_) (fun qz5 => ?_)
  · skip
    obtain ⟨o, ho, rfl⟩ := sp_is_n h13 (by omega) (sp_bt qz5)
    have hcl : (nI o).toNatClampNeg = o := nI_clamp (by omega)
    refine rk_aload_n 0 dX11_drop_10 rfl rfl ?_
    refine rk_cVv (cX11_record_s hu hu6) rk_eX11_record rfl ⟨rfl, rfl⟩ rk_kX11_54 dX11_drop_11 rfl (by decide) (Nat.le_of_ble_eq_true rfl) ⟨Nat.le_refl _, Nat.le_refl _⟩ (fun Iz1 Rz1 hz1 => ?_)
    obtain ⟨qhz1, eIz1⟩ := hz1
    obtain rfl := qhz1.symm
    have h26z : Iz1 26 = I 26 := by rw [eIz1, h26]
    refine rk_aload_n 0 dX11_drop_14 rfl rfl ?_
    refine rk_pc (pc' := 15) rfl ?_
    refine rk_g12_0 rk_kX11_7 dX11_drop_15 ?_
    refine rk_bipush 9 dX11_drop_18 (by decide) ?_
    refine rk_rn26 9 dX11_drop_20 rfl (by first | decide | assumption | omega) ?_
    rw [h26z]
    refine rk_aload_n 0 dX11_drop_21 rfl rfl ?_
    refine rk_iload_n 1 dX11_drop_22 rfl rfl ?_
    refine rk_iconst 3 dX11_drop_23 (by decide) ?_
    refine rk_pc (pc' := 24) rfl ?_
    refine rk_cVp (cX11_orderAt_s o 3 rfl rfl (by omega) (by decide)) rk_eX11_orderAt rfl ⟨rfl, rfl⟩ rk_kX11_109 dX11_drop_24 rfl (by decide) (Nat.le_of_ble_eq_true rfl) ⟨Nat.le_refl _, Nat.le_refl _⟩ ?_
    rw [h26z]
    refine rk_imul dX11_drop_27 ?_
    refine rk_istore_n 2 (ls' := [(2, _), (0, _), (1, _)]) dX11_drop_28 rfl (by decide) rfl ?_
    refine rk_aload_n 0 dX11_drop_29 rfl rfl ?_
    refine rk_g12_0 rk_kX11_7 dX11_drop_30 ?_
    refine rk_bipush 16 dX11_drop_33 (by decide) ?_
    refine rk_pc (pc' := 35) rfl ?_
    refine rk_dup2 dX11_drop_35 rfl rfl ?_
    refine rk_rn26 16 dX11_drop_36 rfl (by first | decide | assumption | omega) ?_
    rw [h26z]
    refine rk_iload_n 2 dX11_drop_37 rfl rfl ?_
    refine rk_iadd dX11_drop_38 ?_
    refine rk_sn26 16 dX11_drop_39 rfl (by first | decide | assumption | omega) (fun Iz2 eIz2 => ?_)
    have sz2 := rk_ufs eIz2
    have nz2 := rk_ufn eIz2
    have pz2 := md_c1 eIz2
    refine rk_aload_n 0 dX11_drop_40 rfl rfl ?_
    refine rk_pc (pc' := 41) rfl ?_
    refine rk_iload_n 1 dX11_drop_41 rfl rfl ?_
    refine rk_cVv (cX11_dropOrder_s rfl hc ho (by rw [nz2 (13) (by omega), h26z]; exact h13)) rk_eX11_dropOrder rfl ⟨rfl, rfl⟩ rk_kX11_124 dX11_drop_42 rfl (by decide) (Nat.le_of_ble_eq_true rfl) ⟨Nat.le_refl _, Nat.le_refl _⟩ (fun Iz3 Rz3 hz3 => ?_)
    obtain ⟨qhz3, eIz3⟩ := hz3
    obtain rfl := qhz3.symm
    refine rk_iload_n 2 dX11_drop_45 rfl rfl ?_
    refine rk_iretJ dX11_drop_46 rfl rfl ?_
    rw [show sp_drop (I 26 (R 12 m 0)) (nI o) = (I 26 (R 12 m 0) 9 * I 26 (R 12 m 0) (220 + 7 * o + 3), some (sp_gone (sp_u (I 26 (R 12 m 0)) 16 (I 26 (R 12 m 0) 16 + I 26 (R 12 m 0) 9 * I 26 (R 12 m 0) (220 + 7 * o + 3))) 13 220 o)) from (if_pos (sp_bt qz5)).trans (by rw [hcl])]
    refine ⟨rfl, rfl, ?_⟩
    rw [eIz3, pz2, eIz1, h26, md_aa, md_as]
    rfl
  · skip
    refine rk_iconst (-1) dX11_drop_8 (by decide) ?_
    refine rk_iretJ dX11_drop_9 rfl rfl ?_
    rw [show sp_drop (I 26 (R 12 m 0)) x = (-1, none) from if_neg (sp_bf qz5)]
    exact ⟨rfl, rfl, rfl⟩
end MF

