section MU
variable {w : rk_W} {l : Launch} {Sh : rk_Sh} {I : rk_Mm} {R : rk_Rm}
def md_undo (I : rk_Mm) (R : rk_Rm) (m : Nat) : Nat → rk_Mm
  | 0 => I
  | u + 1 => md_a (rk_uI I 12 m 3 (nI u)) 26 (R 12 m 0) (sp_cp (I 26 (R 12 m 0)) (I 28 (R 12 m 2)) 0 (u * 340) 340)
theorem md_uf {m j k : Nat} {v : Int32} (h : ¬ k = j) : rk_uI I 12 m j v 12 m k = I 12 m k := by rw [md_u1, md_as, sp_un h]
theorem cX11_undo_s {m u : Nat} (hu : I 12 m 3 = nI u) (hu6 : u ≤ 6) : rk_J w l rk_mX11_undo 1 [rk_a 12 m] Sh I R (fun r I' R' => r = (if u = 0 then -5 else nI (u - 1)) ∧ R' = R ∧ I' = md_undo I R m u) := by
  refine rk_bJ (ls := [(0, _)]) (by decide) rfl (Nat.le_of_ble_eq_true rfl) ?_
  cases u with
  | zero =>
    refine rk_aload_n 0 dX11_undo_0 rfl rfl ?_
    refine rk_g12_3 rk_kX11_39 dX11_undo_1 ?_
    rw [hu]
    refine rk_if_ne 10 dX11_undo_4 (by decide) (fun qz4 => ?_) (fun qz4 => ?_)
    · skip
      exact absurd rfl qz4
    · skip
      refine rk_bipush (-5) dX11_undo_7 (by decide) ?_
      refine rk_iretJ dX11_undo_9 rfl rfl ?_
      exact ⟨rfl, rfl, rfl⟩
  | succ u =>
    refine rk_aload_n 0 dX11_undo_0 rfl rfl ?_
    refine rk_g12_3 rk_kX11_39 dX11_undo_1 ?_
    rw [hu]
    refine rk_if_ne 10 dX11_undo_4 (by decide) (fun qz4 => ?_) (fun qz4 => ?_)
    · skip
      refine rk_aload_n 0 dX11_undo_10 rfl rfl ?_
      refine rk_dup dX11_undo_11 rfl ?_
      refine rk_g12_3 rk_kX11_39 dX11_undo_12 ?_
      rw [hu]
      refine rk_iconst 1 dX11_undo_15 (by decide) ?_
      refine rk_pc (pc' := 16) rfl ?_
      refine rk_isub dX11_undo_16 ?_
      rw [nI_pred]
      refine rk_p12_3 rk_kX11_39 dX11_undo_17 (fun Iz1 eIz1 => ?_)
      refine rk_iconst 0 dX11_undo_20 (by decide) ?_
      refine rk_istore_n 1 (ls' := [(1, _), (0, _)]) dX11_undo_21 rfl (by decide) rfl ?_
      refine rk_ord [0, 1] (ls' := [(0, _), (1, _)]) rfl ?_
      have h3 : Iz1 12 m 3 = nI u := by rw [eIz1, md_u1, md_as, sp_us]
      refine cX11_undo_l h3 (by omega) ?_ 340 0 Iz1 (by decide) (by rw [sp_cp0, md_self])
      intro J hJ
      refine rk_aload_n 0 dX11_undo_56 rfl rfl ?_
      refine rk_g12_3 rk_kX11_39 dX11_undo_57 ?_
      rw [show J 12 m 3 = nI u by rw [hJ, md_ac (by decide), h3]]
      refine rk_iretJ dX11_undo_60 rfl rfl ?_
      have e26 : Iz1 26 (R 12 m 0) = I 26 (R 12 m 0) := by rw [eIz1]; exact md_uc (by decide)
      have e28 : Iz1 28 (R 12 m 2) = I 28 (R 12 m 2) := by rw [eIz1]; exact md_uc (by decide)
      exact ⟨by rw [if_neg (by omega)]; rfl, rfl, by rw [hJ, e26, e28, eIz1]; rfl⟩
    · skip
      exact absurd qz4 (nI_ne0 (by omega) (by omega))
theorem cX11_save_s {m : Nat} (x : Int32) : rk_J w l rk_mX11_save 2 [rk_a 12 m, rk_i x] Sh I R (fun r I' R' => R' = R ∧ ((¬ (0 ≤ x ∧ x ≤ 1) ∧ r = -2 ∧ I' = I) ∨ ∃ b, b < 2 ∧ x = nI b ∧ r = I 26 (R 12 m 0) 10 ∧ I' = rk_uI (md_a I 29 (R 12 m 4) (sp_cp (I 29 (R 12 m 4)) (I 26 (R 12 m 0)) (b * 340) 0 340)) 30 (R 12 m 5) b 1)) := by
  refine rk_bJ (ls := [(0, _), (1, _)]) (by decide) rfl (Nat.le_of_ble_eq_true rfl) ?_
  refine rk_iload_n 1 dX11_save_0 rfl rfl ?_
  refine rk_iconst 0 dX11_save_1 (by decide) ?_
  refine rk_iconst 1 dX11_save_2 (by decide) ?_
  refine rk_cSp (cX11_in_s _ _ _) rk_eX11_in rfl rk_kX11_43 dX11_save_3 rfl (by decide) (Nat.le_of_ble_eq_true rfl) ⟨Nat.le_refl _, Nat.le_refl _⟩ ?_
  refine rk_if_ne 12 dX11_save_6 (by decide) (fun qz6 => ?_) (fun qz6 => ?_)
  · skip
    obtain ⟨b, hb, rfl⟩ := rk_in_n (n := 1) rfl (by decide) (sp_bt qz6)
    refine rk_iconst 0 dX11_save_12 (by decide) ?_
    refine rk_istore_n 2 (ls' := [(2, _), (0, _), (1, _)]) dX11_save_13 rfl (by decide) rfl ?_
    refine rk_pc (pc' := 14) rfl ?_
    refine rk_ord [0, 1, 2] (ls' := [(0, _), (1, _), (2, _)]) rfl ?_
    refine cX11_save_l (b := b) (by omega) ?_ 340 0 I (by decide) (by rw [sp_cp0, md_self])
    intro J hJ
    refine rk_aload_n 0 dX11_save_45 rfl rfl ?_
    refine rk_g12_5 rk_kX11_22 dX11_save_46 ?_
    refine rk_iload_n 1 dX11_save_49 rfl rfl ?_
    refine rk_iconst 1 dX11_save_50 (by decide) ?_
    refine rk_sn30 b dX11_save_51 rfl (by omega) (fun Iz1 eIz1 => ?_)
    refine rk_aload_n 0 dX11_save_52 rfl rfl ?_
    refine rk_g12_0 rk_kX11_7 dX11_save_53 ?_
    refine rk_bipush 10 dX11_save_56 (by decide) ?_
    refine rk_rn26 10 dX11_save_58 rfl (by decide) ?_
    refine rk_iretJ dX11_save_59 rfl rfl ?_
    exact ⟨rfl, Or.inr ⟨b, by omega, rfl, by rw [eIz1, md_uc (by decide), hJ, md_ac (by decide)], by rw [eIz1, hJ]; rfl⟩⟩
  · skip
    refine rk_bipush (-2) dX11_save_9 (by decide) ?_
    refine rk_iretJ dX11_save_11 rfl rfl ?_
    exact ⟨rfl, Or.inl ⟨sp_bf qz6, rfl, rfl⟩⟩
theorem cX11_restore_s {m u : Nat} (hu : I 12 m 3 = nI u) (hu6 : u ≤ 6) (x : Int32) : rk_J w l rk_mX11_restore 3 [rk_a 12 m, rk_i x] Sh I R (fun r I' R' => R' = R ∧ ((¬ (0 ≤ x ∧ x ≤ 1) ∧ r = -2 ∧ I' = I) ∨ ∃ b, b < 2 ∧ x = nI b ∧ ((I 30 (R 12 m 5) b = 0 ∧ r = -5 ∧ I' = I) ∨ (¬ I 30 (R 12 m 5) b = 0 ∧ r = I' 26 (R 12 m 0) 10 ∧ I' = md_a (md_rec I R m) 26 (R 12 m 0) (sp_cp (I 26 (R 12 m 0)) (I 29 (R 12 m 4)) 0 (b * 340) 340))))) := by
  refine rk_bJ (ls := [(0, _), (1, _)]) (by decide) rfl (Nat.le_of_ble_eq_true rfl) ?_
  refine rk_iload_n 1 dX11_restore_0 rfl rfl ?_
  refine rk_iconst 0 dX11_restore_1 (by decide) ?_
  refine rk_iconst 1 dX11_restore_2 (by decide) ?_
  refine rk_cSp (cX11_in_s _ _ _) rk_eX11_in rfl rk_kX11_43 dX11_restore_3 rfl (by decide) (Nat.le_of_ble_eq_true rfl) ⟨Nat.le_refl _, Nat.le_refl _⟩ ?_
  refine rk_if_ne 12 dX11_restore_6 (by decide) (fun qz6 => ?_) (fun qz6 => ?_)
  · skip
    obtain ⟨b, hb, rfl⟩ := rk_in_n (n := 1) rfl (by decide) (sp_bt qz6)
    refine rk_aload_n 0 dX11_restore_12 rfl rfl ?_
    refine rk_g12_5 rk_kX11_22 dX11_restore_13 ?_
    refine rk_pc (pc' := 16) rfl ?_
    refine rk_iload_n 1 dX11_restore_16 rfl rfl ?_
    refine rk_rn30 (b) dX11_restore_17 (by first | rfl | decide | assumption | (simp only [rk_lit, nI_add, pk_mul, nI_1]; done) | (simp only [rk_lit, nI_add, pk_mul, nI_1]; congr 1; omega)) (by first | decide | assumption | omega) ?_
    refine rk_if_ne 24 dX11_restore_18 (by decide) (fun qz18 => ?_) (fun qz18 => ?_)
    · skip
      refine rk_aload_n 0 dX11_restore_24 rfl rfl ?_
      refine rk_cVv (cX11_record_s hu hu6) rk_eX11_record rfl ⟨rfl, rfl⟩ rk_kX11_54 dX11_restore_25 rfl (by decide) (Nat.le_of_ble_eq_true rfl) ⟨Nat.le_refl _, Nat.le_refl _⟩ (fun Iz1 Rz1 hz1 => ?_)
      obtain ⟨qhz1, eIz1⟩ := hz1
      obtain rfl := qhz1.symm
      have e26 : Iz1 26 = I 26 := by rw [eIz1]; exact md_rec_c (by decide) (by decide)
      have e29 : Iz1 29 = I 29 := by rw [eIz1]; exact md_rec_c (by decide) (by decide)
      refine rk_iconst 0 dX11_restore_28 (by decide) ?_
      refine rk_istore_n 2 (ls' := [(2, _), (0, _), (1, _)]) dX11_restore_29 rfl (by decide) rfl ?_
      refine rk_pc (pc' := 30) rfl ?_
      refine rk_ord [0, 1, 2] (ls' := [(0, _), (1, _), (2, _)]) rfl ?_
      refine cX11_restore_l (b := b) (by omega) ?_ 340 0 Iz1 (by decide) (by rw [sp_cp0, md_self])
      intro J hJ
      refine rk_aload_n 0 dX11_restore_61 rfl rfl ?_
      refine rk_g12_0 rk_kX11_7 dX11_restore_62 ?_
      refine rk_bipush 10 dX11_restore_65 (by decide) ?_
      refine rk_rn26 10 dX11_restore_67 rfl (by decide) ?_
      refine rk_iretJ dX11_restore_68 rfl rfl ?_
      exact ⟨rfl, Or.inr ⟨b, by omega, rfl, Or.inr ⟨qz18, rfl, by rw [hJ, e26, e29, eIz1]⟩⟩⟩
    · skip
      refine rk_bipush (-5) dX11_restore_21 (by decide) ?_
      refine rk_iretJ dX11_restore_23 rfl rfl ?_
      exact ⟨rfl, Or.inr ⟨b, by omega, rfl, Or.inl ⟨qz18, rfl, rfl⟩⟩⟩
  · skip
    refine rk_bipush (-2) dX11_restore_9 (by decide) ?_
    refine rk_iretJ dX11_restore_11 rfl rfl ?_
    exact ⟨rfl, Or.inl ⟨sp_bf qz6, rfl, rfl⟩⟩
theorem cX11_wipe_s {m : Nat} : rk_J w l rk_mX11_wipe 1 [rk_a 12 m] Sh I R (fun r I' R' => r = I 12 m 7 ∧ R' = R ∧ I' = rk_uI I 12 m 7 0) := by
  refine rk_bJ (ls := [(0, _)]) (by decide) rfl (Nat.le_of_ble_eq_true rfl) ?_
  refine rk_aload_n 0 dX11_wipe_0 rfl rfl ?_
  refine rk_g12_7 rk_kX11_133 dX11_wipe_1 ?_
  refine rk_istore_n 1 (ls' := [(1, _), (0, _)]) dX11_wipe_4 rfl (by decide) rfl ?_
  refine rk_aload_n 0 dX11_wipe_5 rfl rfl ?_
  refine rk_iconst 0 dX11_wipe_6 (by decide) ?_
  refine rk_p12_7 rk_kX11_133 dX11_wipe_7 (fun Iz1 eIz1 => ?_)
  refine rk_pc (pc' := 10) rfl ?_
  refine rk_iload_n 1 dX11_wipe_10 rfl rfl ?_
  refine rk_iretJ dX11_wipe_11 rfl rfl ?_
  exact ⟨rfl, rfl, eIz1⟩
end MU

