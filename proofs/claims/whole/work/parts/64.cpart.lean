section CT
variable {w : rk_W} {l : Launch} {Sh : rk_Sh} {I : rk_Mm} {R : rk_Rm}
/-- what a read of one part does: the place, how many numbers, the part; whether it stood there, the place then, the number (if any) -/
def cx_dig (I : rk_Mm) (R : rk_Rm) (r L t fd : Nat) (lo hi x : Int32) (I' : rk_Mm) : Prop := ((lo ≤ pg (I 15 (R 4 (R 6 r 0) 0)) L t ∧ pg (I 15 (R 4 (R 6 r 0) 0)) L t ≤ hi) ∧ x = 1 ∧ I' = rk_uI (rk_uI (rk_uI I 16 (R 6 r 3) fd (pg (I 15 (R 4 (R 6 r 0) 0)) L t - 48)) 6 r 4 (nI (fd + 1))) 6 r 1 (nI (t + 1))) ∨ (¬ (lo ≤ pg (I 15 (R 4 (R 6 r 0) 0)) L t ∧ pg (I 15 (R 4 (R 6 r 0) 0)) L t ≤ hi) ∧ x = 0 ∧ I' = I)
theorem cX5_readPart_F {r t L fd : Nat} (h1 : I 6 r 1 = nI t) (hl : I 4 (R 6 r 0) 1 = nI L) (ht : t ≤ L) (hL : L ≤ 80) (h4 : I 6 r 4 = nI fd) (hf : fd ≤ 3) : rk_J w l rk_mX5_readPart 4 [rk_a 6 r, rk_i 70] Sh I R (fun x I' R' => R' = R ∧ cx_dig I R r L t fd 48 50 x I') := by
  refine rk_bJ (ls := [(0, _), (1, _)]) (by decide) rfl (Nat.le_of_ble_eq_true rfl) ?_
  refine rk_iload_n 1 dX5_readPart_0 rfl rfl ?_
  refine rk_lsw 59 dX5_readPart_1 (by decide) (by decide) (by decide) ?_ (fun qz1 => ?_)
  · refine ⟨fun qz1 => ?_, fun qz1 => ?_, fun qz1 => ?_, trivial⟩
    · skip
      refine rk_pc (pc' := 36) (by decide) ?_
      refine rk_aload_n 0 dX5_readPart_36 rfl rfl ?_
      refine rk_bipush 48 dX5_readPart_37 (by decide) ?_
      refine rk_bipush 50 dX5_readPart_39 (by decide) ?_
      refine rk_cVi (cX5_readDigit_s h1 hl ht hL h4 hf _ _) rk_eX5_readDigit rfl ⟨rfl, rfl⟩ rk_kX5_82 dX5_readPart_41 rfl (by decide) (Nat.le_of_ble_eq_true rfl) ⟨Nat.le_refl _, Nat.le_refl _⟩ (fun xz1 Iz1 Rz1 hz1 => ?_)
      refine rk_iretJ dX5_readPart_44 rfl (by exact rk_nz (by rcases hz1.2 with ⟨_, h, _⟩ | ⟨_, h, _⟩ <;> first | exact Or.inl h | exact Or.inr h | (next g => exact Or.inr g.2.1) | (rename_i g; exact Or.inr g.2.1))) ?_
      first | exact absurd qz1 (by decide) | exact hz1
    · skip
      refine rk_pc (pc' := 54) (by decide) ?_
      refine rk_aload_n 0 dX5_readPart_54 rfl rfl ?_
      refine rk_pc (pc' := 55) rfl ?_
      refine rk_cVi (cX5_readNumber_s h1 hl ht hL h4 hf) rk_eX5_readNumber rfl ⟨rfl, rfl⟩ rk_kX5_86 dX5_readPart_55 rfl (by decide) (Nat.le_of_ble_eq_true rfl) ⟨Nat.le_refl _, Nat.le_refl _⟩ (fun xz1 Iz1 Rz1 hz1 => ?_)
      refine rk_iretJ dX5_readPart_58 rfl (by exact rk_nz (by rcases hz1.2 with ⟨_, h, _⟩ | ⟨_, h, _⟩ <;> first | exact Or.inl h | exact Or.inr h | (next g => exact Or.inr g.2.1) | (rename_i g; exact Or.inr g.2.1))) ?_
      first | exact absurd qz1 (by decide) | exact hz1
    · skip
      refine rk_pc (pc' := 45) (by decide) ?_
      refine rk_aload_n 0 dX5_readPart_45 rfl rfl ?_
      refine rk_bipush 51 dX5_readPart_46 (by decide) ?_
      refine rk_bipush 52 dX5_readPart_48 (by decide) ?_
      refine rk_cVi (cX5_readDigit_s h1 hl ht hL h4 hf _ _) rk_eX5_readDigit rfl ⟨rfl, rfl⟩ rk_kX5_82 dX5_readPart_50 rfl (by decide) (Nat.le_of_ble_eq_true rfl) ⟨Nat.le_refl _, Nat.le_refl _⟩ (fun xz1 Iz1 Rz1 hz1 => ?_)
      refine rk_iretJ dX5_readPart_53 rfl (by exact rk_nz (by rcases hz1.2 with ⟨_, h, _⟩ | ⟨_, h, _⟩ <;> first | exact Or.inl h | exact Or.inr h | (next g => exact Or.inr g.2.1) | (rename_i g; exact Or.inr g.2.1))) ?_
      first | exact absurd qz1 (by decide) | exact hz1
  · skip
    refine rk_aload_n 0 dX5_readPart_59 rfl rfl ?_
    refine rk_pc (pc' := 60) rfl ?_
    refine rk_iload_n 1 dX5_readPart_60 rfl rfl ?_
    refine rk_cVi (cX5_readSign_s h1 hl ht hL _) rk_eX5_readSign rfl ⟨rfl, rfl⟩ rk_kX5_36 dX5_readPart_61 rfl (by decide) (Nat.le_of_ble_eq_true rfl) ⟨Nat.le_refl _, Nat.le_refl _⟩ (fun xz1 Iz1 Rz1 hz1 => ?_)
    refine rk_iretJ dX5_readPart_64 rfl (by exact rk_nz (by rcases hz1.2 with ⟨_, h, _⟩ | ⟨_, h, _⟩ <;> first | exact Or.inl h | exact Or.inr h | (next g => exact Or.inr g.2.1) | (rename_i g; exact Or.inr g.2.1))) ?_
    first | exact absurd qz1 (by decide) | exact hz1
theorem cX5_readPart_S {r t L fd : Nat} (h1 : I 6 r 1 = nI t) (hl : I 4 (R 6 r 0) 1 = nI L) (ht : t ≤ L) (hL : L ≤ 80) (h4 : I 6 r 4 = nI fd) (hf : fd ≤ 3) : rk_J w l rk_mX5_readPart 4 [rk_a 6 r, rk_i 83] Sh I R (fun x I' R' => R' = R ∧ cx_dig I R r L t fd 51 52 x I') := by
  refine rk_bJ (ls := [(0, _), (1, _)]) (by decide) rfl (Nat.le_of_ble_eq_true rfl) ?_
  refine rk_iload_n 1 dX5_readPart_0 rfl rfl ?_
  refine rk_lsw 59 dX5_readPart_1 (by decide) (by decide) (by decide) ?_ (fun qz1 => ?_)
  · refine ⟨fun qz1 => ?_, fun qz1 => ?_, fun qz1 => ?_, trivial⟩
    · skip
      refine rk_pc (pc' := 36) (by decide) ?_
      refine rk_aload_n 0 dX5_readPart_36 rfl rfl ?_
      refine rk_bipush 48 dX5_readPart_37 (by decide) ?_
      refine rk_bipush 50 dX5_readPart_39 (by decide) ?_
      refine rk_cVi (cX5_readDigit_s h1 hl ht hL h4 hf _ _) rk_eX5_readDigit rfl ⟨rfl, rfl⟩ rk_kX5_82 dX5_readPart_41 rfl (by decide) (Nat.le_of_ble_eq_true rfl) ⟨Nat.le_refl _, Nat.le_refl _⟩ (fun xz1 Iz1 Rz1 hz1 => ?_)
      refine rk_iretJ dX5_readPart_44 rfl (by exact rk_nz (by rcases hz1.2 with ⟨_, h, _⟩ | ⟨_, h, _⟩ <;> first | exact Or.inl h | exact Or.inr h | (next g => exact Or.inr g.2.1) | (rename_i g; exact Or.inr g.2.1))) ?_
      first | exact absurd qz1 (by decide) | exact hz1
    · skip
      refine rk_pc (pc' := 54) (by decide) ?_
      refine rk_aload_n 0 dX5_readPart_54 rfl rfl ?_
      refine rk_pc (pc' := 55) rfl ?_
      refine rk_cVi (cX5_readNumber_s h1 hl ht hL h4 hf) rk_eX5_readNumber rfl ⟨rfl, rfl⟩ rk_kX5_86 dX5_readPart_55 rfl (by decide) (Nat.le_of_ble_eq_true rfl) ⟨Nat.le_refl _, Nat.le_refl _⟩ (fun xz1 Iz1 Rz1 hz1 => ?_)
      refine rk_iretJ dX5_readPart_58 rfl (by exact rk_nz (by rcases hz1.2 with ⟨_, h, _⟩ | ⟨_, h, _⟩ <;> first | exact Or.inl h | exact Or.inr h | (next g => exact Or.inr g.2.1) | (rename_i g; exact Or.inr g.2.1))) ?_
      first | exact absurd qz1 (by decide) | exact hz1
    · skip
      refine rk_pc (pc' := 45) (by decide) ?_
      refine rk_aload_n 0 dX5_readPart_45 rfl rfl ?_
      refine rk_bipush 51 dX5_readPart_46 (by decide) ?_
      refine rk_bipush 52 dX5_readPart_48 (by decide) ?_
      refine rk_cVi (cX5_readDigit_s h1 hl ht hL h4 hf _ _) rk_eX5_readDigit rfl ⟨rfl, rfl⟩ rk_kX5_82 dX5_readPart_50 rfl (by decide) (Nat.le_of_ble_eq_true rfl) ⟨Nat.le_refl _, Nat.le_refl _⟩ (fun xz1 Iz1 Rz1 hz1 => ?_)
      refine rk_iretJ dX5_readPart_53 rfl (by exact rk_nz (by rcases hz1.2 with ⟨_, h, _⟩ | ⟨_, h, _⟩ <;> first | exact Or.inl h | exact Or.inr h | (next g => exact Or.inr g.2.1) | (rename_i g; exact Or.inr g.2.1))) ?_
      first | exact absurd qz1 (by decide) | exact hz1
  · skip
    refine rk_aload_n 0 dX5_readPart_59 rfl rfl ?_
    refine rk_pc (pc' := 60) rfl ?_
    refine rk_iload_n 1 dX5_readPart_60 rfl rfl ?_
    refine rk_cVi (cX5_readSign_s h1 hl ht hL _) rk_eX5_readSign rfl ⟨rfl, rfl⟩ rk_kX5_36 dX5_readPart_61 rfl (by decide) (Nat.le_of_ble_eq_true rfl) ⟨Nat.le_refl _, Nat.le_refl _⟩ (fun xz1 Iz1 Rz1 hz1 => ?_)
    refine rk_iretJ dX5_readPart_64 rfl (by exact rk_nz (by rcases hz1.2 with ⟨_, h, _⟩ | ⟨_, h, _⟩ <;> first | exact Or.inl h | exact Or.inr h | (next g => exact Or.inr g.2.1) | (rename_i g; exact Or.inr g.2.1))) ?_
    first | exact absurd qz1 (by decide) | exact hz1
theorem cX5_readPart_N {r t L fd : Nat} (h1 : I 6 r 1 = nI t) (hl : I 4 (R 6 r 0) 1 = nI L) (ht : t ≤ L) (hL : L ≤ 80) (h4 : I 6 r 4 = nI fd) (hf : fd ≤ 3) : rk_J w l rk_mX5_readPart 4 [rk_a 6 r, rk_i 78] Sh I R (fun x I' R' => R' = R ∧ ((¬ (48 ≤ pg (I 15 (R 4 (R 6 r 0) 0)) L t ∧ pg (I 15 (R 4 (R 6 r 0) 0)) L t ≤ 57) ∧ x = 0 ∧ I' = I) ∨ ∃ d, d ≤ 9 ∧ pg (I 15 (R 4 (R 6 r 0) 0)) L t = nI (48 + d) ∧ x = 1 ∧ I' = rk_uI (rk_uI (rk_uI I 6 r 1 (nI (pl (I 15 (R 4 (R 6 r 0) 0)) L 4 (t + 1) d).1)) 16 (R 6 r 3) fd (nI (pl (I 15 (R 4 (R 6 r 0) 0)) L 4 (t + 1) d).2)) 6 r 4 (nI (fd + 1)))) := by
  refine rk_bJ (ls := [(0, _), (1, _)]) (by decide) rfl (Nat.le_of_ble_eq_true rfl) ?_
  refine rk_iload_n 1 dX5_readPart_0 rfl rfl ?_
  refine rk_lsw 59 dX5_readPart_1 (by decide) (by decide) (by decide) ?_ (fun qz1 => ?_)
  · refine ⟨fun qz1 => ?_, fun qz1 => ?_, fun qz1 => ?_, trivial⟩
    · skip
      refine rk_pc (pc' := 36) (by decide) ?_
      refine rk_aload_n 0 dX5_readPart_36 rfl rfl ?_
      refine rk_bipush 48 dX5_readPart_37 (by decide) ?_
      refine rk_bipush 50 dX5_readPart_39 (by decide) ?_
      refine rk_cVi (cX5_readDigit_s h1 hl ht hL h4 hf _ _) rk_eX5_readDigit rfl ⟨rfl, rfl⟩ rk_kX5_82 dX5_readPart_41 rfl (by decide) (Nat.le_of_ble_eq_true rfl) ⟨Nat.le_refl _, Nat.le_refl _⟩ (fun xz1 Iz1 Rz1 hz1 => ?_)
      refine rk_iretJ dX5_readPart_44 rfl (by exact rk_nz (by rcases hz1.2 with ⟨_, h, _⟩ | ⟨_, h, _⟩ <;> first | exact Or.inl h | exact Or.inr h | (next g => exact Or.inr g.2.1) | (rename_i g; exact Or.inr g.2.1))) ?_
      first | exact absurd qz1 (by decide) | exact hz1
    · skip
      refine rk_pc (pc' := 54) (by decide) ?_
      refine rk_aload_n 0 dX5_readPart_54 rfl rfl ?_
      refine rk_pc (pc' := 55) rfl ?_
      refine rk_cVi (cX5_readNumber_s h1 hl ht hL h4 hf) rk_eX5_readNumber rfl ⟨rfl, rfl⟩ rk_kX5_86 dX5_readPart_55 rfl (by decide) (Nat.le_of_ble_eq_true rfl) ⟨Nat.le_refl _, Nat.le_refl _⟩ (fun xz1 Iz1 Rz1 hz1 => ?_)
      refine rk_iretJ dX5_readPart_58 rfl (by exact rk_nz (by rcases hz1.2 with ⟨_, h, _⟩ | ⟨_, h, _⟩ <;> first | exact Or.inl h | exact Or.inr h | (next g => exact Or.inr g.2.1) | (rename_i g; exact Or.inr g.2.1))) ?_
      first | exact absurd qz1 (by decide) | exact hz1
    · skip
      refine rk_pc (pc' := 45) (by decide) ?_
      refine rk_aload_n 0 dX5_readPart_45 rfl rfl ?_
      refine rk_bipush 51 dX5_readPart_46 (by decide) ?_
      refine rk_bipush 52 dX5_readPart_48 (by decide) ?_
      refine rk_cVi (cX5_readDigit_s h1 hl ht hL h4 hf _ _) rk_eX5_readDigit rfl ⟨rfl, rfl⟩ rk_kX5_82 dX5_readPart_50 rfl (by decide) (Nat.le_of_ble_eq_true rfl) ⟨Nat.le_refl _, Nat.le_refl _⟩ (fun xz1 Iz1 Rz1 hz1 => ?_)
      refine rk_iretJ dX5_readPart_53 rfl (by exact rk_nz (by rcases hz1.2 with ⟨_, h, _⟩ | ⟨_, h, _⟩ <;> first | exact Or.inl h | exact Or.inr h | (next g => exact Or.inr g.2.1) | (rename_i g; exact Or.inr g.2.1))) ?_
      first | exact absurd qz1 (by decide) | exact hz1
  · skip
    refine rk_aload_n 0 dX5_readPart_59 rfl rfl ?_
    refine rk_pc (pc' := 60) rfl ?_
    refine rk_iload_n 1 dX5_readPart_60 rfl rfl ?_
    refine rk_cVi (cX5_readSign_s h1 hl ht hL _) rk_eX5_readSign rfl ⟨rfl, rfl⟩ rk_kX5_36 dX5_readPart_61 rfl (by decide) (Nat.le_of_ble_eq_true rfl) ⟨Nat.le_refl _, Nat.le_refl _⟩ (fun xz1 Iz1 Rz1 hz1 => ?_)
    refine rk_iretJ dX5_readPart_64 rfl (by exact rk_nz (by rcases hz1.2 with ⟨_, h, _⟩ | ⟨_, h, _⟩ <;> first | exact Or.inl h | exact Or.inr h | (next g => exact Or.inr g.2.1) | (rename_i g; exact Or.inr g.2.1))) ?_
    first | exact absurd qz1 (by decide) | exact hz1
theorem cX5_readPart_c {r t L fd : Nat} (h1 : I 6 r 1 = nI t) (hl : I 4 (R 6 r 0) 1 = nI L) (ht : t ≤ L) (hL : L ≤ 80) (h4 : I 6 r 4 = nI fd) (hf : fd ≤ 3) (c : Int32) (hc : c.toInt ≠ 70 ∧ c.toInt ≠ 78 ∧ c.toInt ≠ 83) : rk_J w l rk_mX5_readPart 4 [rk_a 6 r, rk_i c] Sh I R (fun x I' R' => R' = R ∧ ((pg (I 15 (R 4 (R 6 r 0) 0)) L t = c ∧ x = 1 ∧ I' = rk_uI I 6 r 1 (nI (t + 1))) ∨ (¬ pg (I 15 (R 4 (R 6 r 0) 0)) L t = c ∧ x = 0 ∧ I' = I))) := by
  refine rk_bJ (ls := [(0, _), (1, _)]) (by decide) rfl (Nat.le_of_ble_eq_true rfl) ?_
  refine rk_iload_n 1 dX5_readPart_0 rfl rfl ?_
  refine rk_lsw 59 dX5_readPart_1 (by decide) (by decide) (by decide) ?_ (fun qz1 => ?_)
  · refine ⟨fun qz1 => ?_, fun qz1 => ?_, fun qz1 => ?_, trivial⟩
    · skip
      refine rk_pc (pc' := 36) (by decide) ?_
      refine rk_aload_n 0 dX5_readPart_36 rfl rfl ?_
      refine rk_bipush 48 dX5_readPart_37 (by decide) ?_
      refine rk_bipush 50 dX5_readPart_39 (by decide) ?_
      refine rk_cVi (cX5_readDigit_s h1 hl ht hL h4 hf _ _) rk_eX5_readDigit rfl ⟨rfl, rfl⟩ rk_kX5_82 dX5_readPart_41 rfl (by decide) (Nat.le_of_ble_eq_true rfl) ⟨Nat.le_refl _, Nat.le_refl _⟩ (fun xz1 Iz1 Rz1 hz1 => ?_)
      refine rk_iretJ dX5_readPart_44 rfl (by exact rk_nz (by rcases hz1.2 with ⟨_, h, _⟩ | ⟨_, h, _⟩ <;> first | exact Or.inl h | exact Or.inr h | (next g => exact Or.inr g.2.1) | (rename_i g; exact Or.inr g.2.1))) ?_
      first | exact absurd qz1 hc.1 | exact absurd qz1 hc.2.1 | exact absurd qz1 hc.2.2 | exact hz1
    · skip
      refine rk_pc (pc' := 54) (by decide) ?_
      refine rk_aload_n 0 dX5_readPart_54 rfl rfl ?_
      refine rk_pc (pc' := 55) rfl ?_
      refine rk_cVi (cX5_readNumber_s h1 hl ht hL h4 hf) rk_eX5_readNumber rfl ⟨rfl, rfl⟩ rk_kX5_86 dX5_readPart_55 rfl (by decide) (Nat.le_of_ble_eq_true rfl) ⟨Nat.le_refl _, Nat.le_refl _⟩ (fun xz1 Iz1 Rz1 hz1 => ?_)
      refine rk_iretJ dX5_readPart_58 rfl (by exact rk_nz (by rcases hz1.2 with ⟨_, h, _⟩ | ⟨_, h, _⟩ <;> first | exact Or.inl h | exact Or.inr h | (next g => exact Or.inr g.2.1) | (rename_i g; exact Or.inr g.2.1))) ?_
      first | exact absurd qz1 hc.1 | exact absurd qz1 hc.2.1 | exact absurd qz1 hc.2.2 | exact hz1
    · skip
      refine rk_pc (pc' := 45) (by decide) ?_
      refine rk_aload_n 0 dX5_readPart_45 rfl rfl ?_
      refine rk_bipush 51 dX5_readPart_46 (by decide) ?_
      refine rk_bipush 52 dX5_readPart_48 (by decide) ?_
      refine rk_cVi (cX5_readDigit_s h1 hl ht hL h4 hf _ _) rk_eX5_readDigit rfl ⟨rfl, rfl⟩ rk_kX5_82 dX5_readPart_50 rfl (by decide) (Nat.le_of_ble_eq_true rfl) ⟨Nat.le_refl _, Nat.le_refl _⟩ (fun xz1 Iz1 Rz1 hz1 => ?_)
      refine rk_iretJ dX5_readPart_53 rfl (by exact rk_nz (by rcases hz1.2 with ⟨_, h, _⟩ | ⟨_, h, _⟩ <;> first | exact Or.inl h | exact Or.inr h | (next g => exact Or.inr g.2.1) | (rename_i g; exact Or.inr g.2.1))) ?_
      first | exact absurd qz1 hc.1 | exact absurd qz1 hc.2.1 | exact absurd qz1 hc.2.2 | exact hz1
  · skip
    refine rk_aload_n 0 dX5_readPart_59 rfl rfl ?_
    refine rk_pc (pc' := 60) rfl ?_
    refine rk_iload_n 1 dX5_readPart_60 rfl rfl ?_
    refine rk_cVi (cX5_readSign_s h1 hl ht hL _) rk_eX5_readSign rfl ⟨rfl, rfl⟩ rk_kX5_36 dX5_readPart_61 rfl (by decide) (Nat.le_of_ble_eq_true rfl) ⟨Nat.le_refl _, Nat.le_refl _⟩ (fun xz1 Iz1 Rz1 hz1 => ?_)
    refine rk_iretJ dX5_readPart_64 rfl (by exact rk_nz (by rcases hz1.2 with ⟨_, h, _⟩ | ⟨_, h, _⟩ <;> first | exact Or.inl h | exact Or.inr h | (next g => exact Or.inr g.2.1) | (rename_i g; exact Or.inr g.2.1))) ?_
    first | exact absurd qz1 hc.1 | exact absurd qz1 hc.2.1 | exact absurd qz1 hc.2.2 | exact hz1
end CT

