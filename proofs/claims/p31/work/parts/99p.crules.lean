section EC
variable {w : rk_W} {l : Launch} {Sh : rk_Sh} {I : rk_Mm} {R : rk_Rm}
/-- what was there keeps its numbers, and but for the one that is made its references -/
def cn_f (Sh : rk_Sh) (I : rk_Mm) (R : rk_Rm) (u : rk_S) (s : Nat) : Prop := ∀ a, Sh.2 a ≠ 0 → (∀ c j, u.2.1 c a j = I c a j) ∧ (a ≠ s → ∀ c j, u.2.2 c a j = R c a j)
/-- new, of a kind -/
def cn_n (Sh : rk_Sh) (u : rk_S) (k a : Nat) : Prop := u.1.2 a = k ∧ Sh.2 a = 0
theorem cn_up0 {f : Nat → Nat} {q k a : Nat} (h : va_up f q k a = 0) (hk : k ≠ 0) : a ≠ q ∧ f a = 0 := by
  by_cases e : a = q
  · subst e
    rw [va_up_self] at h
    exact absurd h hk
  · rw [va_up_ne _ _ e] at h
    exact ⟨e, h⟩
theorem cX6_init_s {s : Nat} (hw : cl_W w) (hs : Sh.2 s = 57) : rk_K w l rk_mX6_init 2 3 16 [rk_a 57 s] Sh I R (fun u => cn_f Sh I R u s ∧ cn_n Sh u 17 (u.2.2 7 s 0) ∧ cn_n Sh u 18 (u.2.2 7 s 1) ∧ cn_n Sh u 19 (u.2.2 7 s 2) ∧ (∀ j, j < 10 → u.2.1 17 (u.2.2 7 s 0) j = (rk_fz w 0).2.2 j) ∧ (∀ j, j < 3 → u.2.1 18 (u.2.2 7 s 1) j = (rk_fz w 3).2.2 j) ∧ ∀ j, j < 3 → u.2.1 19 (u.2.2 7 s 2) j = (rk_fz w 4).2.2 j) := by
  refine rk_bK (ls := [(0, _)]) (by decide) rfl (Nat.le_of_ble_eq_true rfl) ?_
  refine rk_aload_n 0 dX6_init_0 rfl rfl ?_
  refine rk_oinit (by exact rk_inT 33 (by decide +kernel) (by decide +kernel)) rk_oin rk_oco dX6_init_1 (by decide) (Nat.le_of_ble_eq_true rfl) ?_
  refine rk_aload_n 0 dX6_init_4 rfl rfl ?_
  refine rk_bipush 10 dX6_init_5 (by decide) ?_
  refine rk_na17 (by decide) (by first | omega | (dsimp only; omega)) (by first | omega | (dsimp only; omega)) dX6_init_7 (fun nz1 hn1 => ?_)
  refine rk_pf7_0 rfl rfl rk_kX6_9 (by decide) dX6_init_9 (fun Rz1 eRz1 => ?_)
  refine rk_aload_n 0 dX6_init_12 rfl rfl ?_
  refine rk_pc (pc' := 13) rfl ?_
  refine rk_iconst 3 dX6_init_13 (by decide) ?_
  refine rk_na18 (by decide) (by first | omega | (dsimp only; omega)) (by first | omega | (dsimp only; omega)) dX6_init_14 (fun nz2 hn2 => ?_)
  refine rk_pf7_1 rfl rfl rk_kX6_15 (by decide) dX6_init_16 (fun Rz2 eRz2 => ?_)
  refine rk_aload_n 0 dX6_init_19 rfl rfl ?_
  refine rk_iconst 3 dX6_init_20 (by decide) ?_
  refine rk_na19 (by decide) (by first | omega | (dsimp only; omega)) (by first | omega | (dsimp only; omega)) dX6_init_21 (fun nz3 hn3 => ?_)
  refine rk_pf7_2 rfl rfl rk_kX6_18 (by decide) dX6_init_23 (fun Rz3 eRz3 => ?_)
  obtain ⟨a1, a0⟩ := hn1
  obtain ⟨b1, b0⟩ := hn2
  obtain ⟨c1, c0⟩ := hn3
  obtain ⟨b2, b1⟩ := cn_up0 (k := 17) b1 (by decide)
  obtain ⟨c2, c1⟩ := cn_up0 (k := 18) c1 (by decide)
  obtain ⟨c3, c1⟩ := cn_up0 (k := 17) c1 (by decide)
  have s1 : s ≠ nz1 := fun z => by rw [z, a1] at hs; cases hs
  have s2 : s ≠ nz2 := fun z => by rw [z, b1] at hs; cases hs
  have s3 : s ≠ nz3 := fun z => by rw [z, c1] at hs; cases hs
  have r0 : Rz3 7 s 0 = nz1 := by rw [eRz3, rk_uR_n (by simp), rk_nR_n s3, eRz2, rk_uR_n (by simp), rk_nR_n s2, eRz1, rk_uR_s]
  have r1 : Rz3 7 s 1 = nz2 := by rw [eRz3, rk_uR_n (by simp), rk_nR_n s3, eRz2, rk_uR_s]
  have r2 : Rz3 7 s 2 = nz3 := by rw [eRz3, rk_uR_s]
  have k1 : va_up (va_up (va_up Sh.2 nz1 17) nz2 18) nz3 19 nz1 = 17 := by rw [va_up_ne _ _ (Ne.symm c3), va_up_ne _ _ (Ne.symm b2), va_up_self]
  have k2 : va_up (va_up (va_up Sh.2 nz1 17) nz2 18) nz3 19 nz2 = 18 := by rw [va_up_ne _ _ (Ne.symm c2), va_up_self]
  have k3 : va_up (va_up (va_up Sh.2 nz1 17) nz2 18) nz3 19 nz3 = 19 := va_up_self _ _ _
  refine rk_gets 0 (by decide) rk_kX6_21 dX6_init_26 ?_
  refine rk_pc (pc' := 29) rfl ?_
  refine rk_iconst 0 dX6_init_29 (by decide) ?_
  refine rk_aload_n 0 dX6_init_30 rfl rfl ?_
  refine rk_gr7_0 17 rk_kX6_9 dX6_init_31 (by rw [r0]; exact k1) (by decide) ?_
  refine rk_iconst 0 dX6_init_34 (by decide) ?_
  refine rk_bipush 10 dX6_init_35 (by decide) ?_
  refine rk_copyf 17 10 0 (by decide) (by decide) rfl (by rw [hw.1.1]; exact Nat.le_refl _) (by decide) (by exact rk_inT 36 (by decide +kernel) (by decide +kernel)) dX6_init_37 (by decide) (Nat.le_of_ble_eq_true rfl) (fun J1 eJ1 => ?_)
  refine rk_pc (pc' := 40) rfl ?_
  refine rk_gets 3 (by decide) rk_kX6_30 dX6_init_40 ?_
  refine rk_iconst 0 dX6_init_43 (by decide) ?_
  refine rk_aload_n 0 dX6_init_44 rfl rfl ?_
  refine rk_gr7_1 18 rk_kX6_15 dX6_init_45 (by rw [r1]; exact k2) (by decide) ?_
  refine rk_iconst 0 dX6_init_48 (by decide) ?_
  refine rk_iconst 3 dX6_init_49 (by decide) ?_
  refine rk_pc (pc' := 50) rfl ?_
  refine rk_copyf 18 3 3 (by decide) (by decide) rfl (by rw [hw.2.2.2.1.1]; exact Nat.le_refl _) (by decide) (by exact rk_inT 36 (by decide +kernel) (by decide +kernel)) dX6_init_50 (by decide) (Nat.le_of_ble_eq_true rfl) (fun J2 eJ2 => ?_)
  refine rk_gets 4 (by decide) rk_kX6_33 dX6_init_53 ?_
  refine rk_iconst 0 dX6_init_56 (by decide) ?_
  refine rk_aload_n 0 dX6_init_57 rfl rfl ?_
  refine rk_gr7_2 19 rk_kX6_18 dX6_init_58 (by rw [r2]; exact k3) (by decide) ?_
  refine rk_iconst 0 dX6_init_61 (by decide) ?_
  refine rk_pc (pc' := 62) rfl ?_
  refine rk_iconst 3 dX6_init_62 (by decide) ?_
  refine rk_copyf 19 3 4 (by decide) (by decide) rfl (by rw [hw.2.2.2.2.1]; exact Nat.le_refl _) (by decide) (by exact rk_inT 36 (by decide +kernel) (by decide +kernel)) dX6_init_63 (by decide) (Nat.le_of_ble_eq_true rfl) (fun J3 eJ3 => ?_)
  refine rk_vret dX6_init_66 rfl (by first | omega | (dsimp only; omega)) ?_
  rw [r0] at eJ1
  rw [r1] at eJ2
  rw [r2] at eJ3
  have ne1 : ∀ a, Sh.2 a ≠ 0 → a ≠ nz1 := fun a h z => h (by rw [z]; exact a1)
  have ne2 : ∀ a, Sh.2 a ≠ 0 → a ≠ nz2 := fun a h z => h (by rw [z]; exact b1)
  have ne3 : ∀ a, Sh.2 a ≠ 0 → a ≠ nz3 := fun a h z => h (by rw [z]; exact c1)
  refine ⟨rfl, fun a h => ?_, fun a h => ⟨fun c j => ?_, fun hs2 c j => ?_⟩, ?_, ?_, ?_, fun j hj => ?_, fun j hj => ?_, fun j hj => ?_⟩
  · show va_up (va_up (va_up Sh.2 nz1 17) nz2 18) nz3 19 a = Sh.2 a
    rw [va_up_ne _ _ (ne3 a h), va_up_ne _ _ (ne2 a h), va_up_ne _ _ (ne1 a h)]
  · show J3 c a j = I c a j
    rw [eJ3, md_an (fun z => ne3 a h z.2), eJ2, md_an (fun z => ne2 a h z.2), eJ1, md_an (fun z => ne1 a h z.2), rk_nI_n (ne3 a h), rk_nI_n (ne2 a h), rk_nI_n (ne1 a h)]
  · show Rz3 c a j = R c a j
    rw [eRz3, rk_uR_n (fun z => hs2 z.2.1), rk_nR_n (ne3 a h), eRz2, rk_uR_n (fun z => hs2 z.2.1), rk_nR_n (ne2 a h), eRz1, rk_uR_n (fun z => hs2 z.2.1), rk_nR_n (ne1 a h)]
  · exact ⟨by show va_up (va_up (va_up Sh.2 nz1 17) nz2 18) nz3 19 (Rz3 7 s 0) = 17; rw [r0]; exact k1, by show Sh.2 (Rz3 7 s 0) = 0; rw [r0]; exact a1⟩
  · exact ⟨by show va_up (va_up (va_up Sh.2 nz1 17) nz2 18) nz3 19 (Rz3 7 s 1) = 18; rw [r1]; exact k2, by show Sh.2 (Rz3 7 s 1) = 0; rw [r1]; exact b1⟩
  · exact ⟨by show va_up (va_up (va_up Sh.2 nz1 17) nz2 18) nz3 19 (Rz3 7 s 2) = 19; rw [r2]; exact k3, by show Sh.2 (Rz3 7 s 2) = 0; rw [r2]; exact c1⟩
  · show J3 17 (Rz3 7 s 0) j = _
    rw [r0, eJ3, md_ac (by decide), eJ2, md_ac (by decide), eJ1, md_as]
    exact cl_cp_in hj
  · show J3 18 (Rz3 7 s 1) j = _
    rw [r1, eJ3, md_ac (by decide), eJ2, md_as]
    exact cl_cp_in hj
  · show J3 19 (Rz3 7 s 2) j = _
    rw [r2, eJ3, md_as]
    exact cl_cp_in hj
theorem cX3_init_s {s : Nat} (hs : Sh.2 s = 54) : rk_K w l rk_mX3_init 2 1 80 [rk_a 54 s] Sh I R (fun u => cn_f Sh I R u s ∧ cn_n Sh u 15 (u.2.2 4 s 0)) := by
  refine rk_bK (ls := [(0, _)]) (by decide) rfl (Nat.le_of_ble_eq_true rfl) ?_
  refine rk_aload_n 0 dX3_init_0 rfl rfl ?_
  refine rk_oinit (by exact rk_inT 251 (by decide +kernel) (by decide +kernel)) rk_oin rk_oco dX3_init_1 (by decide) (Nat.le_of_ble_eq_true rfl) ?_
  refine rk_aload_n 0 dX3_init_4 rfl rfl ?_
  refine rk_bipush 80 dX3_init_5 (by decide) ?_
  refine rk_na15 (by decide) (by first | omega | (dsimp only; omega)) (by first | omega | (dsimp only; omega)) dX3_init_7 (fun nz1 hn1 => ?_)
  refine rk_pf4_0 rfl rfl rk_kX3_11 (by decide) dX3_init_9 (fun Rz1 eRz1 => ?_)
  refine rk_vret dX3_init_12 rfl (by first | omega | (dsimp only; omega)) ?_
  obtain ⟨a1, a0⟩ := hn1
  have s1 : s ≠ nz1 := fun z => by rw [z, a1] at hs; cases hs
  have r0 : Rz1 4 s 0 = nz1 := by rw [eRz1, rk_uR_s]
  have ne1 : ∀ a, Sh.2 a ≠ 0 → a ≠ nz1 := fun a h z => h (by rw [z]; exact a1)
  refine ⟨rfl, fun a h => ?_, fun a h => ⟨fun c j => ?_, fun hs2 c j => ?_⟩, ?_⟩
  · exact va_up_ne _ _ (ne1 a h)
  · exact rk_nI_n (ne1 a h)
  · show Rz1 c a j = R c a j
    rw [eRz1, rk_uR_n (fun z => hs2 z.2.1), rk_nR_n (ne1 a h)]
  · exact ⟨by show va_up Sh.2 nz1 15 (Rz1 4 s 0) = 15; rw [r0]; exact va_up_self _ _ _, by show Sh.2 (Rz1 4 s 0) = 0; rw [r0]; exact a1⟩
end EC

