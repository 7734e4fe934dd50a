/-! the reference's changes: an answer, and the row of numbers behind it (none: an error, nothing changes) -/
abbrev sp_R : Type := Int32 × Option (Nat → Int32)
def md_ap (I : rk_Mm) (R : rk_Rm) (m : Nat) : Option (Nat → Int32) → rk_Mm
  | none => I
  | some N => md_a (md_rec I R m) 26 (R 12 m 0) N
theorem md_rec_c {I : rk_Mm} {R : rk_Rm} {m c : Nat} (h1 : c ≠ 28) (h2 : c ≠ 12) : md_rec I R m c = I c := by
  unfold md_rec
  split
  · split
    · funext a j; rw [md_uc h2, md_ac h1]
    · funext a j; rw [md_uc h2, md_ac h1]
  · rfl
theorem md_rec_f {I : rk_Mm} {R : rk_Rm} {m f : Nat} (h : f ≠ 3) : md_rec I R m 12 m f = I 12 m f := by
  unfold md_rec
  split
  · split
    · rw [rk_uI_n (by omega), md_ac (by decide)]
    · rw [rk_uI_n (by omega), md_ac (by decide)]
  · rfl
theorem md_apN {I J : rk_Mm} {R : rk_Rm} {m : Nat} {F : Nat → Int32} (h : J = md_a (md_rec I R m) 26 (R 12 m 0) F) {o : Option (Nat → Int32)} (ho : o = some F) : J = md_ap I R m o := by rw [ho, h]; rfl
theorem rk_in_n {x : Int32} {n : Nat} {y : Int32} (hy : y = nI n) (hn : n < 2 ^ 31) (h : 0 ≤ x ∧ x ≤ y) : ∃ k, k ≤ n ∧ x = nI k := by
  subst hy
  obtain ⟨j, h1, h2⟩ := nI_of (x := x) (Int32.not_lt.mpr h.1)
  exact ⟨j, (nI_leI h1 hn).mp (by rw [← h2]; exact h.2), h2⟩
def sp_lst (s : Nat) : Int32 := if s = 0 then 100 else if s = 1 then 10 else if s = 2 then 0 else if s = 3 then 0 else if s = 8 then 10 else if s = 9 then 0 else 1
def sp_mst (s : Nat) : Int32 := if s = 0 then 2000 else if s = 1 then 60 else if s = 2 then 40 else if s = 3 then 60 else if s = 4 then 30 else if s = 5 then 30 else if s = 6 then 60 else if s = 7 then 24 else 500
def sp_set (N : Nat → Int32) (s v : Int32) : sp_R := if (0 ≤ s ∧ s ≤ 9) ∧ sp_lst s.toNatClampNeg ≤ v ∧ v ≤ sp_mst s.toNatClampNeg then (N s.toNatClampNeg, some (sp_u N s.toNatClampNeg v)) else (-2, none)
def sp_fibre (N : Nat → Int32) (f st tw : Int32) : sp_R := if 0 ≤ f ∧ f ≤ 2 then (if (1 ≤ st ∧ st ≤ 200) ∧ 10 ≤ tw ∧ tw ≤ 60 then (100 * N (20 + 3 * f.toNatClampNeg) + N (20 + 3 * f.toNatClampNeg + 1), some (sp_u (sp_u N (20 + 3 * f.toNatClampNeg) st) (20 + 3 * f.toNatClampNeg + 1) tw)) else (-2, none)) else (-1, none)
def sp_spin (N : Nat → Int32) (f ft : Int32) : sp_R := if 0 ≤ f ∧ f ≤ 2 then (if 1 ≤ ft ∧ ft ≤ 3000000 then (if N (20 + 3 * f.toNatClampNeg + 2) + ft ≤ 9000000 then (N (20 + 3 * f.toNatClampNeg + 2) + ft, some (sp_u (sp_u N (20 + 3 * f.toNatClampNeg + 2) (N (20 + 3 * f.toNatClampNeg + 2) + ft)) (30 + 4 * f.toNatClampNeg) (N (30 + 4 * f.toNatClampNeg) + ft))) else (-5, none)) else (-2, none)) else (-1, none)
section MO
variable {w : rk_W} {l : Launch} {Sh : rk_Sh} {I : rk_Mm} {R : rk_Rm}
abbrev md_Q (I : rk_Mm) (R : rk_Rm) (m : Nat) (r : sp_R) : Int32 → rk_Mm → rk_Rm → Prop := fun x I' R' => x = r.1 ∧ R' = R ∧ I' = md_ap I R m r.2
theorem cX11_least_s {s : Nat} {x : Int32} (hx : x = nI s) (hs : s < 10) : rk_P w l rk_mX11_least 1 [rk_i x] Sh I R (sp_lst s) := by
  subst hx
  rcases (by omega : s = 0 ∨ s = 1 ∨ s = 2 ∨ s = 3 ∨ s = 4 ∨ s = 5 ∨ s = 6 ∨ s = 7 ∨ s = 8 ∨ s = 9) with rfl | rfl | rfl | rfl | rfl | rfl | rfl | rfl | rfl | rfl <;>
  (refine rk_bP (ls := [(0, _)]) (by decide) rfl (Nat.le_of_ble_eq_true rfl) ?_
   refine rk_iload_n 0 dX11_least_0 rfl rfl ?_
   refine rk_tsw 64 dX11_least_1 (by decide) (by decide) (by decide) ?_ (fun h => absurd h (by decide))
   refine ⟨fun h => ?_, fun h => ?_, fun h => ?_, fun h => ?_, fun h => ?_, fun h => ?_, fun h => ?_, fun h => ?_, fun h => ?_, fun h => ?_, trivial⟩ <;>
   first
   | exact absurd h (by decide)
   | exact rk_pc (pc' := 56) (by decide) (rk_bipush 100 dX11_least_56 (by decide) (rk_iretP dX11_least_58 rfl rfl rfl))
   | exact rk_pc (pc' := 59) (by decide) (rk_bipush 10 dX11_least_59 (by decide) (rk_iretP dX11_least_61 rfl rfl rfl))
   | exact rk_pc (pc' := 62) (by decide) (rk_iconst 0 dX11_least_62 (by decide) (rk_iretP dX11_least_63 rfl rfl rfl))
   | exact rk_pc (pc' := 64) (by decide) (rk_iconst 1 dX11_least_64 (by decide) (rk_iretP dX11_least_65 rfl rfl rfl)))
theorem cX11_most_s {s : Nat} {x : Int32} (hx : x = nI s) (hs : s < 10) : rk_P w l rk_mX11_most 1 [rk_i x] Sh I R (sp_mst s) := by
  subst hx
  rcases (by omega : s = 0 ∨ s = 1 ∨ s = 2 ∨ s = 3 ∨ s = 4 ∨ s = 5 ∨ s = 6 ∨ s = 7 ∨ s = 8 ∨ s = 9) with rfl | rfl | rfl | rfl | rfl | rfl | rfl | rfl | rfl | rfl <;>
  (refine rk_bP (ls := [(0, _)]) (by decide) rfl (Nat.le_of_ble_eq_true rfl) ?_
   refine rk_iload_n 0 dX11_most_0 rfl rfl ?_
   refine rk_tsw 64 dX11_most_1 (by decide) (by decide) (by decide) ?_ (fun h => ?_)
   · refine ⟨fun h => ?_, fun h => ?_, fun h => ?_, fun h => ?_, fun h => ?_, fun h => ?_, fun h => ?_, fun h => ?_, trivial⟩ <;>
     first
     | exact absurd h (by decide)
     | exact rk_pc (pc' := 48) (by decide) (rk_sipush 2000 dX11_most_48 (by decide) (rk_iretP dX11_most_51 rfl rfl rfl))
     | exact rk_pc (pc' := 52) (by decide) (rk_bipush 60 dX11_most_52 (by decide) (rk_iretP dX11_most_54 rfl rfl rfl))
     | exact rk_pc (pc' := 55) (by decide) (rk_bipush 40 dX11_most_55 (by decide) (rk_iretP dX11_most_57 rfl rfl rfl))
     | exact rk_pc (pc' := 58) (by decide) (rk_bipush 30 dX11_most_58 (by decide) (rk_iretP dX11_most_60 rfl rfl rfl))
     | exact rk_pc (pc' := 61) (by decide) (rk_bipush 24 dX11_most_61 (by decide) (rk_iretP dX11_most_63 rfl rfl rfl))
   · first
     | exact absurd h (by decide)
     | exact rk_sipush 500 dX11_most_64 (by decide) (rk_iretP dX11_most_67 rfl rfl rfl))
theorem cX11_set_s {m u : Nat} (hu : I 12 m 3 = nI u) (hu6 : u ≤ 6) (s v : Int32) : rk_J w l rk_mX11_set 3 [rk_a 12 m, rk_i s, rk_i v] Sh I R (md_Q I R m (sp_set (I 26 (R 12 m 0)) s v)) := by
  have h26 : md_rec I R m 26 = I 26 := md_rec_c (by decide) (by decide)
  refine rk_bJ (ls := [(0, _), (1, _), (2, _)]) (by decide) rfl (Nat.le_of_ble_eq_true rfl) ?_
  refine rk_iload_n 1 dX11_set_0 rfl rfl ?_
  refine rk_iconst 0 dX11_set_1 (by decide) ?_
  refine rk_bipush 9 dX11_set_2 (by decide) ?_
  refine rk_cSp (cX11_in_s _ _ _) rk_eX11_in rfl rk_kX11_43 dX11_set_4 rfl (by decide) (Nat.le_of_ble_eq_true rfl) ⟨Nat.le_refl _, Nat.le_refl _⟩ ?_
  refine rk_if_eq 25 dX11_set_7 (by decide) (fun qz7 => ?_) (fun qz7 => ?_)
  · skip
    refine rk_bipush (-2) dX11_set_25 (by decide) ?_
    refine rk_iretJ dX11_set_27 rfl rfl ?_
    first | exact ⟨by rw [sp_set, if_neg (fun z => sp_bf qz7 z.1)], rfl, by rw [sp_set, if_neg (fun z => sp_bf qz7 z.1)]; rfl⟩ | exact ⟨by rw [sp_set, hcl, if_neg (fun z => sp_bf qz22 z.2)], rfl, by rw [sp_set, hcl, if_neg (fun z => sp_bf qz22 z.2)]; rfl⟩
  · skip
    obtain ⟨k, hk, rfl⟩ := rk_in_n (n := 9) rfl (by decide) (sp_bt qz7)
    have hcl : (nI k).toNatClampNeg = k := nI_clamp (by omega)
    refine rk_iload_n 2 dX11_set_10 rfl rfl ?_
    refine rk_pc (pc' := 11) rfl ?_
    refine rk_iload_n 1 dX11_set_11 rfl rfl ?_
    refine rk_cSp (cX11_least_s rfl (by omega)) rk_eX11_least rfl rk_kX11_47 dX11_set_12 rfl (by decide) (Nat.le_of_ble_eq_true rfl) ⟨Nat.le_refl _, Nat.le_refl _⟩ ?_
    refine rk_iload_n 1 dX11_set_15 rfl rfl ?_
    refine rk_cSp (cX11_most_s rfl (by omega)) rk_eX11_most rfl rk_kX11_51 dX11_set_16 rfl (by decide) (Nat.le_of_ble_eq_true rfl) ⟨Nat.le_refl _, Nat.le_refl _⟩ ?_
    refine rk_cSp (cX11_in_s _ _ _) rk_eX11_in rfl rk_kX11_43 dX11_set_19 rfl (by decide) (Nat.le_of_ble_eq_true rfl) ⟨Nat.le_refl _, Nat.le_refl _⟩ ?_
    refine rk_if_ne 28 dX11_set_22 (by decide) (fun qz22 => ?_) (fun qz22 => ?_)
    · skip
      refine rk_aload_n 0 dX11_set_28 rfl rfl ?_
      refine rk_pc (pc' := 29) rfl ?_
      refine rk_cVv (cX11_record_s hu hu6) rk_eX11_record rfl ⟨rfl, rfl⟩ rk_kX11_54 dX11_set_29 rfl (by decide) (Nat.le_of_ble_eq_true rfl) ⟨Nat.le_refl _, Nat.le_refl _⟩ (fun Iz1 Rz1 hz1 => ?_)
      obtain ⟨qhz1, eIz1⟩ := hz1
      obtain rfl := qhz1.symm
      have h26z : Iz1 26 = I 26 := by rw [eIz1, h26]
      refine rk_aload_n 0 dX11_set_32 rfl rfl ?_
      refine rk_g12_0 rk_kX11_7 dX11_set_33 ?_
      refine rk_iload_n 1 dX11_set_36 rfl rfl ?_
      refine rk_rn26 (k) dX11_set_37 (by first | rfl | decide | assumption | (simp only [rk_lit, nI_add, pk_mul, nI_1]; done) | (simp only [rk_lit, nI_add, pk_mul, nI_1]; congr 1; omega)) (by first | decide | assumption | omega) ?_
      rw [h26z]
      refine rk_istore_n 3 (ls' := [(3, _), (0, _), (1, _), (2, _)]) dX11_set_38 rfl (by decide) rfl ?_
      refine rk_pc (pc' := 39) rfl ?_
      refine rk_aload_n 0 dX11_set_39 rfl rfl ?_
      refine rk_g12_0 rk_kX11_7 dX11_set_40 ?_
      refine rk_iload_n 1 dX11_set_43 rfl rfl ?_
      refine rk_iload_n 2 dX11_set_44 rfl rfl ?_
      refine rk_sn26 (k) dX11_set_45 (by first | rfl | decide | assumption | (simp only [rk_lit, nI_add, pk_mul, nI_1]; done) | (simp only [rk_lit, nI_add, pk_mul, nI_1]; congr 1; omega)) (by first | decide | assumption | omega) (fun Iz2 eIz2 => ?_)
      have sz2 := rk_ufs eIz2
      have nz2 := rk_ufn eIz2
      have pz2 := md_c1 eIz2
      refine rk_iload_n 3 dX11_set_46 rfl rfl ?_
      refine rk_pc (pc' := 47) rfl ?_
      refine rk_iretJ dX11_set_47 rfl rfl ?_
      rw [show sp_set (I 26 (R 12 m 0)) (nI k) v = (I 26 (R 12 m 0) k, some (sp_u (I 26 (R 12 m 0)) k v)) by rw [sp_set, hcl, if_pos ⟨sp_bt qz7, sp_bt qz22⟩]]
      exact ⟨rfl, rfl, by rw [pz2, eIz1, h26]; rfl⟩
    · skip
      refine rk_bipush (-2) dX11_set_25 (by decide) ?_
      refine rk_iretJ dX11_set_27 rfl rfl ?_
      first | exact ⟨by rw [sp_set, if_neg (fun z => sp_bf qz7 z.1)], rfl, by rw [sp_set, if_neg (fun z => sp_bf qz7 z.1)]; rfl⟩ | exact ⟨by rw [sp_set, hcl, if_neg (fun z => sp_bf qz22 z.2)], rfl, by rw [sp_set, hcl, if_neg (fun z => sp_bf qz22 z.2)]; rfl⟩
theorem cX11_fibre_s {m u : Nat} (hu : I 12 m 3 = nI u) (hu6 : u ≤ 6) (f st tw : Int32) : rk_J w l rk_mX11_fibre 3 [rk_a 12 m, rk_i f, rk_i st, rk_i tw] Sh I R (md_Q I R m (sp_fibre (I 26 (R 12 m 0)) f st tw)) := by
  have h26 : md_rec I R m 26 = I 26 := md_rec_c (by decide) (by decide)
  refine rk_bJ (ls := [(0, _), (1, _), (2, _), (3, _)]) (by decide) rfl (Nat.le_of_ble_eq_true rfl) ?_
  refine rk_iload_n 1 dX11_fibre_0 rfl rfl ?_
  refine rk_cSp (cX11_isFibre_s _) rk_eX11_isFibre rfl rk_kX11_57 dX11_fibre_1 rfl (by decide) (Nat.le_of_ble_eq_true rfl) ⟨Nat.le_refl _, Nat.le_refl _⟩ ?_
  refine rk_if_ne 9 dX11_fibre_4 (by decide) (fun qz4 => ?_) (fun qz4 => ?_)
  · skip
    obtain ⟨k, hk, rfl⟩ := rk_in_n (n := 2) rfl (by decide) (sp_bt qz4)
    have hcl : (nI k).toNatClampNeg = k := nI_clamp (by omega)
    refine rk_iload_n 2 dX11_fibre_9 rfl rfl ?_
    refine rk_iconst 1 dX11_fibre_10 (by decide) ?_
    refine rk_sipush 200 dX11_fibre_11 (by decide) ?_
    refine rk_cSp (cX11_in_s _ _ _) rk_eX11_in rfl rk_kX11_43 dX11_fibre_14 rfl (by decide) (Nat.le_of_ble_eq_true rfl) ⟨Nat.le_refl _, Nat.le_refl _⟩ ?_
    refine rk_pc (pc' := 17) rfl ?_
    refine rk_if_eq 31 dX11_fibre_17 (by decide) (fun qz17 => ?_) (fun qz17 => ?_)
    · skip
      refine rk_bipush (-2) dX11_fibre_31 (by decide) ?_
      refine rk_iretJ dX11_fibre_33 rfl rfl ?_
      rw [show sp_fibre (I 26 (R 12 m 0)) (nI k) st tw = (-2, none) by rw [sp_fibre, if_pos (sp_bt qz4)]; first | rw [if_neg (fun z => sp_bf qz17 z.1)] | rw [if_neg (fun z => sp_bf qz28 z.2)]]
      exact ⟨rfl, rfl, rfl⟩
    · skip
      refine rk_iload_n 3 dX11_fibre_20 rfl rfl ?_
      refine rk_bipush 10 dX11_fibre_21 (by decide) ?_
      refine rk_bipush 60 dX11_fibre_23 (by decide) ?_
      refine rk_cSp (cX11_in_s _ _ _) rk_eX11_in rfl rk_kX11_43 dX11_fibre_25 rfl (by decide) (Nat.le_of_ble_eq_true rfl) ⟨Nat.le_refl _, Nat.le_refl _⟩ ?_
      refine rk_if_ne 34 dX11_fibre_28 (by decide) (fun qz28 => ?_) (fun qz28 => ?_)
      · skip
        refine rk_aload_n 0 dX11_fibre_34 rfl rfl ?_
        refine rk_pc (pc' := 35) rfl ?_
        refine rk_cVv (cX11_record_s hu hu6) rk_eX11_record rfl ⟨rfl, rfl⟩ rk_kX11_54 dX11_fibre_35 rfl (by decide) (Nat.le_of_ble_eq_true rfl) ⟨Nat.le_refl _, Nat.le_refl _⟩ (fun Iz1 Rz1 hz1 => ?_)
        obtain ⟨qhz1, eIz1⟩ := hz1
        obtain rfl := qhz1.symm
        have h26z : Iz1 26 = I 26 := by rw [eIz1, h26]
        refine rk_bipush 20 dX11_fibre_38 (by decide) ?_
        refine rk_iconst 3 dX11_fibre_40 (by decide) ?_
        refine rk_iload_n 1 dX11_fibre_41 rfl rfl ?_
        refine rk_imul dX11_fibre_42 ?_
        refine rk_iadd dX11_fibre_43 ?_
        refine rk_pc (pc' := 44) rfl ?_
        refine rk_istore (ls' := [(4, _), (0, _), (1, _), (2, _), (3, _)]) dX11_fibre_44 (by decide) rfl ?_
        refine rk_bipush 100 dX11_fibre_46 (by decide) ?_
        refine rk_aload_n 0 dX11_fibre_48 rfl rfl ?_
        refine rk_g12_0 rk_kX11_7 dX11_fibre_49 ?_
        refine rk_iload dX11_fibre_52 rfl ?_
        refine rk_rn26 (20 + 3 * k) dX11_fibre_54 (by first | rfl | decide | assumption | (simp only [rk_lit, nI_add, pk_mul, nI_1]; done) | (simp only [rk_lit, nI_add, pk_mul, nI_1]; congr 1; omega)) (by first | decide | assumption | omega) ?_
        rw [h26z]
        refine rk_pc (pc' := 55) rfl ?_
        refine rk_imul dX11_fibre_55 ?_
        refine rk_aload_n 0 dX11_fibre_56 rfl rfl ?_
        refine rk_g12_0 rk_kX11_7 dX11_fibre_57 ?_
        refine rk_iload dX11_fibre_60 rfl ?_
        refine rk_iconst 1 dX11_fibre_62 (by decide) ?_
        refine rk_iadd dX11_fibre_63 ?_
        refine rk_pc (pc' := 64) rfl ?_
        refine rk_rn26 (20 + 3 * k + 1) dX11_fibre_64 (by first | rfl | decide | assumption | (simp only [rk_lit, nI_add, pk_mul, nI_1]; done) | (simp only [rk_lit, nI_add, pk_mul, nI_1]; congr 1; omega)) (by first | decide | assumption | omega) ?_
        rw [h26z]
        refine rk_iadd dX11_fibre_65 ?_
        refine rk_istore (ls' := [(5, _), (4, _), (0, _), (1, _), (2, _), (3, _)]) dX11_fibre_66 (by decide) rfl ?_
        refine rk_aload_n 0 dX11_fibre_68 rfl rfl ?_
        refine rk_g12_0 rk_kX11_7 dX11_fibre_69 ?_
        refine rk_iload dX11_fibre_72 rfl ?_
        refine rk_pc (pc' := 74) rfl ?_
        refine rk_iload_n 2 dX11_fibre_74 rfl rfl ?_
        refine rk_sn26 (20 + 3 * k) dX11_fibre_75 (by first | rfl | decide | assumption | (simp only [rk_lit, nI_add, pk_mul, nI_1]; done) | (simp only [rk_lit, nI_add, pk_mul, nI_1]; congr 1; omega)) (by first | decide | assumption | omega) (fun Iz2 eIz2 => ?_)
        have sz2 := rk_ufs eIz2
        have nz2 := rk_ufn eIz2
        have pz2 := md_c1 eIz2
        refine rk_aload_n 0 dX11_fibre_76 rfl rfl ?_
        refine rk_g12_0 rk_kX11_7 dX11_fibre_77 ?_
        refine rk_iload dX11_fibre_80 rfl ?_
        refine rk_iconst 1 dX11_fibre_82 (by decide) ?_
        refine rk_pc (pc' := 83) rfl ?_
        refine rk_iadd dX11_fibre_83 ?_
        refine rk_iload_n 3 dX11_fibre_84 rfl rfl ?_
        refine rk_sn26 (20 + 3 * k + 1) dX11_fibre_85 (by first | rfl | decide | assumption | (simp only [rk_lit, nI_add, pk_mul, nI_1]; done) | (simp only [rk_lit, nI_add, pk_mul, nI_1]; congr 1; omega)) (by first | decide | assumption | omega) (fun Iz3 eIz3 => ?_)
        have sz3 := rk_ufs eIz3
        have nz3 := rk_ufn eIz3
        have pz3 := md_ch pz2 eIz3
        refine rk_iload dX11_fibre_86 rfl ?_
        refine rk_iretJ dX11_fibre_88 rfl rfl ?_
        rw [show sp_fibre (I 26 (R 12 m 0)) (nI k) st tw = (100 * I 26 (R 12 m 0) (20 + 3 * k) + I 26 (R 12 m 0) (20 + 3 * k + 1), some (sp_u (sp_u (I 26 (R 12 m 0)) (20 + 3 * k) st) (20 + 3 * k + 1) tw)) by rw [sp_fibre, hcl, if_pos (sp_bt qz4), if_pos ⟨sp_bt qz17, sp_bt qz28⟩]]
        exact ⟨rfl, rfl, by rw [pz3, eIz1, h26]; rfl⟩
      · skip
        refine rk_bipush (-2) dX11_fibre_31 (by decide) ?_
        refine rk_iretJ dX11_fibre_33 rfl rfl ?_
        rw [show sp_fibre (I 26 (R 12 m 0)) (nI k) st tw = (-2, none) by rw [sp_fibre, if_pos (sp_bt qz4)]; first | rw [if_neg (fun z => sp_bf qz17 z.1)] | rw [if_neg (fun z => sp_bf qz28 z.2)]]
        exact ⟨rfl, rfl, rfl⟩
  · skip
    refine rk_iconst (-1) dX11_fibre_7 (by decide) ?_
    refine rk_pc (pc' := 8) rfl ?_
    refine rk_iretJ dX11_fibre_8 rfl rfl ?_
    rw [show sp_fibre (I 26 (R 12 m 0)) f st tw = (-1, none) by rw [sp_fibre, if_neg (sp_bf qz4)]]
    exact ⟨rfl, rfl, rfl⟩
theorem cX11_spin_s {m u : Nat} (hu : I 12 m 3 = nI u) (hu6 : u ≤ 6) (f ft : Int32) : rk_J w l rk_mX11_spin 3 [rk_a 12 m, rk_i f, rk_i ft] Sh I R (md_Q I R m (sp_spin (I 26 (R 12 m 0)) f ft)) := by
  have h26 : md_rec I R m 26 = I 26 := md_rec_c (by decide) (by decide)
  refine rk_bJ (ls := [(0, _), (1, _), (2, _)]) (by decide) rfl (Nat.le_of_ble_eq_true rfl) ?_
  refine rk_iload_n 1 dX11_spin_0 rfl rfl ?_
  refine rk_cSp (cX11_isFibre_s _) rk_eX11_isFibre rfl rk_kX11_57 dX11_spin_1 rfl (by decide) (Nat.le_of_ble_eq_true rfl) ⟨Nat.le_refl _, Nat.le_refl _⟩ ?_
  refine rk_if_ne 9 dX11_spin_4 (by decide) (fun qz4 => ?_) (fun qz4 => ?_)
  · skip
    obtain ⟨k, hk, rfl⟩ := rk_in_n (n := 2) rfl (by decide) (sp_bt qz4)
    have hcl : (nI k).toNatClampNeg = k := nI_clamp (by omega)
    refine rk_iload_n 2 dX11_spin_9 rfl rfl ?_
    refine rk_iconst 1 dX11_spin_10 (by decide) ?_
    refine rk_ldc 3000000 dX11_spin_11 (by first | exact rk_inT 950 (by decide +kernel) (by decide +kernel)) ?_
    refine rk_cSp (cX11_in_s _ _ _) rk_eX11_in rfl rk_kX11_43 dX11_spin_13 rfl (by decide) (Nat.le_of_ble_eq_true rfl) ⟨Nat.le_refl _, Nat.le_refl _⟩ ?_
    refine rk_pc (pc' := 16) rfl ?_
    refine rk_if_ne 22 dX11_spin_16 (by decide) (fun qz16 => ?_) (fun qz16 => ?_)
    · skip
      refine rk_bipush 20 dX11_spin_22 (by decide) ?_
      refine rk_iconst 3 dX11_spin_24 (by decide) ?_
      refine rk_iload_n 1 dX11_spin_25 rfl rfl ?_
      refine rk_imul dX11_spin_26 ?_
      refine rk_iadd dX11_spin_27 ?_
      refine rk_iconst 2 dX11_spin_28 (by decide) ?_
      refine rk_pc (pc' := 29) rfl ?_
      refine rk_iadd dX11_spin_29 ?_
      refine rk_istore_n 3 (ls' := [(3, _), (0, _), (1, _), (2, _)]) dX11_spin_30 rfl (by decide) rfl ?_
      refine rk_aload_n 0 dX11_spin_31 rfl rfl ?_
      refine rk_g12_0 rk_kX11_7 dX11_spin_32 ?_
      refine rk_iload_n 3 dX11_spin_35 rfl rfl ?_
      refine rk_rn26 (20 + 3 * k + 2) dX11_spin_36 (by first | rfl | decide | assumption | (simp only [rk_lit, nI_add, pk_mul, nI_1]; done) | (simp only [rk_lit, nI_add, pk_mul, nI_1]; congr 1; omega)) (by first | decide | assumption | omega) ?_
      refine rk_pc (pc' := 37) rfl ?_
      refine rk_iload_n 2 dX11_spin_37 rfl rfl ?_
      refine rk_iadd dX11_spin_38 ?_
      refine rk_ldc 9000000 dX11_spin_39 (by first | exact rk_inT 951 (by decide +kernel) (by decide +kernel)) ?_
      refine rk_icmp_le 47 dX11_spin_41 (by decide) (fun qz41 => ?_) (fun qz41 => ?_)
      · skip
        refine rk_aload_n 0 dX11_spin_47 rfl rfl ?_
        refine rk_cVv (cX11_record_s hu hu6) rk_eX11_record rfl ⟨rfl, rfl⟩ rk_kX11_54 dX11_spin_48 rfl (by decide) (Nat.le_of_ble_eq_true rfl) ⟨Nat.le_refl _, Nat.le_refl _⟩ (fun Iz1 Rz1 hz1 => ?_)
        obtain ⟨qhz1, eIz1⟩ := hz1
        obtain rfl := qhz1.symm
        have h26z : Iz1 26 = I 26 := by rw [eIz1, h26]
        refine rk_aload_n 0 dX11_spin_51 rfl rfl ?_
        refine rk_pc (pc' := 52) rfl ?_
        refine rk_g12_0 rk_kX11_7 dX11_spin_52 ?_
        refine rk_iload_n 3 dX11_spin_55 rfl rfl ?_
        refine rk_dup2 dX11_spin_56 rfl rfl ?_
        refine rk_rn26 (20 + 3 * k + 2) dX11_spin_57 (by first | rfl | decide | assumption | (simp only [rk_lit, nI_add, pk_mul, nI_1]; done) | (simp only [rk_lit, nI_add, pk_mul, nI_1]; congr 1; omega)) (by first | decide | assumption | omega) ?_
        rw [h26z]
        refine rk_iload_n 2 dX11_spin_58 rfl rfl ?_
        refine rk_iadd dX11_spin_59 ?_
        refine rk_pc (pc' := 60) rfl ?_
        refine rk_sn26 (20 + 3 * k + 2) dX11_spin_60 (by first | rfl | decide | assumption | (simp only [rk_lit, nI_add, pk_mul, nI_1]; done) | (simp only [rk_lit, nI_add, pk_mul, nI_1]; congr 1; omega)) (by first | decide | assumption | omega) (fun Iz2 eIz2 => ?_)
        have sz2 := rk_ufs eIz2
        have nz2 := rk_ufn eIz2
        have pz2 := md_c1 eIz2
        refine rk_aload_n 0 dX11_spin_61 rfl rfl ?_
        refine rk_g12_0 rk_kX11_7 dX11_spin_62 ?_
        refine rk_bipush 30 dX11_spin_65 (by decide) ?_
        refine rk_iconst 4 dX11_spin_67 (by decide) ?_
        refine rk_iload_n 1 dX11_spin_68 rfl rfl ?_
        refine rk_pc (pc' := 69) rfl ?_
        refine rk_imul dX11_spin_69 ?_
        refine rk_iadd dX11_spin_70 ?_
        refine rk_dup2 dX11_spin_71 rfl rfl ?_
        refine rk_rn26 (30 + 4 * k) dX11_spin_72 (by first | rfl | decide | assumption | (simp only [rk_lit, nI_add, pk_mul, nI_1]; done) | (simp only [rk_lit, nI_add, pk_mul, nI_1]; congr 1; omega)) (by first | decide | assumption | omega) ?_
        rw [nz2 (30 + 4 * k) (by omega)]
        rw [h26z]
        refine rk_iload_n 2 dX11_spin_73 rfl rfl ?_
        refine rk_iadd dX11_spin_74 ?_
        refine rk_pc (pc' := 75) rfl ?_
        refine rk_sn26 (30 + 4 * k) dX11_spin_75 (by first | rfl | decide | assumption | (simp only [rk_lit, nI_add, pk_mul, nI_1]; done) | (simp only [rk_lit, nI_add, pk_mul, nI_1]; congr 1; omega)) (by first | decide | assumption | omega) (fun Iz3 eIz3 => ?_)
        have sz3 := rk_ufs eIz3
        have nz3 := rk_ufn eIz3
        have pz3 := md_ch pz2 eIz3
        refine rk_aload_n 0 dX11_spin_76 rfl rfl ?_
        refine rk_g12_0 rk_kX11_7 dX11_spin_77 ?_
        refine rk_iload_n 3 dX11_spin_80 rfl rfl ?_
        refine rk_rn26 (20 + 3 * k + 2) dX11_spin_81 (by first | rfl | decide | assumption | (simp only [rk_lit, nI_add, pk_mul, nI_1]; done) | (simp only [rk_lit, nI_add, pk_mul, nI_1]; congr 1; omega)) (by first | decide | assumption | omega) ?_
        rw [nz3 (20 + 3 * k + 2) (by omega), sz2]
        refine rk_iretJ dX11_spin_82 rfl rfl ?_
        rw [show sp_spin (I 26 (R 12 m 0)) (nI k) ft = (I 26 (R 12 m 0) (20 + 3 * k + 2) + ft, some (sp_u (sp_u (I 26 (R 12 m 0)) (20 + 3 * k + 2) (I 26 (R 12 m 0) (20 + 3 * k + 2) + ft)) (30 + 4 * k) (I 26 (R 12 m 0) (30 + 4 * k) + ft))) by rw [sp_spin, hcl, if_pos (sp_bt qz4), if_pos (sp_bt qz16), if_pos qz41]]
        exact ⟨rfl, rfl, by rw [pz3, eIz1, h26]; rfl⟩
      · skip
        refine rk_bipush (-5) dX11_spin_44 (by decide) ?_
        refine rk_pc (pc' := 46) rfl ?_
        refine rk_iretJ dX11_spin_46 rfl rfl ?_
        rw [show sp_spin (I 26 (R 12 m 0)) (nI k) ft = (-5, none) by rw [sp_spin, hcl, if_pos (sp_bt qz4), if_pos (sp_bt qz16), if_neg qz41]]
        exact ⟨rfl, rfl, rfl⟩
    · skip
      refine rk_bipush (-2) dX11_spin_19 (by decide) ?_
      refine rk_iretJ dX11_spin_21 rfl rfl ?_
      rw [show sp_spin (I 26 (R 12 m 0)) (nI k) ft = (-2, none) by rw [sp_spin, if_pos (sp_bt qz4), if_neg (sp_bf qz16)]]
      exact ⟨rfl, rfl, rfl⟩
  · skip
    refine rk_iconst (-1) dX11_spin_7 (by decide) ?_
    refine rk_iretJ dX11_spin_8 rfl rfl ?_
    rw [show sp_spin (I 26 (R 12 m 0)) f ft = (-1, none) by rw [sp_spin, if_neg (sp_bf qz4)]]
    exact ⟨rfl, rfl, rfl⟩
end MO

