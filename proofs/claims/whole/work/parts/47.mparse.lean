section MP
variable {w : rk_W} {l : Launch} {Sh : rk_Sh} {I : rk_Mm} {R : rk_Rm}
/-- the reader's fields and the jobs -/
def pm_st (I : rk_Mm) (m a : Nat) (t wr mn : Int32) (J : Nat → Int32) : rk_Mm := md_a (md_a I 33 a J) 12 m (sp_u (sp_u (sp_u (I 12 m) 12 t) 13 wr) 11 mn)
theorem pm_r12 {m a : Nat} {t wr mn : Int32} {J : Nat → Int32} : pm_st I m a t wr mn J 12 m 12 = t := by rw [pm_st, md_as, sp_un (by decide), sp_un (by decide), sp_us]
theorem pm_r13 {m a : Nat} {t wr mn : Int32} {J : Nat → Int32} : pm_st I m a t wr mn J 12 m 13 = wr := by rw [pm_st, md_as, sp_un (by decide), sp_us]
theorem pm_r11 {m a : Nat} {t wr mn : Int32} {J : Nat → Int32} : pm_st I m a t wr mn J 12 m 11 = mn := by rw [pm_st, md_as, sp_us]
theorem pm_r7 {m a : Nat} {t wr mn : Int32} {J : Nat → Int32} : pm_st I m a t wr mn J 12 m 7 = I 12 m 7 := by rw [pm_st, md_as, sp_un (by decide), sp_un (by decide), sp_un (by decide)]
theorem pm_r31 {m a : Nat} {t wr mn : Int32} {J : Nat → Int32} : pm_st I m a t wr mn J 31 = I 31 := by rw [pm_st]; funext b; rw [md_ac (by decide), md_ac (by decide)]
theorem pm_r33 {m a : Nat} {t wr mn : Int32} {J : Nat → Int32} : pm_st I m a t wr mn J 33 a = J := by rw [pm_st, md_ac (by decide), md_as]
theorem pm_u12 {m a : Nat} {t wr mn v : Int32} {J : Nat → Int32} : rk_uI (pm_st I m a t wr mn J) 12 m 12 v = pm_st I m a v wr mn J := by
  simp only [pm_st]
  rw [md_u]
  congr 1
  funext j
  simp only [sp_u]
  by_cases h1 : j = 12
  · subst h1; simp
  · simp [h1]
theorem pm_u13 {m a : Nat} {t wr mn v : Int32} {J : Nat → Int32} : rk_uI (pm_st I m a t wr mn J) 12 m 13 v = pm_st I m a t v mn J := by
  simp only [pm_st]
  rw [md_u]
  congr 1
  funext j
  simp only [sp_u]
  by_cases h1 : j = 13
  · subst h1; simp
  · simp [h1]
theorem pm_u11 {m a : Nat} {t wr mn v : Int32} {J : Nat → Int32} : rk_uI (pm_st I m a t wr mn J) 12 m 11 v = pm_st I m a t wr v J := by
  simp only [pm_st]
  rw [md_u]
  congr 1
  funext j
  simp only [sp_u]
  by_cases h1 : j = 11
  · subst h1; simp
  · simp [h1]
theorem pm_u33 {m a j : Nat} {t wr mn v : Int32} {J : Nat → Int32} : rk_uI (pm_st I m a t wr mn J) 33 a j v = pm_st I m a t wr mn (sp_u J j v) := by
  simp only [pm_st]
  rw [md_u1]
  funext c b i
  simp only [md_a, sp_u]
  by_cases h1 : c = 12 ∧ b = m
  · obtain ⟨rfl, rfl⟩ := h1; simp
  · by_cases h2 : c = 33 ∧ b = a
    · obtain ⟨rfl, rfl⟩ := h2; simp
    · simp [h1, h2]
/-- the sign at a place of a text of length L -/
def pg (P : Nat → Int32) (L t : Nat) : Int32 := if t < L then P t else 0
def wi (b : Bool) : Int32 := if b then 1 else 0
def pn (P : Nat → Int32) (L : Nat) (c : Int32) (s : Nat × Bool) : Nat × Bool := if s.2 = false ∧ pg P L s.1 = c then (s.1 + 1, false) else (s.1, true)
noncomputable def pd (P : Nat → Int32) (L : Nat) (lo hi : Int32) (s : Nat × Bool) : (Nat × Bool) × Int32 := @ite _ (s.2 = false ∧ (lo ≤ pg P L s.1 - 48 ∧ pg P L s.1 - 48 ≤ hi)) (Classical.propDecidable _) ((s.1 + 1, false), pg P L s.1 - 48) ((s.1, true), 0)
theorem cX11_sign_s {m t L : Nat} (h12 : I 12 m 12 = nI t) (h7 : I 12 m 7 = nI L) (ht : t ≤ L) (hL : L ≤ 80) : rk_P w l rk_mX11_sign 1 [rk_a 12 m] Sh I R (pg (I 31 (R 12 m 6)) L t) := by
  refine rk_bP (ls := [(0, _)]) (by decide) rfl (Nat.le_of_ble_eq_true rfl) ?_
  refine rk_aload_n 0 dX11_sign_0 rfl rfl ?_
  refine rk_g12_12 rk_kX11_146 dX11_sign_1 ?_
  rw [h12]
  refine rk_aload_n 0 dX11_sign_4 rfl rfl ?_
  refine rk_g12_7 rk_kX11_133 dX11_sign_5 ?_
  rw [h7]
  refine rk_icmp_ge 23 dX11_sign_8 (by decide) (fun qz8 => ?_) (fun qz8 => ?_)
  · skip
    refine rk_iconst 0 dX11_sign_23 (by decide) ?_
    refine rk_iretP dX11_sign_24 rfl rfl ?_
    first | exact (if_neg (fun z => absurd qz8 (nI_ge z (by omega)))).symm | exact (if_pos ((nI_ltI (by omega) (by omega)).mp (Int32.not_le.mp qz8))).symm
  · skip
    refine rk_aload_n 0 dX11_sign_11 rfl rfl ?_
    refine rk_pc (pc' := 12) rfl ?_
    refine rk_g12_6 rk_kX11_26 dX11_sign_12 ?_
    refine rk_aload_n 0 dX11_sign_15 rfl rfl ?_
    refine rk_g12_12 rk_kX11_146 dX11_sign_16 ?_
    rw [h12]
    have hlt : t < L := (nI_ltI (by omega) (by omega)).mp (Int32.not_le.mp qz8)
    refine rk_rn31 (t) dX11_sign_19 (by first | rfl | decide | assumption | (simp only [rk_lit, nI_add, pk_mul, nI_1]; done) | (simp only [rk_lit, nI_add, pk_mul, nI_1]; congr 1; omega)) (by first | decide | assumption | omega) ?_
    refine rk_goto 24 dX11_sign_20 (by decide) ?_
    refine rk_iretP dX11_sign_24 rfl rfl ?_
    first | exact (if_neg (fun z => absurd qz8 (nI_ge z (by omega)))).symm | exact (if_pos ((nI_ltI (by omega) (by omega)).mp (Int32.not_le.mp qz8))).symm
theorem cX11_need_s {m t L : Nat} {b : Bool} {mn : Int32} {J : Nat → Int32} (h7 : I 12 m 7 = nI L) (ht : t ≤ L) (hL : L ≤ 80) (c : Int32) : rk_U w l rk_mX11_need 2 [rk_a 12 m, rk_i c] Sh (pm_st I m (R 12 m 10) (nI t) (wi b) mn J) R (fun I' R' => R' = R ∧ I' = pm_st I m (R 12 m 10) (nI (pn (I 31 (R 12 m 6)) L c (t, b)).1) (wi (pn (I 31 (R 12 m 6)) L c (t, b)).2) mn J) := by
  have hno : ¬ (b = false ∧ pg (I 31 (R 12 m 6)) L t = c) → pn (I 31 (R 12 m 6)) L c (t, b) = (t, true) := fun h => if_neg h
  have hyes : (b = false ∧ pg (I 31 (R 12 m 6)) L t = c) → pn (I 31 (R 12 m 6)) L c (t, b) = (t + 1, false) := fun h => if_pos h
  have hb0 : wi b = 0 → b = false := fun h => by cases b with | false => rfl | true => exact absurd h (by decide)
  have hb1 : ¬ wi b = 0 → ¬ b = false := fun h z => h (by rw [z]; rfl)
  refine rk_bU (ls := [(0, _), (1, _)]) (by decide) rfl (Nat.le_of_ble_eq_true rfl) ?_
  refine rk_aload_n 0 dX11_need_0 rfl rfl ?_
  refine rk_aload_n 0 dX11_need_1 rfl rfl ?_
  refine rk_g12_13 rk_kX11_149 dX11_need_2 ?_
  rw [pm_r13]
  refine rk_if_ne 16 dX11_need_5 (by decide) (fun qz5 => ?_) (fun qz5 => ?_)
  · skip
    refine rk_iconst 1 dX11_need_16 (by decide) ?_
    refine rk_goto 21 dX11_need_17 (by decide) ?_
    refine rk_p12_13 rk_kX11_149 (by decide) dX11_need_21 (fun Iz1 eIz1 => ?_)
    rw [pm_u13] at eIz1
    obtain rfl := eIz1.symm
    refine rk_pc (pc' := 24) rfl ?_
    refine rk_aload_n 0 dX11_need_24 rfl rfl ?_
    refine rk_dup dX11_need_25 rfl ?_
    refine rk_g12_12 rk_kX11_146 dX11_need_26 ?_
    rw [pm_r12]
    refine rk_aload_n 0 dX11_need_29 rfl rfl ?_
    refine rk_g12_13 rk_kX11_149 dX11_need_30 ?_
    rw [pm_r13]
    refine rk_if_eq 40 dX11_need_33 (by decide) (fun qz33 => ?_) (fun qz33 => ?_)
    · skip
      refine rk_iconst 1 dX11_need_40 (by decide) ?_
      refine rk_pc (pc' := 41) rfl ?_
      refine rk_iadd dX11_need_41 ?_
      refine rk_p12_12 rk_kX11_146 dX11_need_42 (fun Iz2 eIz2 => ?_)
      rw [pm_u12] at eIz2
      obtain rfl := eIz2.symm
      refine rk_vretU dX11_need_45 rfl ?_
      first | exact absurd qz33 (by decide) | exact absurd (by decide) qz33 | (rw [hno (fun z => hb1 qz5 z.1)]; exact ⟨rfl, by rw [Int32.add_zero]; rfl⟩) | (rw [hno (fun z => qz13 z.2)]; exact ⟨rfl, by rw [Int32.add_zero]; rfl⟩) | (rw [hyes ⟨hb0 qz5, qz13⟩]; exact ⟨rfl, by rw [nI_1]; rfl⟩)
    · skip
      refine rk_iconst 0 dX11_need_36 (by decide) ?_
      refine rk_goto 41 dX11_need_37 (by decide) ?_
      refine rk_iadd dX11_need_41 ?_
      refine rk_p12_12 rk_kX11_146 dX11_need_42 (fun Iz2 eIz2 => ?_)
      rw [pm_u12] at eIz2
      obtain rfl := eIz2.symm
      refine rk_pc (pc' := 45) rfl ?_
      refine rk_vretU dX11_need_45 rfl ?_
      first | exact absurd qz33 (by decide) | exact absurd (by decide) qz33 | (rw [hno (fun z => hb1 qz5 z.1)]; exact ⟨rfl, by rw [Int32.add_zero]; rfl⟩) | (rw [hno (fun z => qz13 z.2)]; exact ⟨rfl, by rw [Int32.add_zero]; rfl⟩) | (rw [hyes ⟨hb0 qz5, qz13⟩]; exact ⟨rfl, by rw [nI_1]; rfl⟩)
  · skip
    refine rk_aload_n 0 dX11_need_8 rfl rfl ?_
    refine rk_cVp (cX11_sign_s (t := t) (L := L) pm_r12 (pm_r7.trans h7) ht hL) rk_eX11_sign rfl ⟨rfl, rfl⟩ rk_kX11_152 dX11_need_9 rfl (by decide) (Nat.le_of_ble_eq_true rfl) ⟨Nat.le_refl _, Nat.le_refl _⟩ ?_
    rw [pm_r31]
    refine rk_iload_n 1 dX11_need_12 rfl rfl ?_
    refine rk_icmp_eq 20 dX11_need_13 (by decide) (fun qz13 => ?_) (fun qz13 => ?_)
    · skip
      refine rk_iconst 0 dX11_need_20 (by decide) ?_
      refine rk_p12_13 rk_kX11_149 (by decide) dX11_need_21 (fun Iz1 eIz1 => ?_)
      rw [pm_u13] at eIz1
      obtain rfl := eIz1.symm
      refine rk_aload_n 0 dX11_need_24 rfl rfl ?_
      refine rk_pc (pc' := 25) rfl ?_
      refine rk_dup dX11_need_25 rfl ?_
      refine rk_g12_12 rk_kX11_146 dX11_need_26 ?_
      rw [pm_r12]
      refine rk_aload_n 0 dX11_need_29 rfl rfl ?_
      refine rk_g12_13 rk_kX11_149 dX11_need_30 ?_
      rw [pm_r13]
      refine rk_if_eq 40 dX11_need_33 (by decide) (fun qz33 => ?_) (fun qz33 => ?_)
      · skip
        refine rk_iconst 1 dX11_need_40 (by decide) ?_
        refine rk_iadd dX11_need_41 ?_
        refine rk_pc (pc' := 42) rfl ?_
        refine rk_p12_12 rk_kX11_146 dX11_need_42 (fun Iz2 eIz2 => ?_)
        rw [pm_u12] at eIz2
        obtain rfl := eIz2.symm
        refine rk_vretU dX11_need_45 rfl ?_
        first | exact absurd qz33 (by decide) | exact absurd (by decide) qz33 | (rw [hno (fun z => hb1 qz5 z.1)]; exact ⟨rfl, by rw [Int32.add_zero]; rfl⟩) | (rw [hno (fun z => qz13 z.2)]; exact ⟨rfl, by rw [Int32.add_zero]; rfl⟩) | (rw [hyes ⟨hb0 qz5, qz13⟩]; exact ⟨rfl, by rw [nI_1]; rfl⟩)
      · skip
        refine rk_iconst 0 dX11_need_36 (by decide) ?_
        refine rk_goto 41 dX11_need_37 (by decide) ?_
        refine rk_iadd dX11_need_41 ?_
        refine rk_p12_12 rk_kX11_146 dX11_need_42 (fun Iz2 eIz2 => ?_)
        rw [pm_u12] at eIz2
        obtain rfl := eIz2.symm
        refine rk_vretU dX11_need_45 rfl ?_
        first | exact absurd qz33 (by decide) | exact absurd (by decide) qz33 | (rw [hno (fun z => hb1 qz5 z.1)]; exact ⟨rfl, by rw [Int32.add_zero]; rfl⟩) | (rw [hno (fun z => qz13 z.2)]; exact ⟨rfl, by rw [Int32.add_zero]; rfl⟩) | (rw [hyes ⟨hb0 qz5, qz13⟩]; exact ⟨rfl, by rw [nI_1]; rfl⟩)
    · skip
      refine rk_iconst 1 dX11_need_16 (by decide) ?_
      refine rk_pc (pc' := 17) rfl ?_
      refine rk_goto 21 dX11_need_17 (by decide) ?_
      refine rk_p12_13 rk_kX11_149 (by decide) dX11_need_21 (fun Iz1 eIz1 => ?_)
      rw [pm_u13] at eIz1
      obtain rfl := eIz1.symm
      refine rk_aload_n 0 dX11_need_24 rfl rfl ?_
      refine rk_dup dX11_need_25 rfl ?_
      refine rk_g12_12 rk_kX11_146 dX11_need_26 ?_
      rw [pm_r12]
      refine rk_aload_n 0 dX11_need_29 rfl rfl ?_
      refine rk_pc (pc' := 30) rfl ?_
      refine rk_g12_13 rk_kX11_149 dX11_need_30 ?_
      rw [pm_r13]
      refine rk_if_eq 40 dX11_need_33 (by decide) (fun qz33 => ?_) (fun qz33 => ?_)
      · skip
        refine rk_iconst 1 dX11_need_40 (by decide) ?_
        refine rk_iadd dX11_need_41 ?_
        refine rk_p12_12 rk_kX11_146 dX11_need_42 (fun Iz2 eIz2 => ?_)
        rw [pm_u12] at eIz2
        obtain rfl := eIz2.symm
        refine rk_vretU dX11_need_45 rfl ?_
        first | exact absurd qz33 (by decide) | exact absurd (by decide) qz33 | (rw [hno (fun z => hb1 qz5 z.1)]; exact ⟨rfl, by rw [Int32.add_zero]; rfl⟩) | (rw [hno (fun z => qz13 z.2)]; exact ⟨rfl, by rw [Int32.add_zero]; rfl⟩) | (rw [hyes ⟨hb0 qz5, qz13⟩]; exact ⟨rfl, by rw [nI_1]; rfl⟩)
      · skip
        refine rk_iconst 0 dX11_need_36 (by decide) ?_
        refine rk_goto 41 dX11_need_37 (by decide) ?_
        refine rk_pc (pc' := 41) rfl ?_
        refine rk_iadd dX11_need_41 ?_
        refine rk_p12_12 rk_kX11_146 dX11_need_42 (fun Iz2 eIz2 => ?_)
        rw [pm_u12] at eIz2
        obtain rfl := eIz2.symm
        refine rk_vretU dX11_need_45 rfl ?_
        first | exact absurd qz33 (by decide) | exact absurd (by decide) qz33 | (rw [hno (fun z => hb1 qz5 z.1)]; exact ⟨rfl, by rw [Int32.add_zero]; rfl⟩) | (rw [hno (fun z => qz13 z.2)]; exact ⟨rfl, by rw [Int32.add_zero]; rfl⟩) | (rw [hyes ⟨hb0 qz5, qz13⟩]; exact ⟨rfl, by rw [nI_1]; rfl⟩)
theorem cX11_digit_s {m t L : Nat} {b : Bool} {mn : Int32} {J : Nat → Int32} (h7 : I 12 m 7 = nI L) (ht : t ≤ L) (hL : L ≤ 80) (lo hi : Int32) : rk_J w l rk_mX11_digit 2 [rk_a 12 m, rk_i lo, rk_i hi] Sh (pm_st I m (R 12 m 10) (nI t) (wi b) mn J) R (fun r I' R' => r = (pd (I 31 (R 12 m 6)) L lo hi (t, b)).2 ∧ R' = R ∧ I' = pm_st I m (R 12 m 10) (nI (pd (I 31 (R 12 m 6)) L lo hi (t, b)).1.1) (wi (pd (I 31 (R 12 m 6)) L lo hi (t, b)).1.2) mn J) := by
  have hno : ¬ (b = false ∧ (lo ≤ pg (I 31 (R 12 m 6)) L t - 48 ∧ pg (I 31 (R 12 m 6)) L t - 48 ≤ hi)) → pd (I 31 (R 12 m 6)) L lo hi (t, b) = ((t, true), 0) := fun h => if_neg h
  have hyes : (b = false ∧ (lo ≤ pg (I 31 (R 12 m 6)) L t - 48 ∧ pg (I 31 (R 12 m 6)) L t - 48 ≤ hi)) → pd (I 31 (R 12 m 6)) L lo hi (t, b) = ((t + 1, false), pg (I 31 (R 12 m 6)) L t - 48) := fun h => if_pos h
  have hb0 : wi b = 0 → b = false := fun h => by cases b with | false => rfl | true => exact absurd h (by decide)
  have hb1 : ¬ wi b = 0 → ¬ b = false := fun h z => h (by rw [z]; rfl)
  refine rk_bJ (ls := [(0, _), (1, _), (2, _)]) (by decide) rfl (Nat.le_of_ble_eq_true rfl) ?_
  refine rk_aload_n 0 dX11_digit_0 rfl rfl ?_
  refine rk_cVp (cX11_sign_s (t := t) (L := L) pm_r12 (pm_r7.trans h7) ht hL) rk_eX11_sign rfl ⟨rfl, rfl⟩ rk_kX11_152 dX11_digit_1 rfl (by decide) (Nat.le_of_ble_eq_true rfl) ⟨Nat.le_refl _, Nat.le_refl _⟩ ?_
  rw [pm_r31]
  refine rk_bipush 48 dX11_digit_4 (by decide) ?_
  refine rk_isub dX11_digit_6 ?_
  refine rk_istore_n 3 (ls' := [(3, _), (0, _), (1, _), (2, _)]) dX11_digit_7 rfl (by decide) rfl ?_
  refine rk_aload_n 0 dX11_digit_8 rfl rfl ?_
  refine rk_pc (pc' := 9) rfl ?_
  refine rk_aload_n 0 dX11_digit_9 rfl rfl ?_
  refine rk_g12_13 rk_kX11_149 dX11_digit_10 ?_
  rw [pm_r13]
  refine rk_if_ne 25 dX11_digit_13 (by decide) (fun qz13 => ?_) (fun qz13 => ?_)
  · skip
    refine rk_iconst 1 dX11_digit_25 (by decide) ?_
    refine rk_goto 30 dX11_digit_26 (by decide) ?_
    refine rk_p12_13 rk_kX11_149 (by decide) dX11_digit_30 (fun Iz1 eIz1 => ?_)
    rw [pm_u13] at eIz1
    obtain rfl := eIz1.symm
    refine rk_aload_n 0 dX11_digit_33 rfl rfl ?_
    refine rk_pc (pc' := 34) rfl ?_
    refine rk_dup dX11_digit_34 rfl ?_
    refine rk_g12_12 rk_kX11_146 dX11_digit_35 ?_
    rw [pm_r12]
    refine rk_aload_n 0 dX11_digit_38 rfl rfl ?_
    refine rk_g12_13 rk_kX11_149 dX11_digit_39 ?_
    rw [pm_r13]
    refine rk_if_eq 49 dX11_digit_42 (by decide) (fun qz42 => ?_) (fun qz42 => ?_)
    · skip
      refine rk_iconst 1 dX11_digit_49 (by decide) ?_
      refine rk_iadd dX11_digit_50 ?_
      refine rk_pc (pc' := 51) rfl ?_
      refine rk_p12_12 rk_kX11_146 dX11_digit_51 (fun Iz2 eIz2 => ?_)
      rw [pm_u12] at eIz2
      obtain rfl := eIz2.symm
      refine rk_aload_n 0 dX11_digit_54 rfl rfl ?_
      refine rk_g12_13 rk_kX11_149 dX11_digit_55 ?_
      rw [pm_r13]
      refine rk_if_eq 65 dX11_digit_58 (by decide) (fun qz58 => ?_) (fun qz58 => ?_)
      · skip
        refine rk_iload_n 3 dX11_digit_65 rfl rfl ?_
        refine rk_iretJ dX11_digit_66 rfl rfl ?_
        first | exact absurd qz42 (by decide) | exact absurd (by decide) qz42 | exact absurd qz58 (by decide) | exact absurd (by decide) qz58 | (rw [hno (fun z => hb1 qz13 z.1)]; exact ⟨rfl, rfl, by rw [Int32.add_zero]; rfl⟩) | (rw [hno (fun z => sp_bf qz22 z.2)]; exact ⟨rfl, rfl, by rw [Int32.add_zero]; rfl⟩) | (rw [hyes ⟨hb0 qz13, sp_bt qz22⟩]; exact ⟨rfl, rfl, by rw [nI_1]; rfl⟩)
      · skip
        refine rk_iconst 0 dX11_digit_61 (by decide) ?_
        refine rk_goto 66 dX11_digit_62 (by decide) ?_
        refine rk_pc (pc' := 66) rfl ?_
        refine rk_iretJ dX11_digit_66 rfl rfl ?_
        first | exact absurd qz42 (by decide) | exact absurd (by decide) qz42 | exact absurd qz58 (by decide) | exact absurd (by decide) qz58 | (rw [hno (fun z => hb1 qz13 z.1)]; exact ⟨rfl, rfl, by rw [Int32.add_zero]; rfl⟩) | (rw [hno (fun z => sp_bf qz22 z.2)]; exact ⟨rfl, rfl, by rw [Int32.add_zero]; rfl⟩) | (rw [hyes ⟨hb0 qz13, sp_bt qz22⟩]; exact ⟨rfl, rfl, by rw [nI_1]; rfl⟩)
    · skip
      refine rk_iconst 0 dX11_digit_45 (by decide) ?_
      refine rk_goto 50 dX11_digit_46 (by decide) ?_
      refine rk_iadd dX11_digit_50 ?_
      refine rk_p12_12 rk_kX11_146 dX11_digit_51 (fun Iz2 eIz2 => ?_)
      rw [pm_u12] at eIz2
      obtain rfl := eIz2.symm
      refine rk_aload_n 0 dX11_digit_54 rfl rfl ?_
      refine rk_g12_13 rk_kX11_149 dX11_digit_55 ?_
      rw [pm_r13]
      refine rk_pc (pc' := 58) rfl ?_
      refine rk_if_eq 65 dX11_digit_58 (by decide) (fun qz58 => ?_) (fun qz58 => ?_)
      · skip
        refine rk_iload_n 3 dX11_digit_65 rfl rfl ?_
        refine rk_iretJ dX11_digit_66 rfl rfl ?_
        first | exact absurd qz42 (by decide) | exact absurd (by decide) qz42 | exact absurd qz58 (by decide) | exact absurd (by decide) qz58 | (rw [hno (fun z => hb1 qz13 z.1)]; exact ⟨rfl, rfl, by rw [Int32.add_zero]; rfl⟩) | (rw [hno (fun z => sp_bf qz22 z.2)]; exact ⟨rfl, rfl, by rw [Int32.add_zero]; rfl⟩) | (rw [hyes ⟨hb0 qz13, sp_bt qz22⟩]; exact ⟨rfl, rfl, by rw [nI_1]; rfl⟩)
      · skip
        refine rk_iconst 0 dX11_digit_61 (by decide) ?_
        refine rk_goto 66 dX11_digit_62 (by decide) ?_
        refine rk_iretJ dX11_digit_66 rfl rfl ?_
        first | exact absurd qz42 (by decide) | exact absurd (by decide) qz42 | exact absurd qz58 (by decide) | exact absurd (by decide) qz58 | (rw [hno (fun z => hb1 qz13 z.1)]; exact ⟨rfl, rfl, by rw [Int32.add_zero]; rfl⟩) | (rw [hno (fun z => sp_bf qz22 z.2)]; exact ⟨rfl, rfl, by rw [Int32.add_zero]; rfl⟩) | (rw [hyes ⟨hb0 qz13, sp_bt qz22⟩]; exact ⟨rfl, rfl, by rw [nI_1]; rfl⟩)
  · skip
    refine rk_iload_n 3 dX11_digit_16 rfl rfl ?_
    refine rk_iload_n 1 dX11_digit_17 rfl rfl ?_
    refine rk_iload_n 2 dX11_digit_18 rfl rfl ?_
    refine rk_pc (pc' := 19) rfl ?_
    refine rk_cSp (cX11_in_s _ _ _) rk_eX11_in rfl rk_kX11_43 dX11_digit_19 rfl (by decide) (Nat.le_of_ble_eq_true rfl) ⟨Nat.le_refl _, Nat.le_refl _⟩ ?_
    refine rk_if_ne 29 dX11_digit_22 (by decide) (fun qz22 => ?_) (fun qz22 => ?_)
    · skip
      refine rk_iconst 0 dX11_digit_29 (by decide) ?_
      refine rk_p12_13 rk_kX11_149 (by decide) dX11_digit_30 (fun Iz1 eIz1 => ?_)
      rw [pm_u13] at eIz1
      obtain rfl := eIz1.symm
      refine rk_aload_n 0 dX11_digit_33 rfl rfl ?_
      refine rk_dup dX11_digit_34 rfl ?_
      refine rk_g12_12 rk_kX11_146 dX11_digit_35 ?_
      rw [pm_r12]
      refine rk_pc (pc' := 38) rfl ?_
      refine rk_aload_n 0 dX11_digit_38 rfl rfl ?_
      refine rk_g12_13 rk_kX11_149 dX11_digit_39 ?_
      rw [pm_r13]
      refine rk_if_eq 49 dX11_digit_42 (by decide) (fun qz42 => ?_) (fun qz42 => ?_)
      · skip
        refine rk_iconst 1 dX11_digit_49 (by decide) ?_
        refine rk_iadd dX11_digit_50 ?_
        refine rk_p12_12 rk_kX11_146 dX11_digit_51 (fun Iz2 eIz2 => ?_)
        rw [pm_u12] at eIz2
        obtain rfl := eIz2.symm
        refine rk_aload_n 0 dX11_digit_54 rfl rfl ?_
        refine rk_pc (pc' := 55) rfl ?_
        refine rk_g12_13 rk_kX11_149 dX11_digit_55 ?_
        rw [pm_r13]
        refine rk_if_eq 65 dX11_digit_58 (by decide) (fun qz58 => ?_) (fun qz58 => ?_)
        · skip
          refine rk_iload_n 3 dX11_digit_65 rfl rfl ?_
          refine rk_iretJ dX11_digit_66 rfl rfl ?_
          first | exact absurd qz42 (by decide) | exact absurd (by decide) qz42 | exact absurd qz58 (by decide) | exact absurd (by decide) qz58 | (rw [hno (fun z => hb1 qz13 z.1)]; exact ⟨rfl, rfl, by rw [Int32.add_zero]; rfl⟩) | (rw [hno (fun z => sp_bf qz22 z.2)]; exact ⟨rfl, rfl, by rw [Int32.add_zero]; rfl⟩) | (rw [hyes ⟨hb0 qz13, sp_bt qz22⟩]; exact ⟨rfl, rfl, by rw [nI_1]; rfl⟩)
        · skip
          refine rk_iconst 0 dX11_digit_61 (by decide) ?_
          refine rk_goto 66 dX11_digit_62 (by decide) ?_
          refine rk_iretJ dX11_digit_66 rfl rfl ?_
          first | exact absurd qz42 (by decide) | exact absurd (by decide) qz42 | exact absurd qz58 (by decide) | exact absurd (by decide) qz58 | (rw [hno (fun z => hb1 qz13 z.1)]; exact ⟨rfl, rfl, by rw [Int32.add_zero]; rfl⟩) | (rw [hno (fun z => sp_bf qz22 z.2)]; exact ⟨rfl, rfl, by rw [Int32.add_zero]; rfl⟩) | (rw [hyes ⟨hb0 qz13, sp_bt qz22⟩]; exact ⟨rfl, rfl, by rw [nI_1]; rfl⟩)
      · skip
        refine rk_iconst 0 dX11_digit_45 (by decide) ?_
        refine rk_goto 50 dX11_digit_46 (by decide) ?_
        refine rk_pc (pc' := 50) rfl ?_
        refine rk_iadd dX11_digit_50 ?_
        refine rk_p12_12 rk_kX11_146 dX11_digit_51 (fun Iz2 eIz2 => ?_)
        rw [pm_u12] at eIz2
        obtain rfl := eIz2.symm
        refine rk_aload_n 0 dX11_digit_54 rfl rfl ?_
        refine rk_g12_13 rk_kX11_149 dX11_digit_55 ?_
        rw [pm_r13]
        refine rk_if_eq 65 dX11_digit_58 (by decide) (fun qz58 => ?_) (fun qz58 => ?_)
        · skip
          refine rk_iload_n 3 dX11_digit_65 rfl rfl ?_
          refine rk_iretJ dX11_digit_66 rfl rfl ?_
          first | exact absurd qz42 (by decide) | exact absurd (by decide) qz42 | exact absurd qz58 (by decide) | exact absurd (by decide) qz58 | (rw [hno (fun z => hb1 qz13 z.1)]; exact ⟨rfl, rfl, by rw [Int32.add_zero]; rfl⟩) | (rw [hno (fun z => sp_bf qz22 z.2)]; exact ⟨rfl, rfl, by rw [Int32.add_zero]; rfl⟩) | (rw [hyes ⟨hb0 qz13, sp_bt qz22⟩]; exact ⟨rfl, rfl, by rw [nI_1]; rfl⟩)
        · skip
          refine rk_iconst 0 dX11_digit_61 (by decide) ?_
          refine rk_pc (pc' := 62) rfl ?_
          refine rk_goto 66 dX11_digit_62 (by decide) ?_
          refine rk_iretJ dX11_digit_66 rfl rfl ?_
          first | exact absurd qz42 (by decide) | exact absurd (by decide) qz42 | exact absurd qz58 (by decide) | exact absurd (by decide) qz58 | (rw [hno (fun z => hb1 qz13 z.1)]; exact ⟨rfl, rfl, by rw [Int32.add_zero]; rfl⟩) | (rw [hno (fun z => sp_bf qz22 z.2)]; exact ⟨rfl, rfl, by rw [Int32.add_zero]; rfl⟩) | (rw [hyes ⟨hb0 qz13, sp_bt qz22⟩]; exact ⟨rfl, rfl, by rw [nI_1]; rfl⟩)
    · skip
      refine rk_iconst 1 dX11_digit_25 (by decide) ?_
      refine rk_goto 30 dX11_digit_26 (by decide) ?_
      refine rk_p12_13 rk_kX11_149 (by decide) dX11_digit_30 (fun Iz1 eIz1 => ?_)
      rw [pm_u13] at eIz1
      obtain rfl := eIz1.symm
      refine rk_aload_n 0 dX11_digit_33 rfl rfl ?_
      refine rk_dup dX11_digit_34 rfl ?_
      refine rk_pc (pc' := 35) rfl ?_
      refine rk_g12_12 rk_kX11_146 dX11_digit_35 ?_
      rw [pm_r12]
      refine rk_aload_n 0 dX11_digit_38 rfl rfl ?_
      refine rk_g12_13 rk_kX11_149 dX11_digit_39 ?_
      rw [pm_r13]
      refine rk_if_eq 49 dX11_digit_42 (by decide) (fun qz42 => ?_) (fun qz42 => ?_)
      · skip
        refine rk_iconst 1 dX11_digit_49 (by decide) ?_
        refine rk_iadd dX11_digit_50 ?_
        refine rk_p12_12 rk_kX11_146 dX11_digit_51 (fun Iz2 eIz2 => ?_)
        rw [pm_u12] at eIz2
        obtain rfl := eIz2.symm
        refine rk_pc (pc' := 54) rfl ?_
        refine rk_aload_n 0 dX11_digit_54 rfl rfl ?_
        refine rk_g12_13 rk_kX11_149 dX11_digit_55 ?_
        rw [pm_r13]
        refine rk_if_eq 65 dX11_digit_58 (by decide) (fun qz58 => ?_) (fun qz58 => ?_)
        · skip
          refine rk_iload_n 3 dX11_digit_65 rfl rfl ?_
          refine rk_iretJ dX11_digit_66 rfl rfl ?_
          first | exact absurd qz42 (by decide) | exact absurd (by decide) qz42 | exact absurd qz58 (by decide) | exact absurd (by decide) qz58 | (rw [hno (fun z => hb1 qz13 z.1)]; exact ⟨rfl, rfl, by rw [Int32.add_zero]; rfl⟩) | (rw [hno (fun z => sp_bf qz22 z.2)]; exact ⟨rfl, rfl, by rw [Int32.add_zero]; rfl⟩) | (rw [hyes ⟨hb0 qz13, sp_bt qz22⟩]; exact ⟨rfl, rfl, by rw [nI_1]; rfl⟩)
        · skip
          refine rk_iconst 0 dX11_digit_61 (by decide) ?_
          refine rk_goto 66 dX11_digit_62 (by decide) ?_
          refine rk_iretJ dX11_digit_66 rfl rfl ?_
          first | exact absurd qz42 (by decide) | exact absurd (by decide) qz42 | exact absurd qz58 (by decide) | exact absurd (by decide) qz58 | (rw [hno (fun z => hb1 qz13 z.1)]; exact ⟨rfl, rfl, by rw [Int32.add_zero]; rfl⟩) | (rw [hno (fun z => sp_bf qz22 z.2)]; exact ⟨rfl, rfl, by rw [Int32.add_zero]; rfl⟩) | (rw [hyes ⟨hb0 qz13, sp_bt qz22⟩]; exact ⟨rfl, rfl, by rw [nI_1]; rfl⟩)
      · skip
        refine rk_iconst 0 dX11_digit_45 (by decide) ?_
        refine rk_pc (pc' := 46) rfl ?_
        refine rk_goto 50 dX11_digit_46 (by decide) ?_
        refine rk_iadd dX11_digit_50 ?_
        refine rk_p12_12 rk_kX11_146 dX11_digit_51 (fun Iz2 eIz2 => ?_)
        rw [pm_u12] at eIz2
        obtain rfl := eIz2.symm
        refine rk_aload_n 0 dX11_digit_54 rfl rfl ?_
        refine rk_g12_13 rk_kX11_149 dX11_digit_55 ?_
        rw [pm_r13]
        refine rk_if_eq 65 dX11_digit_58 (by decide) (fun qz58 => ?_) (fun qz58 => ?_)
        · skip
          refine rk_iload_n 3 dX11_digit_65 rfl rfl ?_
          refine rk_pc (pc' := 66) rfl ?_
          refine rk_iretJ dX11_digit_66 rfl rfl ?_
          first | exact absurd qz42 (by decide) | exact absurd (by decide) qz42 | exact absurd qz58 (by decide) | exact absurd (by decide) qz58 | (rw [hno (fun z => hb1 qz13 z.1)]; exact ⟨rfl, rfl, by rw [Int32.add_zero]; rfl⟩) | (rw [hno (fun z => sp_bf qz22 z.2)]; exact ⟨rfl, rfl, by rw [Int32.add_zero]; rfl⟩) | (rw [hyes ⟨hb0 qz13, sp_bt qz22⟩]; exact ⟨rfl, rfl, by rw [nI_1]; rfl⟩)
        · skip
          refine rk_iconst 0 dX11_digit_61 (by decide) ?_
          refine rk_goto 66 dX11_digit_62 (by decide) ?_
          refine rk_iretJ dX11_digit_66 rfl rfl ?_
          first | exact absurd qz42 (by decide) | exact absurd (by decide) qz42 | exact absurd qz58 (by decide) | exact absurd (by decide) qz58 | (rw [hno (fun z => hb1 qz13 z.1)]; exact ⟨rfl, rfl, by rw [Int32.add_zero]; rfl⟩) | (rw [hno (fun z => sp_bf qz22 z.2)]; exact ⟨rfl, rfl, by rw [Int32.add_zero]; rfl⟩) | (rw [hyes ⟨hb0 qz13, sp_bt qz22⟩]; exact ⟨rfl, rfl, by rw [nI_1]; rfl⟩)
noncomputable def pl (P : Nat → Int32) (L : Nat) : Nat → Nat → Nat → Nat × Nat
  | 0, t, v => (t, v)
  | k + 1, t, v => @ite _ (0 < v ∧ (48 ≤ pg P L t ∧ pg P L t ≤ 57)) (Classical.propDecidable _) (pl P L k (t + 1) (10 * v + (pg P L t - 48).toNatClampNeg)) (t, v)
theorem pg_in {P : Nat → Int32} {L t : Nat} (h : ¬ pg P L t = 0) : t < L := Classical.byContradiction fun z => h (if_neg z)
theorem pg_dig {P : Nat → Int32} {L t : Nat} (h : 48 ≤ pg P L t ∧ pg P L t ≤ 57) : t < L ∧ ∃ d, d ≤ 9 ∧ pg P L t = nI (48 + d) := by
  obtain ⟨q, hq, hqn⟩ := rk_in_n (n := 57) rfl (by decide) ⟨Int32.le_trans (by decide) h.1, h.2⟩
  have h48 : 48 ≤ q := (nI_leI (a := 48) (by decide) (by omega)).mp (by rw [← hqn]; exact h.1)
  refine ⟨pg_in (P := P) (fun z => ?_), q - 48, by omega, by rw [hqn]; congr 1; omega⟩
  have := h.1
  rw [z] at this
  exact absurd this (by decide)
theorem cX11_number_l {m L : Nat} {mn : Int32} {J : Nat → Int32} (h7 : I 12 m 7 = nI L) (hL : L ≤ 80) : ∀ k t v : Nat, t ≤ L → k ≤ 4 → (v = 0 ∨ ((v + 1) * 10 ^ k ≤ 100000 ∧ 10000 ≤ v * 10 ^ k)) → rk_Wp w l rk_mX11_number 3 0 0 (rk_GJ w Sh (fun r I' R' => r = nI (pl (I 31 (R 12 m 6)) L k t v).2 ∧ R' = R ∧ I' = pm_st I m (R 12 m 10) (nI (pl (I 31 (R 12 m 6)) L k t v).1) (wi false) mn J)) 8 [(0, rk_a 12 m), (1, rk_i (nI v))] [] (Sh, 0, 0) (pm_st I m (R 12 m 10) (nI t) (wi false) mn J) R := by
  intro k
  induction k with
  | zero =>
    intro t v ht hk hv
    have hvb : v < 100000 := by omega
    refine rk_aload_n 0 dX11_number_8 rfl rfl ?_
    refine rk_g12_13 rk_kX11_149 dX11_number_9 ?_
    rw [pm_r13]
    refine rk_if_ne 76 dX11_number_12 (by decide) (fun qz12 => ?_) (fun qz12 => ?_)
    · skip
      exact absurd rfl qz12
    · skip
      refine rk_iload_n 1 dX11_number_15 rfl rfl ?_
      refine rk_if_le 76 dX11_number_16 (by decide) (fun qz16 => ?_) (fun qz16 => ?_)
      · skip
        refine rk_iload_n 1 dX11_number_76 rfl rfl ?_
        refine rk_iretJ dX11_number_77 rfl rfl ?_
        exact ⟨rfl, rfl, rfl⟩
      · skip
        refine rk_aload_n 0 dX11_number_19 rfl rfl ?_
        refine rk_cVp (cX11_sign_s (t := t) (L := L) pm_r12 (pm_r7.trans h7) ht hL) rk_eX11_sign rfl ⟨rfl, rfl⟩ rk_kX11_152 dX11_number_20 rfl (by decide) (Nat.le_of_ble_eq_true rfl) ⟨Nat.le_refl _, Nat.le_refl _⟩ ?_
        rw [pm_r31]
        refine rk_pc (pc' := 23) rfl ?_
        refine rk_bipush 48 dX11_number_23 (by decide) ?_
        refine rk_bipush 57 dX11_number_25 (by decide) ?_
        refine rk_cSp (cX11_in_s _ _ _) rk_eX11_in rfl rk_kX11_43 dX11_number_27 rfl (by decide) (Nat.le_of_ble_eq_true rfl) ⟨Nat.le_refl _, Nat.le_refl _⟩ ?_
        refine rk_if_eq 76 dX11_number_30 (by decide) (fun qz30 => ?_) (fun qz30 => ?_)
        · skip
          refine rk_iload_n 1 dX11_number_76 rfl rfl ?_
          refine rk_iretJ dX11_number_77 rfl rfl ?_
          exact ⟨rfl, rfl, rfl⟩
        · skip
          obtain ⟨htl, d, hd, hdn⟩ := pg_dig (sp_bt qz30)
          have h0 : 0 < v := Nat.pos_of_ne_zero (fun z => qz16 (by rw [z]; exact Int32.le_refl _))
          have hvv : (10 : Int32) * nI v + nI (48 + d) - 48 = nI (10 * v + d) := by rw [show (10 : Int32) = nI 10 from rfl, pk_mul, nI_add, show (48 : Int32) = nI 48 from rfl, pk_sub (by omega)]; congr 1; omega
          refine rk_bipush 10 dX11_number_33 (by decide) ?_
          refine rk_iload_n 1 dX11_number_35 rfl rfl ?_
          refine rk_pc (pc' := 36) rfl ?_
          refine rk_imul dX11_number_36 ?_
          refine rk_aload_n 0 dX11_number_37 rfl rfl ?_
          refine rk_cVp (cX11_sign_s (t := t) (L := L) pm_r12 (pm_r7.trans h7) ht hL) rk_eX11_sign rfl ⟨rfl, rfl⟩ rk_kX11_152 dX11_number_38 rfl (by decide) (Nat.le_of_ble_eq_true rfl) ⟨Nat.le_refl _, Nat.le_refl _⟩ ?_
          rw [pm_r31, hdn]
          refine rk_iadd dX11_number_41 ?_
          refine rk_bipush 48 dX11_number_42 (by decide) ?_
          refine rk_isub dX11_number_44 ?_
          rw [hvv]
          refine rk_pc (pc' := 45) rfl ?_
          refine rk_ldc 99999 dX11_number_45 (by first | exact rk_inT 1157 (by decide +kernel) (by decide +kernel)) ?_
          refine rk_icmp_gt 76 dX11_number_47 (by decide) (fun qz47 => ?_) (fun qz47 => ?_)
          · skip
            refine rk_iload_n 1 dX11_number_76 rfl rfl ?_
            refine rk_iretJ dX11_number_77 rfl rfl ?_
            exact ⟨rfl, rfl, rfl⟩
          · skip
            exact absurd (nI_lt (a := 99999) (b := 10 * v + d) (by omega) (by omega)) qz47
  | succ k ih =>
    intro t v ht hk hv
    have hvb : v < 100000 := by
      rcases hv with hv | hv
      · omega
      · have : v + 1 ≤ (v + 1) * 10 ^ (k + 1) := Nat.le_mul_of_pos_right _ (Nat.pos_of_ne_zero (by simp))
        omega
    have hno : ¬ (0 < v ∧ (48 ≤ pg (I 31 (R 12 m 6)) L t ∧ pg (I 31 (R 12 m 6)) L t ≤ 57)) → pl (I 31 (R 12 m 6)) L (k + 1) t v = (t, v) := fun h => if_neg h
    have hyes : (0 < v ∧ (48 ≤ pg (I 31 (R 12 m 6)) L t ∧ pg (I 31 (R 12 m 6)) L t ≤ 57)) → pl (I 31 (R 12 m 6)) L (k + 1) t v = pl (I 31 (R 12 m 6)) L k (t + 1) (10 * v + (pg (I 31 (R 12 m 6)) L t - 48).toNatClampNeg) := fun h => if_pos h
    refine rk_aload_n 0 dX11_number_8 rfl rfl ?_
    refine rk_g12_13 rk_kX11_149 dX11_number_9 ?_
    rw [pm_r13]
    refine rk_if_ne 76 dX11_number_12 (by decide) (fun qz12 => ?_) (fun qz12 => ?_)
    · skip
      exact absurd rfl qz12
    · skip
      refine rk_iload_n 1 dX11_number_15 rfl rfl ?_
      refine rk_if_le 76 dX11_number_16 (by decide) (fun qz16 => ?_) (fun qz16 => ?_)
      · skip
        refine rk_iload_n 1 dX11_number_76 rfl rfl ?_
        refine rk_iretJ dX11_number_77 rfl rfl ?_
        first | (rw [hno (fun z => absurd qz16 (nI_nle z.1 (by omega)))]; exact ⟨rfl, rfl, rfl⟩) | (rw [hno (fun z => sp_bf qz30 z.2)]; exact ⟨rfl, rfl, rfl⟩)
      · skip
        refine rk_aload_n 0 dX11_number_19 rfl rfl ?_
        refine rk_cVp (cX11_sign_s (t := t) (L := L) pm_r12 (pm_r7.trans h7) ht hL) rk_eX11_sign rfl ⟨rfl, rfl⟩ rk_kX11_152 dX11_number_20 rfl (by decide) (Nat.le_of_ble_eq_true rfl) ⟨Nat.le_refl _, Nat.le_refl _⟩ ?_
        rw [pm_r31]
        refine rk_pc (pc' := 23) rfl ?_
        refine rk_bipush 48 dX11_number_23 (by decide) ?_
        refine rk_bipush 57 dX11_number_25 (by decide) ?_
        refine rk_cSp (cX11_in_s _ _ _) rk_eX11_in rfl rk_kX11_43 dX11_number_27 rfl (by decide) (Nat.le_of_ble_eq_true rfl) ⟨Nat.le_refl _, Nat.le_refl _⟩ ?_
        refine rk_if_eq 76 dX11_number_30 (by decide) (fun qz30 => ?_) (fun qz30 => ?_)
        · skip
          refine rk_iload_n 1 dX11_number_76 rfl rfl ?_
          refine rk_iretJ dX11_number_77 rfl rfl ?_
          first | (rw [hno (fun z => absurd qz16 (nI_nle z.1 (by omega)))]; exact ⟨rfl, rfl, rfl⟩) | (rw [hno (fun z => sp_bf qz30 z.2)]; exact ⟨rfl, rfl, rfl⟩)
        · skip
          obtain ⟨htl, d, hd, hdn⟩ := pg_dig (sp_bt qz30)
          have h0 : 0 < v := Nat.pos_of_ne_zero (fun z => qz16 (by rw [z]; exact Int32.le_refl _))
          have hvv : (10 : Int32) * nI v + nI (48 + d) - 48 = nI (10 * v + d) := by rw [show (10 : Int32) = nI 10 from rfl, pk_mul, nI_add, show (48 : Int32) = nI 48 from rfl, pk_sub (by omega)]; congr 1; omega
          have hdc : (pg (I 31 (R 12 m 6)) L t - 48).toNatClampNeg = d := by rw [hdn, show (48 : Int32) = nI 48 from rfl, pk_sub (by omega), nI_clamp (by omega)]; omega
          have hv2 : (10 * v + d + 1) * 10 ^ k ≤ 100000 ∧ 10000 ≤ (10 * v + d) * 10 ^ k := by
            obtain ⟨g1, g2⟩ := hv.resolve_left (by omega)
            rw [Nat.pow_succ] at g1 g2
            have a1 : (10 * v + d + 1) * 10 ^ k ≤ (10 * (v + 1)) * 10 ^ k := Nat.mul_le_mul_right _ (by omega)
            have a2 : (10 * v) * 10 ^ k ≤ (10 * v + d) * 10 ^ k := Nat.mul_le_mul_right _ (by omega)
            have a3 : (10 * (v + 1)) * 10 ^ k = (v + 1) * (10 ^ k * 10) := by rw [Nat.mul_comm 10 (v + 1), Nat.mul_assoc, Nat.mul_comm 10]
            have a4 : (10 * v) * 10 ^ k = v * (10 ^ k * 10) := by rw [Nat.mul_comm 10 v, Nat.mul_assoc, Nat.mul_comm 10]
            omega
          have hv3 : 10 * v + d + 1 ≤ (10 * v + d + 1) * 10 ^ k := Nat.le_mul_of_pos_right _ (Nat.pos_of_ne_zero (by simp))
          have hle : ¬ nI 99999 < nI (10 * v + d) := nI_nlt (by omega) (by omega)
          refine rk_bipush 10 dX11_number_33 (by decide) ?_
          refine rk_iload_n 1 dX11_number_35 rfl rfl ?_
          refine rk_pc (pc' := 36) rfl ?_
          refine rk_imul dX11_number_36 ?_
          refine rk_aload_n 0 dX11_number_37 rfl rfl ?_
          refine rk_cVp (cX11_sign_s (t := t) (L := L) pm_r12 (pm_r7.trans h7) ht hL) rk_eX11_sign rfl ⟨rfl, rfl⟩ rk_kX11_152 dX11_number_38 rfl (by decide) (Nat.le_of_ble_eq_true rfl) ⟨Nat.le_refl _, Nat.le_refl _⟩ ?_
          rw [pm_r31, hdn]
          refine rk_iadd dX11_number_41 ?_
          refine rk_bipush 48 dX11_number_42 (by decide) ?_
          refine rk_isub dX11_number_44 ?_
          rw [hvv]
          refine rk_pc (pc' := 45) rfl ?_
          refine rk_ldc 99999 dX11_number_45 (by first | exact rk_inT 1157 (by decide +kernel) (by decide +kernel)) ?_
          refine rk_icmp_gt 76 dX11_number_47 (by decide) (fun qz47 => ?_) (fun qz47 => ?_)
          · skip
            exact absurd qz47 hle
          · skip
            refine rk_bipush 10 dX11_number_50 (by decide) ?_
            refine rk_iload_n 1 dX11_number_52 rfl rfl ?_
            refine rk_imul dX11_number_53 ?_
            refine rk_aload_n 0 dX11_number_54 rfl rfl ?_
            refine rk_cVp (cX11_sign_s (t := t) (L := L) pm_r12 (pm_r7.trans h7) ht hL) rk_eX11_sign rfl ⟨rfl, rfl⟩ rk_kX11_152 dX11_number_55 rfl (by decide) (Nat.le_of_ble_eq_true rfl) ⟨Nat.le_refl _, Nat.le_refl _⟩ ?_
            rw [pm_r31, hdn]
            refine rk_pc (pc' := 58) rfl ?_
            refine rk_iadd dX11_number_58 ?_
            refine rk_bipush 48 dX11_number_59 (by decide) ?_
            refine rk_isub dX11_number_61 ?_
            rw [hvv]
            refine rk_istore_n 1 (ls' := [(1, _), (0, _)]) dX11_number_62 rfl (by decide) rfl ?_
            refine rk_aload_n 0 dX11_number_63 rfl rfl ?_
            refine rk_dup dX11_number_64 rfl ?_
            refine rk_pc (pc' := 65) rfl ?_
            refine rk_g12_12 rk_kX11_146 dX11_number_65 ?_
            rw [pm_r12]
            refine rk_iconst 1 dX11_number_68 (by decide) ?_
            refine rk_iadd dX11_number_69 ?_
            refine rk_p12_12 rk_kX11_146 dX11_number_70 (fun Iz1 eIz1 => ?_)
            rw [pm_u12, nI_1] at eIz1
            obtain rfl := eIz1.symm
            refine rk_goto 8 dX11_number_73 (by decide) ?_
            refine rk_ord [0, 1] (ls' := [(0, _), (1, _)]) rfl ?_
            rw [hyes ⟨h0, sp_bt qz30⟩, hdc]
            exact ih (t + 1) (10 * v + d) (by omega) (by omega) (Or.inr hv2)
noncomputable def pN (P : Nat → Int32) (L : Nat) (s : Nat × Bool) : (Nat × Bool) × Int32 := if (pd P L 0 9 s).1.2 = true then pd P L 0 9 s else (((pl P L 4 (pd P L 0 9 s).1.1 (pd P L 0 9 s).2.toNatClampNeg).1, false), nI (pl P L 4 (pd P L 0 9 s).1.1 (pd P L 0 9 s).2.toNatClampNeg).2)
theorem ple_n {P : Nat → Int32} {L : Nat} {c : Int32} {s : Nat × Bool} (hc : ¬ c = 0) (h : s.1 ≤ L) : (pn P L c s).1 ≤ L := by
  simp only [pn]
  split
  · next z => exact pg_in (P := P) (by rw [z.2]; exact hc)
  · exact h
theorem ple_d {P : Nat → Int32} {L : Nat} {lo hi : Int32} {s : Nat × Bool} (hc : 0 ≤ lo) (h : s.1 ≤ L) : (pd P L lo hi s).1.1 ≤ L := by
  simp only [pd]
  split
  · next z => exact pg_in (P := P) (fun y => by
      have g := Int32.le_trans hc z.2.1
      rw [y] at g
      exact absurd g (by decide))
  · exact h
theorem ple_l {P : Nat → Int32} {L : Nat} : ∀ k t v, t ≤ L → (pl P L k t v).1 ≤ L := by
  intro k
  induction k with
  | zero => intro t v h; exact h
  | succ k ih =>
    intro t v h
    simp only [pl]
    split
    · next z => exact ih _ _ (pg_dig z.2).1
    · exact h
theorem ple_N {P : Nat → Int32} {L : Nat} {s : Nat × Bool} (h : s.1 ≤ L) : (pN P L s).1.1 ≤ L := by
  simp only [pN]
  split
  · exact ple_d (by decide) h
  · exact ple_l _ _ _ (ple_d (by decide) h)
theorem cX11_number_w {m t : Nat} {mn x : Int32} {J : Nat → Int32} : rk_Wp w l rk_mX11_number 3 0 0 (rk_GJ w Sh (fun r I' R' => r = x ∧ R' = R ∧ I' = pm_st I m (R 12 m 10) (nI t) (wi true) mn J)) 8 [(0, rk_a 12 m), (1, rk_i x)] [] (Sh, 0, 0) (pm_st I m (R 12 m 10) (nI t) (wi true) mn J) R := by
  refine rk_aload_n 0 dX11_number_8 rfl rfl ?_
  refine rk_g12_13 rk_kX11_149 dX11_number_9 ?_
  rw [pm_r13]
  refine rk_if_ne 76 dX11_number_12 (by decide) (fun qz12 => ?_) (fun qz12 => ?_)
  · skip
    refine rk_iload_n 1 dX11_number_76 rfl rfl ?_
    refine rk_iretJ dX11_number_77 rfl rfl ?_
    exact ⟨rfl, rfl, rfl⟩
  · skip
    exact absurd qz12 (by decide)
theorem cX11_number_s {m t L : Nat} {b : Bool} {mn : Int32} {J : Nat → Int32} (h7 : I 12 m 7 = nI L) (ht : t ≤ L) (hL : L ≤ 80) : rk_J w l rk_mX11_number 3 [rk_a 12 m] Sh (pm_st I m (R 12 m 10) (nI t) (wi b) mn J) R (fun r I' R' => r = (pN (I 31 (R 12 m 6)) L (t, b)).2 ∧ R' = R ∧ I' = pm_st I m (R 12 m 10) (nI (pN (I 31 (R 12 m 6)) L (t, b)).1.1) (wi (pN (I 31 (R 12 m 6)) L (t, b)).1.2) mn J) := by
  have hw : (pd (I 31 (R 12 m 6)) L 0 9 (t, b)).1.2 = true → pN (I 31 (R 12 m 6)) L (t, b) = pd (I 31 (R 12 m 6)) L 0 9 (t, b) := fun h => if_pos h
  have hr : (pd (I 31 (R 12 m 6)) L 0 9 (t, b)).1.2 = false → pN (I 31 (R 12 m 6)) L (t, b) = (((pl (I 31 (R 12 m 6)) L 4 (pd (I 31 (R 12 m 6)) L 0 9 (t, b)).1.1 (pd (I 31 (R 12 m 6)) L 0 9 (t, b)).2.toNatClampNeg).1, false), nI (pl (I 31 (R 12 m 6)) L 4 (pd (I 31 (R 12 m 6)) L 0 9 (t, b)).1.1 (pd (I 31 (R 12 m 6)) L 0 9 (t, b)).2.toNatClampNeg).2) := fun h => if_neg (by rw [h]; decide)
  have hle : (pd (I 31 (R 12 m 6)) L 0 9 (t, b)).1.1 ≤ L := ple_d (by decide) ht
  have hdg : (pd (I 31 (R 12 m 6)) L 0 9 (t, b)).1.2 = false → ∃ d, d ≤ 9 ∧ (pd (I 31 (R 12 m 6)) L 0 9 (t, b)).2 = nI d := fun h => by
    by_cases z : b = false ∧ (0 ≤ pg (I 31 (R 12 m 6)) L t - 48 ∧ pg (I 31 (R 12 m 6)) L t - 48 ≤ 9)
    · rw [show pd (I 31 (R 12 m 6)) L 0 9 (t, b) = ((t + 1, false), pg (I 31 (R 12 m 6)) L t - 48) from if_pos z]
      exact rk_in_n (n := 9) rfl (by decide) z.2
    · rw [show pd (I 31 (R 12 m 6)) L 0 9 (t, b) = ((t, true), 0) from if_neg z] at h
      cases h
  refine rk_bJ (ls := [(0, _)]) (by decide) rfl (Nat.le_of_ble_eq_true rfl) ?_
  refine rk_aload_n 0 dX11_number_0 rfl rfl ?_
  refine rk_iconst 0 dX11_number_1 (by decide) ?_
  refine rk_bipush 9 dX11_number_2 (by decide) ?_
  refine rk_cVi (cX11_digit_s h7 ht hL _ _) rk_eX11_digit rfl ⟨rfl, rfl⟩ rk_kX11_155 dX11_number_4 rfl (by decide) (Nat.le_of_ble_eq_true rfl) ⟨Nat.le_refl _, Nat.le_refl _⟩ (fun xz1 Iz1 Rz1 hz1 => ?_)
  obtain ⟨rfl, qhz1, eIz1⟩ := hz1
  obtain rfl := qhz1.symm
  obtain rfl := eIz1.symm
  refine rk_istore_n 1 (ls' := [(1, _), (0, _)]) dX11_number_7 rfl (by decide) rfl ?_
  refine rk_ord [0, 1] (ls' := [(0, _), (1, _)]) rfl ?_
  generalize hb : (pd (I 31 (R 12 m 6)) L 0 9 (t, b)).1.2 = bb at *
  cases bb with
  | true => rw [hw rfl, hb]; exact cX11_number_w
  | false =>
    obtain ⟨d, hd, hdn⟩ := hdg rfl
    rw [hr rfl, hdn, nI_clamp (by omega)]
    exact cX11_number_l h7 hL 4 _ d hle (by decide) (by omega)
noncomputable def po (P : Nat → Int32) (L : Nat) (kd : Int32) (s : Nat × Bool) (J : Nat → Int32) (b : Nat) : (Nat × Bool) × (Nat → Int32) :=
  if kd = 106 then ((pN P L (pn P L 38 (pN P L s).1)).1, sp_u (sp_u J (b + 1) (pN P L s).2) (b + 2) (pN P L (pn P L 38 (pN P L s).1)).2)
  else if kd = 108 then ((pN P L (pn P L 61 (pN P L (pn P L 120 (pd P L 3 4 (pn P L 58 (pd P L 0 2 s).1)).1)).1)).1, sp_u (sp_u (sp_u (sp_u J (b + 1) (pd P L 0 2 s).2) (b + 2) (pd P L 3 4 (pn P L 58 (pd P L 0 2 s).1)).2) (b + 3) (pN P L (pn P L 120 (pd P L 3 4 (pn P L 58 (pd P L 0 2 s).1)).1)).2) (b + 4) (pN P L (pn P L 61 (pN P L (pn P L 120 (pd P L 3 4 (pn P L 58 (pd P L 0 2 s).1)).1)).1)).2)
  else if kd = 121 then ((pN P L (pn P L 43 (pd P L 0 2 s).1)).1, sp_u (sp_u J (b + 1) (pd P L 0 2 s).2) (b + 2) (pN P L (pn P L 43 (pd P L 0 2 s).1)).2)
  else ((pN P L s).1, sp_u J (b + 1) (pN P L s).2)
theorem cX11_readOne_k {m t L mn : Nat} {kd : Int32} {J : Nat → Int32} (h7 : I 12 m 7 = nI L) (ht : t + 1 ≤ L) (hL : L ≤ 80) (hm : mn ≤ 39) : rk_Wp w l rk_mX11_readOne 4 0 0 (rk_GU w Sh (fun I' R' => R' = R ∧ I' = pm_st I m (R 12 m 10) (nI (po (I 31 (R 12 m 6)) L kd (t + 1, false) J (5 * mn)).1.1) (wi (po (I 31 (R 12 m 6)) L kd (t + 1, false) J (5 * mn)).1.2) (nI (mn + 1)) (po (I 31 (R 12 m 6)) L kd (t + 1, false) J (5 * mn)).2)) 79 [(0, rk_a 12 m), (1, rk_i (nI (5 * mn))), (2, rk_i kd)] [] (Sh, 0, 0) (pm_st I m (R 12 m 10) (nI t) (wi false) (nI mn) J) R := by
  have ht0 : ((t + 1, false) : Nat × Bool).1 ≤ L := ht
  have e6 : kd = 106 → po (I 31 (R 12 m 6)) L kd (t + 1, false) J (5 * mn) = _ := fun h => if_pos h
  have e8 : kd = 108 → po (I 31 (R 12 m 6)) L kd (t + 1, false) J (5 * mn) = _ := fun h => (if_neg (by rw [h]; decide)).trans (if_pos h)
  have ey : kd = 121 → po (I 31 (R 12 m 6)) L kd (t + 1, false) J (5 * mn) = _ := fun h => (if_neg (by rw [h]; decide)).trans ((if_neg (by rw [h]; decide)).trans (if_pos h))
  have eo : ¬ kd = 106 → ¬ kd = 108 → ¬ kd = 121 → po (I 31 (R 12 m 6)) L kd (t + 1, false) J (5 * mn) = _ := fun h h2 h3 => (if_neg h).trans ((if_neg h2).trans (if_neg h3))
  refine rk_aload_n 0 dX11_readOne_79 rfl rfl ?_
  refine rk_dup dX11_readOne_80 rfl ?_
  refine rk_g12_12 rk_kX11_146 dX11_readOne_81 ?_
  rw [pm_r12]
  refine rk_iconst 1 dX11_readOne_84 (by decide) ?_
  refine rk_iadd dX11_readOne_85 ?_
  refine rk_p12_12 rk_kX11_146 dX11_readOne_86 (fun Iz1 eIz1 => ?_)
  rw [pm_u12, nI_1] at eIz1
  obtain rfl := eIz1.symm
  refine rk_pc (pc' := 89) rfl ?_
  refine rk_iload_n 2 dX11_readOne_89 rfl rfl ?_
  refine rk_lsw 265 dX11_readOne_90 (by decide) (by decide) (by decide) ?_ (fun qz90 => ?_)
  · refine ⟨fun qz90 => ?_, fun qz90 => ?_, fun qz90 => ?_, trivial⟩
    · skip
      have hw : kd = 106 := rk_toI qz90 (by decide)
      refine rk_pc (pc' := 232) (by decide) ?_
      refine rk_aload_n 0 dX11_readOne_232 rfl rfl ?_
      refine rk_g12_10 rk_kX11_32 dX11_readOne_233 ?_
      refine rk_iload_n 1 dX11_readOne_236 rfl rfl ?_
      refine rk_iconst 1 dX11_readOne_237 (by decide) ?_
      refine rk_iadd dX11_readOne_238 ?_
      refine rk_pc (pc' := 239) rfl ?_
      refine rk_aload_n 0 dX11_readOne_239 rfl rfl ?_
      refine rk_cVi (cX11_number_s h7 (by repeat (first | exact ht0 | refine ple_n (by decide) ?_ | refine ple_d (by decide) ?_ | refine ple_N ?_)) hL) rk_eX11_number rfl ⟨rfl, rfl⟩ rk_kX11_165 dX11_readOne_240 rfl (by decide) (Nat.le_of_ble_eq_true rfl) ⟨Nat.le_refl _, Nat.le_refl _⟩ (fun xz2 Iz2 Rz2 hz2 => ?_)
      obtain ⟨rfl, qhz2, eIz2⟩ := hz2
      obtain rfl := qhz2.symm
      obtain rfl := eIz2.symm
      refine rk_sn33 (5*mn + 1) dX11_readOne_243 (by first | rfl | decide | assumption | (simp only [rk_lit, nI_add, pk_mul, nI_1]; done) | (simp only [rk_lit, nI_add, pk_mul, nI_1]; congr 1; omega)) (by first | decide | assumption | omega) (fun Iz3 eIz3 => ?_)
      rw [pm_u33] at eIz3
      obtain rfl := eIz3.symm
      refine rk_aload_n 0 dX11_readOne_244 rfl rfl ?_
      refine rk_bipush 38 dX11_readOne_245 (by decide) ?_
      refine rk_cVv (cX11_need_s h7 (by repeat (first | exact ht0 | refine ple_n (by decide) ?_ | refine ple_d (by decide) ?_ | refine ple_N ?_)) hL _) rk_eX11_need rfl ⟨rfl, rfl⟩ rk_kX11_162 dX11_readOne_247 rfl (by decide) (Nat.le_of_ble_eq_true rfl) ⟨Nat.le_refl _, Nat.le_refl _⟩ (fun Iz4 Rz4 hz4 => ?_)
      obtain ⟨qhz4, eIz4⟩ := hz4
      obtain rfl := qhz4.symm
      obtain rfl := eIz4.symm
      refine rk_pc (pc' := 250) rfl ?_
      refine rk_aload_n 0 dX11_readOne_250 rfl rfl ?_
      refine rk_g12_10 rk_kX11_32 dX11_readOne_251 ?_
      refine rk_iload_n 1 dX11_readOne_254 rfl rfl ?_
      refine rk_iconst 2 dX11_readOne_255 (by decide) ?_
      refine rk_iadd dX11_readOne_256 ?_
      refine rk_aload_n 0 dX11_readOne_257 rfl rfl ?_
      refine rk_pc (pc' := 258) rfl ?_
      refine rk_cVi (cX11_number_s h7 (by repeat (first | exact ht0 | refine ple_n (by decide) ?_ | refine ple_d (by decide) ?_ | refine ple_N ?_)) hL) rk_eX11_number rfl ⟨rfl, rfl⟩ rk_kX11_165 dX11_readOne_258 rfl (by decide) (Nat.le_of_ble_eq_true rfl) ⟨Nat.le_refl _, Nat.le_refl _⟩ (fun xz5 Iz5 Rz5 hz5 => ?_)
      obtain ⟨rfl, qhz5, eIz5⟩ := hz5
      obtain rfl := qhz5.symm
      obtain rfl := eIz5.symm
      refine rk_sn33 (5*mn + 2) dX11_readOne_261 (by first | rfl | decide | assumption | (simp only [rk_lit, nI_add, pk_mul, nI_1]; done) | (simp only [rk_lit, nI_add, pk_mul, nI_1]; congr 1; omega)) (by first | decide | assumption | omega) (fun Iz6 eIz6 => ?_)
      rw [pm_u33] at eIz6
      obtain rfl := eIz6.symm
      refine rk_goto 277 dX11_readOne_262 (by decide) ?_
      refine rk_aload_n 0 dX11_readOne_277 rfl rfl ?_
      refine rk_dup dX11_readOne_278 rfl ?_
      refine rk_g12_11 rk_kX11_159 dX11_readOne_279 ?_
      rw [pm_r11]
      refine rk_pc (pc' := 282) rfl ?_
      refine rk_iconst 1 dX11_readOne_282 (by decide) ?_
      refine rk_iadd dX11_readOne_283 ?_
      refine rk_p12_11 rk_kX11_159 dX11_readOne_284 (fun Iz7 eIz7 => ?_)
      rw [pm_u11, nI_1] at eIz7
      obtain rfl := eIz7.symm
      refine rk_vretU dX11_readOne_287 rfl ?_
      first | (rw [e6 hw]; exact ⟨rfl, rfl⟩) | (rw [e8 hw]; exact ⟨rfl, rfl⟩) | (rw [ey hw]; exact ⟨rfl, rfl⟩) | (rw [eo (fun z => by rw [z] at qz90; exact absurd qz90 (by decide)) (fun z => by rw [z] at qz90; exact absurd qz90 (by decide)) (fun z => by rw [z] at qz90; exact absurd qz90 (by decide))]; exact ⟨rfl, rfl⟩)
    · skip
      have hw : kd = 108 := rk_toI qz90 (by decide)
      refine rk_pc (pc' := 159) (by decide) ?_
      refine rk_aload_n 0 dX11_readOne_159 rfl rfl ?_
      refine rk_g12_10 rk_kX11_32 dX11_readOne_160 ?_
      refine rk_iload_n 1 dX11_readOne_163 rfl rfl ?_
      refine rk_pc (pc' := 164) rfl ?_
      refine rk_iconst 1 dX11_readOne_164 (by decide) ?_
      refine rk_iadd dX11_readOne_165 ?_
      refine rk_aload_n 0 dX11_readOne_166 rfl rfl ?_
      refine rk_iconst 0 dX11_readOne_167 (by decide) ?_
      refine rk_iconst 2 dX11_readOne_168 (by decide) ?_
      refine rk_cVi (cX11_digit_s h7 (by repeat (first | exact ht0 | refine ple_n (by decide) ?_ | refine ple_d (by decide) ?_ | refine ple_N ?_)) hL _ _) rk_eX11_digit rfl ⟨rfl, rfl⟩ rk_kX11_155 dX11_readOne_169 rfl (by decide) (Nat.le_of_ble_eq_true rfl) ⟨Nat.le_refl _, Nat.le_refl _⟩ (fun xz2 Iz2 Rz2 hz2 => ?_)
      obtain ⟨rfl, qhz2, eIz2⟩ := hz2
      obtain rfl := qhz2.symm
      obtain rfl := eIz2.symm
      refine rk_pc (pc' := 172) rfl ?_
      refine rk_sn33 (5*mn + 1) dX11_readOne_172 (by first | rfl | decide | assumption | (simp only [rk_lit, nI_add, pk_mul, nI_1]; done) | (simp only [rk_lit, nI_add, pk_mul, nI_1]; congr 1; omega)) (by first | decide | assumption | omega) (fun Iz3 eIz3 => ?_)
      rw [pm_u33] at eIz3
      obtain rfl := eIz3.symm
      refine rk_aload_n 0 dX11_readOne_173 rfl rfl ?_
      refine rk_bipush 58 dX11_readOne_174 (by decide) ?_
      refine rk_cVv (cX11_need_s h7 (by repeat (first | exact ht0 | refine ple_n (by decide) ?_ | refine ple_d (by decide) ?_ | refine ple_N ?_)) hL _) rk_eX11_need rfl ⟨rfl, rfl⟩ rk_kX11_162 dX11_readOne_176 rfl (by decide) (Nat.le_of_ble_eq_true rfl) ⟨Nat.le_refl _, Nat.le_refl _⟩ (fun Iz4 Rz4 hz4 => ?_)
      obtain ⟨qhz4, eIz4⟩ := hz4
      obtain rfl := qhz4.symm
      obtain rfl := eIz4.symm
      refine rk_aload_n 0 dX11_readOne_179 rfl rfl ?_
      refine rk_g12_10 rk_kX11_32 dX11_readOne_180 ?_
      refine rk_pc (pc' := 183) rfl ?_
      refine rk_iload_n 1 dX11_readOne_183 rfl rfl ?_
      refine rk_iconst 2 dX11_readOne_184 (by decide) ?_
      refine rk_iadd dX11_readOne_185 ?_
      refine rk_aload_n 0 dX11_readOne_186 rfl rfl ?_
      refine rk_iconst 3 dX11_readOne_187 (by decide) ?_
      refine rk_iconst 4 dX11_readOne_188 (by decide) ?_
      refine rk_pc (pc' := 189) rfl ?_
      refine rk_cVi (cX11_digit_s h7 (by repeat (first | exact ht0 | refine ple_n (by decide) ?_ | refine ple_d (by decide) ?_ | refine ple_N ?_)) hL _ _) rk_eX11_digit rfl ⟨rfl, rfl⟩ rk_kX11_155 dX11_readOne_189 rfl (by decide) (Nat.le_of_ble_eq_true rfl) ⟨Nat.le_refl _, Nat.le_refl _⟩ (fun xz5 Iz5 Rz5 hz5 => ?_)
      obtain ⟨rfl, qhz5, eIz5⟩ := hz5
      obtain rfl := qhz5.symm
      obtain rfl := eIz5.symm
      refine rk_sn33 (5*mn + 2) dX11_readOne_192 (by first | rfl | decide | assumption | (simp only [rk_lit, nI_add, pk_mul, nI_1]; done) | (simp only [rk_lit, nI_add, pk_mul, nI_1]; congr 1; omega)) (by first | decide | assumption | omega) (fun Iz6 eIz6 => ?_)
      rw [pm_u33] at eIz6
      obtain rfl := eIz6.symm
      refine rk_aload_n 0 dX11_readOne_193 rfl rfl ?_
      refine rk_bipush 120 dX11_readOne_194 (by decide) ?_
      refine rk_cVv (cX11_need_s h7 (by repeat (first | exact ht0 | refine ple_n (by decide) ?_ | refine ple_d (by decide) ?_ | refine ple_N ?_)) hL _) rk_eX11_need rfl ⟨rfl, rfl⟩ rk_kX11_162 dX11_readOne_196 rfl (by decide) (Nat.le_of_ble_eq_true rfl) ⟨Nat.le_refl _, Nat.le_refl _⟩ (fun Iz7 Rz7 hz7 => ?_)
      obtain ⟨qhz7, eIz7⟩ := hz7
      obtain rfl := qhz7.symm
      obtain rfl := eIz7.symm
      refine rk_aload_n 0 dX11_readOne_199 rfl rfl ?_
      refine rk_pc (pc' := 200) rfl ?_
      refine rk_g12_10 rk_kX11_32 dX11_readOne_200 ?_
      refine rk_iload_n 1 dX11_readOne_203 rfl rfl ?_
      refine rk_iconst 3 dX11_readOne_204 (by decide) ?_
      refine rk_iadd dX11_readOne_205 ?_
      refine rk_aload_n 0 dX11_readOne_206 rfl rfl ?_
      refine rk_cVi (cX11_number_s h7 (by repeat (first | exact ht0 | refine ple_n (by decide) ?_ | refine ple_d (by decide) ?_ | refine ple_N ?_)) hL) rk_eX11_number rfl ⟨rfl, rfl⟩ rk_kX11_165 dX11_readOne_207 rfl (by decide) (Nat.le_of_ble_eq_true rfl) ⟨Nat.le_refl _, Nat.le_refl _⟩ (fun xz8 Iz8 Rz8 hz8 => ?_)
      obtain ⟨rfl, qhz8, eIz8⟩ := hz8
      obtain rfl := qhz8.symm
      obtain rfl := eIz8.symm
      refine rk_pc (pc' := 210) rfl ?_
      refine rk_sn33 (5*mn + 3) dX11_readOne_210 (by first | rfl | decide | assumption | (simp only [rk_lit, nI_add, pk_mul, nI_1]; done) | (simp only [rk_lit, nI_add, pk_mul, nI_1]; congr 1; omega)) (by first | decide | assumption | omega) (fun Iz9 eIz9 => ?_)
      rw [pm_u33] at eIz9
      obtain rfl := eIz9.symm
      refine rk_aload_n 0 dX11_readOne_211 rfl rfl ?_
      refine rk_bipush 61 dX11_readOne_212 (by decide) ?_
      refine rk_cVv (cX11_need_s h7 (by repeat (first | exact ht0 | refine ple_n (by decide) ?_ | refine ple_d (by decide) ?_ | refine ple_N ?_)) hL _) rk_eX11_need rfl ⟨rfl, rfl⟩ rk_kX11_162 dX11_readOne_214 rfl (by decide) (Nat.le_of_ble_eq_true rfl) ⟨Nat.le_refl _, Nat.le_refl _⟩ (fun Iz10 Rz10 hz10 => ?_)
      obtain ⟨qhz10, eIz10⟩ := hz10
      obtain rfl := qhz10.symm
      obtain rfl := eIz10.symm
      refine rk_aload_n 0 dX11_readOne_217 rfl rfl ?_
      refine rk_g12_10 rk_kX11_32 dX11_readOne_218 ?_
      refine rk_pc (pc' := 221) rfl ?_
      refine rk_iload_n 1 dX11_readOne_221 rfl rfl ?_
      refine rk_iconst 4 dX11_readOne_222 (by decide) ?_
      refine rk_iadd dX11_readOne_223 ?_
      refine rk_aload_n 0 dX11_readOne_224 rfl rfl ?_
      refine rk_cVi (cX11_number_s h7 (by repeat (first | exact ht0 | refine ple_n (by decide) ?_ | refine ple_d (by decide) ?_ | refine ple_N ?_)) hL) rk_eX11_number rfl ⟨rfl, rfl⟩ rk_kX11_165 dX11_readOne_225 rfl (by decide) (Nat.le_of_ble_eq_true rfl) ⟨Nat.le_refl _, Nat.le_refl _⟩ (fun xz11 Iz11 Rz11 hz11 => ?_)
      obtain ⟨rfl, qhz11, eIz11⟩ := hz11
      obtain rfl := qhz11.symm
      obtain rfl := eIz11.symm
      refine rk_sn33 (5*mn + 4) dX11_readOne_228 (by first | rfl | decide | assumption | (simp only [rk_lit, nI_add, pk_mul, nI_1]; done) | (simp only [rk_lit, nI_add, pk_mul, nI_1]; congr 1; omega)) (by first | decide | assumption | omega) (fun Iz12 eIz12 => ?_)
      rw [pm_u33] at eIz12
      obtain rfl := eIz12.symm
      refine rk_pc (pc' := 229) rfl ?_
      refine rk_goto 277 dX11_readOne_229 (by decide) ?_
      refine rk_aload_n 0 dX11_readOne_277 rfl rfl ?_
      refine rk_dup dX11_readOne_278 rfl ?_
      refine rk_g12_11 rk_kX11_159 dX11_readOne_279 ?_
      rw [pm_r11]
      refine rk_iconst 1 dX11_readOne_282 (by decide) ?_
      refine rk_iadd dX11_readOne_283 ?_
      refine rk_pc (pc' := 284) rfl ?_
      refine rk_p12_11 rk_kX11_159 dX11_readOne_284 (fun Iz13 eIz13 => ?_)
      rw [pm_u11, nI_1] at eIz13
      obtain rfl := eIz13.symm
      refine rk_vretU dX11_readOne_287 rfl ?_
      first | (rw [e6 hw]; exact ⟨rfl, rfl⟩) | (rw [e8 hw]; exact ⟨rfl, rfl⟩) | (rw [ey hw]; exact ⟨rfl, rfl⟩) | (rw [eo (fun z => by rw [z] at qz90; exact absurd qz90 (by decide)) (fun z => by rw [z] at qz90; exact absurd qz90 (by decide)) (fun z => by rw [z] at qz90; exact absurd qz90 (by decide))]; exact ⟨rfl, rfl⟩)
    · skip
      have hw : kd = 121 := rk_toI qz90 (by decide)
      refine rk_pc (pc' := 124) (by decide) ?_
      refine rk_aload_n 0 dX11_readOne_124 rfl rfl ?_
      refine rk_g12_10 rk_kX11_32 dX11_readOne_125 ?_
      refine rk_iload_n 1 dX11_readOne_128 rfl rfl ?_
      refine rk_iconst 1 dX11_readOne_129 (by decide) ?_
      refine rk_iadd dX11_readOne_130 ?_
      refine rk_pc (pc' := 131) rfl ?_
      refine rk_aload_n 0 dX11_readOne_131 rfl rfl ?_
      refine rk_iconst 0 dX11_readOne_132 (by decide) ?_
      refine rk_iconst 2 dX11_readOne_133 (by decide) ?_
      refine rk_cVi (cX11_digit_s h7 (by repeat (first | exact ht0 | refine ple_n (by decide) ?_ | refine ple_d (by decide) ?_ | refine ple_N ?_)) hL _ _) rk_eX11_digit rfl ⟨rfl, rfl⟩ rk_kX11_155 dX11_readOne_134 rfl (by decide) (Nat.le_of_ble_eq_true rfl) ⟨Nat.le_refl _, Nat.le_refl _⟩ (fun xz2 Iz2 Rz2 hz2 => ?_)
      obtain ⟨rfl, qhz2, eIz2⟩ := hz2
      obtain rfl := qhz2.symm
      obtain rfl := eIz2.symm
      refine rk_sn33 (5*mn + 1) dX11_readOne_137 (by first | rfl | decide | assumption | (simp only [rk_lit, nI_add, pk_mul, nI_1]; done) | (simp only [rk_lit, nI_add, pk_mul, nI_1]; congr 1; omega)) (by first | decide | assumption | omega) (fun Iz3 eIz3 => ?_)
      rw [pm_u33] at eIz3
      obtain rfl := eIz3.symm
      refine rk_aload_n 0 dX11_readOne_138 rfl rfl ?_
      refine rk_pc (pc' := 139) rfl ?_
      refine rk_bipush 43 dX11_readOne_139 (by decide) ?_
      refine rk_cVv (cX11_need_s h7 (by repeat (first | exact ht0 | refine ple_n (by decide) ?_ | refine ple_d (by decide) ?_ | refine ple_N ?_)) hL _) rk_eX11_need rfl ⟨rfl, rfl⟩ rk_kX11_162 dX11_readOne_141 rfl (by decide) (Nat.le_of_ble_eq_true rfl) ⟨Nat.le_refl _, Nat.le_refl _⟩ (fun Iz4 Rz4 hz4 => ?_)
      obtain ⟨qhz4, eIz4⟩ := hz4
      obtain rfl := qhz4.symm
      obtain rfl := eIz4.symm
      refine rk_aload_n 0 dX11_readOne_144 rfl rfl ?_
      refine rk_g12_10 rk_kX11_32 dX11_readOne_145 ?_
      refine rk_iload_n 1 dX11_readOne_148 rfl rfl ?_
      refine rk_iconst 2 dX11_readOne_149 (by decide) ?_
      refine rk_pc (pc' := 150) rfl ?_
      refine rk_iadd dX11_readOne_150 ?_
      refine rk_aload_n 0 dX11_readOne_151 rfl rfl ?_
      refine rk_cVi (cX11_number_s h7 (by repeat (first | exact ht0 | refine ple_n (by decide) ?_ | refine ple_d (by decide) ?_ | refine ple_N ?_)) hL) rk_eX11_number rfl ⟨rfl, rfl⟩ rk_kX11_165 dX11_readOne_152 rfl (by decide) (Nat.le_of_ble_eq_true rfl) ⟨Nat.le_refl _, Nat.le_refl _⟩ (fun xz5 Iz5 Rz5 hz5 => ?_)
      obtain ⟨rfl, qhz5, eIz5⟩ := hz5
      obtain rfl := qhz5.symm
      obtain rfl := eIz5.symm
      refine rk_sn33 (5*mn + 2) dX11_readOne_155 (by first | rfl | decide | assumption | (simp only [rk_lit, nI_add, pk_mul, nI_1]; done) | (simp only [rk_lit, nI_add, pk_mul, nI_1]; congr 1; omega)) (by first | decide | assumption | omega) (fun Iz6 eIz6 => ?_)
      rw [pm_u33] at eIz6
      obtain rfl := eIz6.symm
      refine rk_goto 277 dX11_readOne_156 (by decide) ?_
      refine rk_aload_n 0 dX11_readOne_277 rfl rfl ?_
      refine rk_pc (pc' := 278) rfl ?_
      refine rk_dup dX11_readOne_278 rfl ?_
      refine rk_g12_11 rk_kX11_159 dX11_readOne_279 ?_
      rw [pm_r11]
      refine rk_iconst 1 dX11_readOne_282 (by decide) ?_
      refine rk_iadd dX11_readOne_283 ?_
      refine rk_p12_11 rk_kX11_159 dX11_readOne_284 (fun Iz7 eIz7 => ?_)
      rw [pm_u11, nI_1] at eIz7
      obtain rfl := eIz7.symm
      refine rk_vretU dX11_readOne_287 rfl ?_
      first | (rw [e6 hw]; exact ⟨rfl, rfl⟩) | (rw [e8 hw]; exact ⟨rfl, rfl⟩) | (rw [ey hw]; exact ⟨rfl, rfl⟩) | (rw [eo (fun z => by rw [z] at qz90; exact absurd qz90 (by decide)) (fun z => by rw [z] at qz90; exact absurd qz90 (by decide)) (fun z => by rw [z] at qz90; exact absurd qz90 (by decide))]; exact ⟨rfl, rfl⟩)
  · skip
    refine rk_aload_n 0 dX11_readOne_265 rfl rfl ?_
    refine rk_pc (pc' := 266) rfl ?_
    refine rk_g12_10 rk_kX11_32 dX11_readOne_266 ?_
    refine rk_iload_n 1 dX11_readOne_269 rfl rfl ?_
    refine rk_iconst 1 dX11_readOne_270 (by decide) ?_
    refine rk_iadd dX11_readOne_271 ?_
    refine rk_aload_n 0 dX11_readOne_272 rfl rfl ?_
    refine rk_cVi (cX11_number_s h7 (by repeat (first | exact ht0 | refine ple_n (by decide) ?_ | refine ple_d (by decide) ?_ | refine ple_N ?_)) hL) rk_eX11_number rfl ⟨rfl, rfl⟩ rk_kX11_165 dX11_readOne_273 rfl (by decide) (Nat.le_of_ble_eq_true rfl) ⟨Nat.le_refl _, Nat.le_refl _⟩ (fun xz2 Iz2 Rz2 hz2 => ?_)
    obtain ⟨rfl, qhz2, eIz2⟩ := hz2
    obtain rfl := qhz2.symm
    obtain rfl := eIz2.symm
    refine rk_pc (pc' := 276) rfl ?_
    refine rk_sn33 (5*mn + 1) dX11_readOne_276 (by first | rfl | decide | assumption | (simp only [rk_lit, nI_add, pk_mul, nI_1]; done) | (simp only [rk_lit, nI_add, pk_mul, nI_1]; congr 1; omega)) (by first | decide | assumption | omega) (fun Iz3 eIz3 => ?_)
    rw [pm_u33] at eIz3
    obtain rfl := eIz3.symm
    refine rk_aload_n 0 dX11_readOne_277 rfl rfl ?_
    refine rk_dup dX11_readOne_278 rfl ?_
    refine rk_g12_11 rk_kX11_159 dX11_readOne_279 ?_
    rw [pm_r11]
    refine rk_iconst 1 dX11_readOne_282 (by decide) ?_
    refine rk_iadd dX11_readOne_283 ?_
    refine rk_pc (pc' := 284) rfl ?_
    refine rk_p12_11 rk_kX11_159 dX11_readOne_284 (fun Iz4 eIz4 => ?_)
    rw [pm_u11, nI_1] at eIz4
    obtain rfl := eIz4.symm
    refine rk_vretU dX11_readOne_287 rfl ?_
    first | (rw [e6 hw]; exact ⟨rfl, rfl⟩) | (rw [e8 hw]; exact ⟨rfl, rfl⟩) | (rw [ey hw]; exact ⟨rfl, rfl⟩) | (rw [eo (fun z => by rw [z] at qz90; exact absurd qz90 (by decide)) (fun z => by rw [z] at qz90; exact absurd qz90 (by decide)) (fun z => by rw [z] at qz90; exact absurd qz90 (by decide))]; exact ⟨rfl, rfl⟩)
end MP

