section MP
variable {w : rk_W} {l : Launch} {Sh : rk_Sh} {I : rk_Mm} {R : rk_Rm}
/-- the reader's fields and the jobs -/
def pm_st (I : rk_Mm) (m a : Nat) (t wr mn : Int32) (J : Nat → Int32) : rk_Mm := md_a (md_a I 33 a J) 12 m (sp_u (sp_u (sp_u (I 12 m) 12 t) 13 wr) 11 mn)
theorem pm_r12 {m a : Nat} {t wr mn : Int32} {J : Nat → Int32} : pm_st I m a t wr mn J 12 m 12 = t := by rw [pm_st, md_as, sp_un (by decide), sp_un (by decide), sp_us]
theorem pm_r13 {m a : Nat} {t wr mn : Int32} {J : Nat → Int32} : pm_st I m a t wr mn J 12 m 13 = wr := by rw [pm_st, md_as, sp_un (by decide), sp_us]
theorem pm_r11 {m a : Nat} {t wr mn : Int32} {J : Nat → Int32} : pm_st I m a t wr mn J 12 m 11 = mn := by rw [pm_st, md_as, sp_us]
theorem pm_r7 {m a : Nat} {t wr mn : Int32} {J : Nat → Int32} : pm_st I m a t wr mn J 12 m 7 = I 12 m 7 := by rw [pm_st, md_as, sp_un (by decide), sp_un (by decide), sp_un (by decide)]
theorem pm_r31 {m a : Nat} {t wr mn : Int32} {J : Nat → Int32} : pm_st I m a t wr mn J 31 = I 31 := by rw [pm_st]; funext b; rw [md_ac (by decide), md_ac (by decide)]
theorem pm_r33 {m a : Nat} {t wr mn : Int32} {J : Nat → Int32} : pm_st I m a t wr mn J 33 a = J := by rw [pm_st, md_ac (by decide), md_as]
theorem pm_u12 {m a : Nat} {t wr mn v : Int32} {J : Nat → Int32} : rk_uI (pm_st I m a t wr mn J) 12 m 12 v = pm_st I m a v wr mn J := by
  simp only [pm_st]
  rw [md_u]
  congr 1
  funext j
  simp only [sp_u]
  by_cases h1 : j = 12
  · subst h1; simp
  · simp [h1]
theorem pm_u13 {m a : Nat} {t wr mn v : Int32} {J : Nat → Int32} : rk_uI (pm_st I m a t wr mn J) 12 m 13 v = pm_st I m a t v mn J := by
  simp only [pm_st]
  rw [md_u]
  congr 1
  funext j
  simp only [sp_u]
  by_cases h1 : j = 13
  · subst h1; simp
  · simp [h1]
theorem pm_u11 {m a : Nat} {t wr mn v : Int32} {J : Nat → Int32} : rk_uI (pm_st I m a t wr mn J) 12 m 11 v = pm_st I m a t wr v J := by
  simp only [pm_st]
  rw [md_u]
  congr 1
  funext j
  simp only [sp_u]
  by_cases h1 : j = 11
  · subst h1; simp
  · simp [h1]
theorem pm_u33 {m a j : Nat} {t wr mn v : Int32} {J : Nat → Int32} : rk_uI (pm_st I m a t wr mn J) 33 a j v = pm_st I m a t wr mn (sp_u J j v) := by
  simp only [pm_st]
  rw [md_u1]
  funext c b i
  simp only [md_a, sp_u]
  by_cases h1 : c = 12 ∧ b = m
  · obtain ⟨rfl, rfl⟩ := h1; simp
  · by_cases h2 : c = 33 ∧ b = a
    · obtain ⟨rfl, rfl⟩ := h2; simp
    · simp [h1, h2]
/-- the sign at a place of a text of length L -/
def pg (P : Nat → Int32) (L t : Nat) : Int32 := if t < L then P t else 0
def wi (b : Bool) : Int32 := if b then 1 else 0
def pn (P : Nat → Int32) (L : Nat) (c : Int32) (s : Nat × Bool) : Nat × Bool := if s.2 = false ∧ pg P L s.1 = c then (s.1 + 1, false) else (s.1, true)
noncomputable def pd (P : Nat → Int32) (L : Nat) (lo hi : Int32) (s : Nat × Bool) : (Nat × Bool) × Int32 := @ite _ (s.2 = false ∧ (lo ≤ pg P L s.1 - 48 ∧ pg P L s.1 - 48 ≤ hi)) (Classical.propDecidable _) ((s.1 + 1, false), pg P L s.1 - 48) ((s.1, true), 0)
theorem cX11_sign_s {m t L : Nat} (h12 : I 12 m 12 = nI t) (h7 : I 12 m 7 = nI L) (ht : t ≤ L) (hL : L ≤ 80) : rk_P w l rk_mX11_sign 1 [rk_a 12 m] Sh I R (pg (I 31 (R 12 m 6)) L t) := by
  refine rk_bP (ls := [(0, _)]) (by decide) rfl (Nat.le_of_ble_eq_true rfl) ?_
  refine rk_aload_n 0 dX11_sign_0 rfl rfl ?_
  refine rk_g12_12 rk_kX11_146 dX11_sign_1 ?_
  rw [h12]
  refine rk_aload_n 0 dX11_sign_4 rfl rfl ?_
  refine rk_g12_7 rk_kX11_133 dX11_sign_5 ?_
  rw [h7]
  refine rk_icmp_ge 23 dX11_sign_8 (by decide) (fun qz8 => ?_) (fun qz8 => ?_)
  · skip
    refine rk_iconst 0 dX11_sign_23 (by decide) ?_
    refine rk_iretP dX11_sign_24 rfl rfl ?_
    first | exact (if_neg (fun z => absurd qz8 (nI_ge z (by omega)))).symm | exact (if_pos ((nI_ltI (by omega) (by omega)).mp (Int32.not_le.mp qz8))).symm
  · skip
    refine rk_aload_n 0 dX11_sign_11 rfl rfl ?_
    refine rk_pc (pc' := 12) rfl ?_
    refine rk_g12_6 rk_kX11_26 dX11_sign_12 ?_
    refine rk_aload_n 0 dX11_sign_15 rfl rfl ?_
    refine rk_g12_12 rk_kX11_146 dX11_sign_16 ?_
    rw [h12]
    have hlt : t < L := (nI_ltI (by omega) (by omega)).mp (Int32.not_le.mp qz8)
    refine rk_rn31 (t) dX11_sign_19 (by first | rfl | decide | assumption | (simp only [rk_lit, nI_add, pk_mul, nI_1]; done) | (simp only [rk_lit, nI_add, pk_mul, nI_1]; congr 1; omega)) (by first | decide | assumption | omega) ?_
    refine rk_goto 24 dX11_sign_20 (by decide) ?_
    refine rk_iretP dX11_sign_24 rfl rfl ?_
    first | exact (if_neg (fun z => absurd qz8 (nI_ge z (by omega)))).symm | exact (if_pos ((nI_ltI (by omega) (by omega)).mp (Int32.not_le.mp qz8))).symm
theorem cX11_need_s {m t L : Nat} {b : Bool} {mn : Int32} {J : Nat → Int32} (h7 : I 12 m 7 = nI L) (ht : t ≤ L) (hL : L ≤ 80) (c : Int32) : rk_U w l rk_mX11_need 2 [rk_a 12 m, rk_i c] Sh (pm_st I m (R 12 m 10) (nI t) (wi b) mn J) R (fun I' R' => R' = R ∧ I' = pm_st I m (R 12 m 10) (nI (pn (I 31 (R 12 m 6)) L c (t, b)).1) (wi (pn (I 31 (R 12 m 6)) L c (t, b)).2) mn J) := by
  have hno : ¬ (b = false ∧ pg (I 31 (R 12 m 6)) L t = c) → pn (I 31 (R 12 m 6)) L c (t, b) = (t, true) := fun h => if_neg h
  have hyes : (b = false ∧ pg (I 31 (R 12 m 6)) L t = c) → pn (I 31 (R 12 m 6)) L c (t, b) = (t + 1, false) := fun h => if_pos h
  have hb0 : wi b = 0 → b = false := fun h => by cases b with | false => rfl | true => exact absurd h (by decide)
  have hb1 : ¬ wi b = 0 → ¬ b = false := fun h z => h (by rw [z]; rfl)
  refine rk_bU (ls := [(0, _), (1, _)]) (by decide) rfl (Nat.le_of_ble_eq_true rfl) ?_
  refine rk_aload_n 0 dX11_need_0 rfl rfl ?_
  refine rk_aload_n 0 dX11_need_1 rfl rfl ?_
  refine rk_g12_13 rk_kX11_149 dX11_need_2 ?_
  rw [pm_r13]
  refine rk_if_ne 16 dX11_need_5 (by decide) (fun qz5 => ?_) (fun qz5 => ?_)
  · skip
    refine rk_iconst 1 dX11_need_16 (by decide) ?_
    refine rk_goto 21 dX11_need_17 (by decide) ?_
    refine rk_p12_13 rk_kX11_149 (by decide) dX11_need_21 (fun Iz1 eIz1 => ?_)
    rw [pm_u13] at eIz1
    obtain rfl := eIz1.symm
    refine rk_pc (pc' := 24) rfl ?_
    refine rk_aload_n 0 dX11_need_24 rfl rfl ?_
    refine rk_dup dX11_need_25 rfl ?_
    refine rk_g12_12 rk_kX11_146 dX11_need_26 ?_
    rw [pm_r12]
    refine rk_aload_n 0 dX11_need_29 rfl rfl ?_
    refine rk_g12_13 rk_kX11_149 dX11_need_30 ?_
    rw [pm_r13]
    refine rk_if_eq 40 dX11_need_33 (by decide) (fun qz33 => ?_) (fun qz33 => ?_)
    · skip
      refine rk_iconst 1 dX11_need_40 (by decide) ?_
      refine rk_pc (pc' := 41) rfl ?_
      refine rk_iadd dX11_need_41 ?_
      refine rk_p12_12 rk_kX11_146 dX11_need_42 (fun Iz2 eIz2 => ?_)
      rw [pm_u12] at eIz2
      obtain rfl := eIz2.symm
      refine rk_vretU dX11_need_45 rfl ?_
      first | exact absurd qz33 (by decide) | exact absurd (by decide) qz33 | (rw [hno (fun z => hb1 qz5 z.1)]; exact ⟨rfl, by rw [Int32.add_zero]; rfl⟩) | (rw [hno (fun z => qz13 z.2)]; exact ⟨rfl, by rw [Int32.add_zero]; rfl⟩) | (rw [hyes ⟨hb0 qz5, qz13⟩]; exact ⟨rfl, by rw [nI_1]; rfl⟩)
    · skip
      refine rk_iconst 0 dX11_need_36 (by decide) ?_
      refine rk_goto 41 dX11_need_37 (by decide) ?_
      refine rk_iadd dX11_need_41 ?_
      refine rk_p12_12 rk_kX11_146 dX11_need_42 (fun Iz2 eIz2 => ?_)
      rw [pm_u12] at eIz2
      obtain rfl := eIz2.symm
      refine rk_pc (pc' := 45) rfl ?_
      refine rk_vretU dX11_need_45 rfl ?_
      first | exact absurd qz33 (by decide) | exact absurd (by decide) qz33 | (rw [hno (fun z => hb1 qz5 z.1)]; exact ⟨rfl, by rw [Int32.add_zero]; rfl⟩) | (rw [hno (fun z => qz13 z.2)]; exact ⟨rfl, by rw [Int32.add_zero]; rfl⟩) | (rw [hyes ⟨hb0 qz5, qz13⟩]; exact ⟨rfl, by rw [nI_1]; rfl⟩)
  · skip
    refine rk_aload_n 0 dX11_need_8 rfl rfl ?_
    refine rk_cVp (cX11_sign_s (t := t) (L := L) pm_r12 (pm_r7.trans h7) ht hL) rk_eX11_sign rfl ⟨rfl, rfl⟩ rk_kX11_152 dX11_need_9 rfl (by decide) (Nat.le_of_ble_eq_true rfl) ⟨Nat.le_refl _, Nat.le_refl _⟩ ?_
    rw [pm_r31]
    refine rk_iload_n 1 dX11_need_12 rfl rfl ?_
    refine rk_icmp_eq 20 dX11_need_13 (by decide) (fun qz13 => ?_) (fun qz13 => ?_)
    · skip
      refine rk_iconst 0 dX11_need_20 (by decide) ?_
      refine rk_p12_13 rk_kX11_149 (by decide) dX11_need_21 (fun Iz1 eIz1 => ?_)
      rw [pm_u13] at eIz1
      obtain rfl := eIz1.symm
      refine rk_aload_n 0 dX11_need_24 rfl rfl ?_
      refine rk_pc (pc' := 25) rfl ?_
      refine rk_dup dX11_need_25 rfl ?_
      refine rk_g12_12 rk_kX11_146 dX11_need_26 ?_
      rw [pm_r12]
      refine rk_aload_n 0 dX11_need_29 rfl rfl ?_
      refine rk_g12_13 rk_kX11_149 dX11_need_30 ?_
      rw [pm_r13]
      refine rk_if_eq 40 dX11_need_33 (by decide) (fun qz33 => ?_) (fun qz33 => ?_)
      · skip
        refine rk_iconst 1 dX11_need_40 (by decide) ?_
        refine rk_iadd dX11_need_41 ?_
        refine rk_pc (pc' := 42) rfl ?_
        refine rk_p12_12 rk_kX11_146 dX11_need_42 (fun Iz2 eIz2 => ?_)
        rw [pm_u12] at eIz2
        obtain rfl := eIz2.symm
        refine rk_vretU dX11_need_45 rfl ?_
        first | exact absurd qz33 (by decide) | exact absurd (by decide) qz33 | (rw [hno (fun z => hb1 qz5 z.1)]; exact ⟨rfl, by rw [Int32.add_zero]; rfl⟩) | (rw [hno (fun z => qz13 z.2)]; exact ⟨rfl, by rw [Int32.add_zero]; rfl⟩) | (rw [hyes ⟨hb0 qz5, qz13⟩]; exact ⟨rfl, by rw [nI_1]; rfl⟩)
      · skip
        refine rk_iconst 0 dX11_need_36 (by decide) ?_
        refine rk_goto 41 dX11_need_37 (by decide) ?_
        refine rk_iadd dX11_need_41 ?_
        refine rk_p12_12 rk_kX11_146 dX11_need_42 (fun Iz2 eIz2 => ?_)
        rw [pm_u12] at eIz2
        obtain rfl := eIz2.symm
        refine rk_vretU dX11_need_45 rfl ?_
        first | exact absurd qz33 (by decide) | exact absurd (by decide) qz33 | (rw [hno (fun z => hb1 qz5 z.1)]; exact ⟨rfl, by rw [Int32.add_zero]; rfl⟩) | (rw [hno (fun z => qz13 z.2)]; exact ⟨rfl, by rw [Int32.add_zero]; rfl⟩) | (rw [hyes ⟨hb0 qz5, qz13⟩]; exact ⟨rfl, by rw [nI_1]; rfl⟩)
    · skip
      refine rk_iconst 1 dX11_need_16 (by decide) ?_
      refine rk_pc (pc' := 17) rfl ?_
      refine rk_goto 21 dX11_need_17 (by decide) ?_
      refine rk_p12_13 rk_kX11_149 (by decide) dX11_need_21 (fun Iz1 eIz1 => ?_)
      rw [pm_u13] at eIz1
      obtain rfl := eIz1.symm
      refine rk_aload_n 0 dX11_need_24 rfl rfl ?_
      refine rk_dup dX11_need_25 rfl ?_
      refine rk_g12_12 rk_kX11_146 dX11_need_26 ?_
      rw [pm_r12]
      refine rk_aload_n 0 dX11_need_29 rfl rfl ?_
      refine rk_pc (pc' := 30) rfl ?_
      refine rk_g12_13 rk_kX11_149 dX11_need_30 ?_
      rw [pm_r13]
      refine rk_if_eq 40 dX11_need_33 (by decide) (fun qz33 => ?_) (fun qz33 => ?_)
      · skip
        refine rk_iconst 1 dX11_need_40 (by decide) ?_
        refine rk_iadd dX11_need_41 ?_
        refine rk_p12_12 rk_kX11_146 dX11_need_42 (fun Iz2 eIz2 => ?_)
        rw [pm_u12] at eIz2
        obtain rfl := eIz2.symm
        refine rk_vretU dX11_need_45 rfl ?_
        first | exact absurd qz33 (by decide) | exact absurd (by decide) qz33 | (rw [hno (fun z => hb1 qz5 z.1)]; exact ⟨rfl, by rw [Int32.add_zero]; rfl⟩) | (rw [hno (fun z => qz13 z.2)]; exact ⟨rfl, by rw [Int32.add_zero]; rfl⟩) | (rw [hyes ⟨hb0 qz5, qz13⟩]; exact ⟨rfl, by rw [nI_1]; rfl⟩)
      · skip
        refine rk_iconst 0 dX11_need_36 (by decide) ?_
        refine rk_goto 41 dX11_need_37 (by decide) ?_
        refine rk_pc (pc' := 41) rfl ?_
        refine rk_iadd dX11_need_41 ?_
        refine rk_p12_12 rk_kX11_146 dX11_need_42 (fun Iz2 eIz2 => ?_)
        rw [pm_u12] at eIz2
        obtain rfl := eIz2.symm
        refine rk_vretU dX11_need_45 rfl ?_
        first | exact absurd qz33 (by decide) | exact absurd (by decide) qz33 | (rw [hno (fun z => hb1 qz5 z.1)]; exact ⟨rfl, by rw [Int32.add_zero]; rfl⟩) | (rw [hno (fun z => qz13 z.2)]; exact ⟨rfl, by rw [Int32.add_zero]; rfl⟩) | (rw [hyes ⟨hb0 qz5, qz13⟩]; exact ⟨rfl, by rw [nI_1]; rfl⟩)
end MP

