/-! rows copied into rows -/
def sp_cp (F S : Nat → Int32) (off so n : Nat) : Nat → Int32 := fun j => if off ≤ j ∧ j < off + n then S (so + (j - off)) else F j
theorem sp_cp0 {F S : Nat → Int32} {off so : Nat} : sp_cp F S off so 0 = F := by
  funext j; simp only [sp_cp]; rw [if_neg (by omega)]
theorem sp_cp1 {F S : Nat → Int32} {off so n : Nat} : sp_u (sp_cp F S off so n) (off + n) (S (so + n)) = sp_cp F S off so (n + 1) := by
  funext j
  simp only [sp_u, sp_cp]
  by_cases h : j = off + n
  · subst h
    rw [if_pos rfl, if_pos (by omega), show off + n - off = n by omega]
  · rw [if_neg h]
    by_cases h2 : off ≤ j ∧ j < off + n
    · rw [if_pos h2, if_pos (by omega)]
    · rw [if_neg h2, if_neg (by omega)]
theorem sp_cpA {F S : Nat → Int32} {n : Nat} : sp_u (sp_cp F S 0 0 n) n (S n) = sp_cp F S 0 0 (n + 1) := by
  have h := sp_cp1 (F := F) (S := S) (off := 0) (so := 0) (n := n)
  rwa [Nat.zero_add] at h
theorem sp_cpB {F S : Nat → Int32} {off n : Nat} : sp_u (sp_cp F S off 0 n) (off + n) (S n) = sp_cp F S off 0 (n + 1) := by
  have h := sp_cp1 (F := F) (S := S) (off := off) (so := 0) (n := n)
  rwa [Nat.zero_add] at h
theorem sp_cpC {F S : Nat → Int32} {so n : Nat} : sp_u (sp_cp F S 0 so n) n (S (so + n)) = sp_cp F S 0 so (n + 1) := by
  have h := sp_cp1 (F := F) (S := S) (off := 0) (so := so) (n := n)
  rwa [Nat.zero_add] at h
theorem md_cu {I : rk_Mm} {c a j c' b : Nat} {v : Int32} {F : Nat → Int32} (h : c ≠ c') : md_a (rk_uI I c a j v) c' b F = rk_uI (md_a I c' b F) c a j v := by
  funext x y z
  unfold md_a rk_uI
  by_cases h1 : x = c'
  · subst h1
    have h2 : x ≠ c := fun e => h e.symm
    simp [h2]
  · simp [h1]
theorem md_uu {I : rk_Mm} {c a j : Nat} {v v' : Int32} : rk_uI (rk_uI I c a j v) c a j v' = rk_uI I c a j v' := by
  funext x y z
  unfold rk_uI
  split <;> rfl
def sp_h1 (H : Nat → Int32) : Nat → Int32 := fun j => if j < 1700 then H (j + 340) else H j
/-- the heap behind record() -/
def md_rec (I : rk_Mm) (R : rk_Rm) (m : Nat) : rk_Mm := if I 12 m 8 = 0 then (if I 12 m 3 = 6 then rk_uI (md_a I 28 (R 12 m 2) (sp_cp (sp_h1 (I 28 (R 12 m 2))) (I 26 (R 12 m 0)) 1700 0 340)) 12 m 3 6 else rk_uI (md_a I 28 (R 12 m 2) (sp_cp (I 28 (R 12 m 2)) (I 26 (R 12 m 0)) ((I 12 m 3).toNatClampNeg * 340) 0 340)) 12 m 3 (I 12 m 3 + 1)) else I
section MR
variable {w : rk_W} {l : Launch} {Sh : rk_Sh} {I : rk_Mm} {R : rk_Rm}

theorem cX11_keep_l {m : Nat}  {G : List Frame → Array Value → State → State → Prop} {J0 : rk_Mm}  (kk : ∀ J, J = md_a J0 27 (R 12 m 1) (sp_cp (J0 27 (R 12 m 1)) (J0 26 (R 12 m 0)) (0) (0)  340) → rk_Wp w l rk_mX11_keep 1 0 0 G 27 [(0, rk_a 12 m), (1, rk_i (nI 340))] [] (Sh, 0, 0) J R) : ∀ (n k : Nat) (J : rk_Mm), k + n = 340 → J = md_a J0 27 (R 12 m 1) (sp_cp (J0 27 (R 12 m 1)) (J0 26 (R 12 m 0)) (0) (0)  k) → rk_Wp w l rk_mX11_keep 1 0 0 G 2 [(0, rk_a 12 m), (1, rk_i (nI k))] [] (Sh, 0, 0) J R := by
  intro n
  induction n with
  | zero =>
    intro k J hk hJ
    obtain rfl : k = 340 := by omega
    have hs : J 26 (R 12 m 0) = J0 26 (R 12 m 0) := by rw [hJ, md_ac (by decide)]
    refine rk_iload_n 1 dX11_keep_2 rfl rfl ?_
    refine rk_sipush 340 dX11_keep_3 (by decide) ?_
    refine rk_icmp_ge 27 dX11_keep_6 (by decide) (fun qz6 => ?_) (fun qz6 => ?_)
    · skip
      exact kk J hJ
    · skip
      exact absurd (by decide) qz6
  | succ n ih =>
    intro k J hk hJ
    have hlt : ¬ nI 340 ≤ nI k := nI_ge (by omega) (by omega)
    have hs : J 26 (R 12 m 0) = J0 26 (R 12 m 0) := by rw [hJ, md_ac (by decide)]
    refine rk_iload_n 1 dX11_keep_2 rfl rfl ?_
    refine rk_sipush 340 dX11_keep_3 (by decide) ?_
    refine rk_icmp_ge 27 dX11_keep_6 (by decide) (fun qz6 => ?_) (fun qz6 => ?_)
    · skip
      exact absurd qz6 hlt
    · skip
      refine rk_aload_n 0 dX11_keep_9 rfl rfl ?_
      refine rk_g12_1 rk_kX11_13 dX11_keep_10 ?_
      refine rk_iload_n 1 dX11_keep_13 rfl rfl ?_
      refine rk_aload_n 0 dX11_keep_14 rfl rfl ?_
      refine rk_pc (pc' := 15) rfl ?_
      refine rk_g12_0 rk_kX11_7 dX11_keep_15 ?_
      refine rk_iload_n 1 dX11_keep_18 rfl rfl ?_
      refine rk_rn26 (k) dX11_keep_19 (by first | rfl | decide | assumption | (simp only [rk_lit, nI_add, pk_mul, nI_1]; done) | (simp only [rk_lit, nI_add, pk_mul, nI_1]; congr 1; omega)) (by first | decide | assumption | omega) ?_
      rw [hs]
      refine rk_sn27 (k) dX11_keep_20 (by first | rfl | decide | assumption | (simp only [rk_lit, nI_add, pk_mul, nI_1]; done) | (simp only [rk_lit, nI_add, pk_mul, nI_1]; congr 1; omega)) (by first | decide | assumption | omega) (fun Iz1 eIz1 => ?_)
      refine rk_iinc 1 (ls' := [(1, _), (0, _)]) dX11_keep_21 (by decide) rfl (by decide) rfl ?_
      refine rk_goto 2 dX11_keep_24 (by decide) ?_
      refine rk_pc (pc' := 2) rfl ?_
      refine rk_ord [0, 1] (ls' := [(0, _), (1, _)]) rfl ?_
      rw [nI_1]
      exact ih (k + 1) Iz1 (by omega) (by rw [eIz1, hJ, md_u]; first | rw [sp_cpA] | rw [sp_cpB] | rw [sp_cpC])
theorem cX11_comeBack_l {m : Nat}  {G : List Frame → Array Value → State → State → Prop} {J0 : rk_Mm}  (kk : ∀ J, J = md_a J0 26 (R 12 m 0) (sp_cp (J0 26 (R 12 m 0)) (J0 27 (R 12 m 1)) (0) (0)  340) → rk_Wp w l rk_mX11_comeBack 1 0 0 G 27 [(0, rk_a 12 m), (1, rk_i (nI 340))] [] (Sh, 0, 0) J R) : ∀ (n k : Nat) (J : rk_Mm), k + n = 340 → J = md_a J0 26 (R 12 m 0) (sp_cp (J0 26 (R 12 m 0)) (J0 27 (R 12 m 1)) (0) (0)  k) → rk_Wp w l rk_mX11_comeBack 1 0 0 G 2 [(0, rk_a 12 m), (1, rk_i (nI k))] [] (Sh, 0, 0) J R := by
  intro n
  induction n with
  | zero =>
    intro k J hk hJ
    obtain rfl : k = 340 := by omega
    have hs : J 27 (R 12 m 1) = J0 27 (R 12 m 1) := by rw [hJ, md_ac (by decide)]
    refine rk_iload_n 1 dX11_comeBack_2 rfl rfl ?_
    refine rk_sipush 340 dX11_comeBack_3 (by decide) ?_
    refine rk_icmp_ge 27 dX11_comeBack_6 (by decide) (fun qz6 => ?_) (fun qz6 => ?_)
    · skip
      exact kk J hJ
    · skip
      exact absurd (by decide) qz6
  | succ n ih =>
    intro k J hk hJ
    have hlt : ¬ nI 340 ≤ nI k := nI_ge (by omega) (by omega)
    have hs : J 27 (R 12 m 1) = J0 27 (R 12 m 1) := by rw [hJ, md_ac (by decide)]
    refine rk_iload_n 1 dX11_comeBack_2 rfl rfl ?_
    refine rk_sipush 340 dX11_comeBack_3 (by decide) ?_
    refine rk_icmp_ge 27 dX11_comeBack_6 (by decide) (fun qz6 => ?_) (fun qz6 => ?_)
    · skip
      exact absurd qz6 hlt
    · skip
      refine rk_aload_n 0 dX11_comeBack_9 rfl rfl ?_
      refine rk_g12_0 rk_kX11_7 dX11_comeBack_10 ?_
      refine rk_iload_n 1 dX11_comeBack_13 rfl rfl ?_
      refine rk_aload_n 0 dX11_comeBack_14 rfl rfl ?_
      refine rk_pc (pc' := 15) rfl ?_
      refine rk_g12_1 rk_kX11_13 dX11_comeBack_15 ?_
      refine rk_iload_n 1 dX11_comeBack_18 rfl rfl ?_
      refine rk_rn27 (k) dX11_comeBack_19 (by first | rfl | decide | assumption | (simp only [rk_lit, nI_add, pk_mul, nI_1]; done) | (simp only [rk_lit, nI_add, pk_mul, nI_1]; congr 1; omega)) (by first | decide | assumption | omega) ?_
      rw [hs]
      refine rk_sn26 (k) dX11_comeBack_20 (by first | rfl | decide | assumption | (simp only [rk_lit, nI_add, pk_mul, nI_1]; done) | (simp only [rk_lit, nI_add, pk_mul, nI_1]; congr 1; omega)) (by first | decide | assumption | omega) (fun Iz1 eIz1 => ?_)
      refine rk_iinc 1 (ls' := [(1, _), (0, _)]) dX11_comeBack_21 (by decide) rfl (by decide) rfl ?_
      refine rk_goto 2 dX11_comeBack_24 (by decide) ?_
      refine rk_pc (pc' := 2) rfl ?_
      refine rk_ord [0, 1] (ls' := [(0, _), (1, _)]) rfl ?_
      rw [nI_1]
      exact ih (k + 1) Iz1 (by omega) (by rw [eIz1, hJ, md_u]; first | rw [sp_cpA] | rw [sp_cpB] | rw [sp_cpC])
theorem cX11_record_l2 {m : Nat} {u : Nat} {G : List Frame → Array Value → State → State → Prop} {J0 : rk_Mm} (hu : J0 12 m 3 = nI u) (hu6 : u < 6) (kk : ∀ J, J = md_a J0 28 (R 12 m 2) (sp_cp (J0 28 (R 12 m 2)) (J0 26 (R 12 m 0)) (u * 340) (0)  340) → rk_Wp w l rk_mX11_record 1 0 0 G 89 [(0, rk_a 12 m), (1, rk_i (nI 340))] [] (Sh, 0, 0) J R) : ∀ (n k : Nat) (J : rk_Mm), k + n = 340 → J = md_a J0 28 (R 12 m 2) (sp_cp (J0 28 (R 12 m 2)) (J0 26 (R 12 m 0)) (u * 340) (0)  k) → rk_Wp w l rk_mX11_record 1 0 0 G 55 [(0, rk_a 12 m), (1, rk_i (nI k))] [] (Sh, 0, 0) J R := by
  intro n
  induction n with
  | zero =>
    intro k J hk hJ
    obtain rfl : k = 340 := by omega
    have hs : J 26 (R 12 m 0) = J0 26 (R 12 m 0) := by rw [hJ, md_ac (by decide)]
    have hv : J 12 m 3 = nI u := by rw [hJ, md_ac (by decide)]; exact hu
    refine rk_iload_n 1 dX11_record_55 rfl rfl ?_
    refine rk_sipush 340 dX11_record_56 (by decide) ?_
    refine rk_icmp_ge 89 dX11_record_59 (by decide) (fun qz59 => ?_) (fun qz59 => ?_)
    · skip
      exact kk J hJ
    · skip
      exact absurd (by decide) qz59
  | succ n ih =>
    intro k J hk hJ
    have hlt : ¬ nI 340 ≤ nI k := nI_ge (by omega) (by omega)
    have hs : J 26 (R 12 m 0) = J0 26 (R 12 m 0) := by rw [hJ, md_ac (by decide)]
    have hv : J 12 m 3 = nI u := by rw [hJ, md_ac (by decide)]; exact hu
    refine rk_iload_n 1 dX11_record_55 rfl rfl ?_
    refine rk_sipush 340 dX11_record_56 (by decide) ?_
    refine rk_icmp_ge 89 dX11_record_59 (by decide) (fun qz59 => ?_) (fun qz59 => ?_)
    · skip
      exact absurd qz59 hlt
    · skip
      refine rk_aload_n 0 dX11_record_62 rfl rfl ?_
      refine rk_g12_2 rk_kX11_16 dX11_record_63 ?_
      refine rk_aload_n 0 dX11_record_66 rfl rfl ?_
      refine rk_g12_3 rk_kX11_39 dX11_record_67 ?_
      rw [hv]
      refine rk_pc (pc' := 70) rfl ?_
      refine rk_sipush 340 dX11_record_70 (by decide) ?_
      refine rk_imul dX11_record_73 ?_
      refine rk_iload_n 1 dX11_record_74 rfl rfl ?_
      refine rk_iadd dX11_record_75 ?_
      refine rk_aload_n 0 dX11_record_76 rfl rfl ?_
      refine rk_g12_0 rk_kX11_7 dX11_record_77 ?_
      refine rk_pc (pc' := 80) rfl ?_
      refine rk_iload_n 1 dX11_record_80 rfl rfl ?_
      refine rk_rn26 (k) dX11_record_81 (by first | rfl | (simp only [rk_lit, nI_add, pk_mul]; done) | (simp only [rk_lit, nI_add, pk_mul]; congr 1; omega)) (by first | decide | assumption | omega) ?_
      rw [hs]
      refine rk_sn28 (u * 340 + k) dX11_record_82 (by first | rfl | (simp only [rk_lit, nI_add, pk_mul]; done) | (simp only [rk_lit, nI_add, pk_mul]; congr 1; omega)) (by first | decide | assumption | omega) (fun Iz1 eIz1 => ?_)
      refine rk_iinc 1 (ls' := [(1, _), (0, _)]) dX11_record_83 (by decide) rfl (by decide) rfl ?_
      refine rk_goto 55 dX11_record_86 (by decide) ?_
      refine rk_ord [0, 1] (ls' := [(0, _), (1, _)]) rfl ?_
      rw [nI_1]
      exact ih (k + 1) Iz1 (by omega) (by rw [eIz1, hJ, md_u]; first | rw [sp_cpA] | rw [sp_cpB] | rw [sp_cpC])
theorem cX11_undo_l {m : Nat} {u : Nat} {G : List Frame → Array Value → State → State → Prop} {J0 : rk_Mm} (hu : J0 12 m 3 = nI u) (hu6 : u < 6) (kk : ∀ J, J = md_a J0 26 (R 12 m 0) (sp_cp (J0 26 (R 12 m 0)) (J0 28 (R 12 m 2)) (0) (u * 340)  340) → rk_Wp w l rk_mX11_undo 1 0 0 G 56 [(0, rk_a 12 m), (1, rk_i (nI 340))] [] (Sh, 0, 0) J R) : ∀ (n k : Nat) (J : rk_Mm), k + n = 340 → J = md_a J0 26 (R 12 m 0) (sp_cp (J0 26 (R 12 m 0)) (J0 28 (R 12 m 2)) (0) (u * 340)  k) → rk_Wp w l rk_mX11_undo 1 0 0 G 22 [(0, rk_a 12 m), (1, rk_i (nI k))] [] (Sh, 0, 0) J R := by
  intro n
  induction n with
  | zero =>
    intro k J hk hJ
    obtain rfl : k = 340 := by omega
    have hs : J 28 (R 12 m 2) = J0 28 (R 12 m 2) := by rw [hJ, md_ac (by decide)]
    have hv : J 12 m 3 = nI u := by rw [hJ, md_ac (by decide)]; exact hu
    refine rk_iload_n 1 dX11_undo_22 rfl rfl ?_
    refine rk_sipush 340 dX11_undo_23 (by decide) ?_
    refine rk_icmp_ge 56 dX11_undo_26 (by decide) (fun qz26 => ?_) (fun qz26 => ?_)
    · skip
      exact kk J hJ
    · skip
      exact absurd (by decide) qz26
  | succ n ih =>
    intro k J hk hJ
    have hlt : ¬ nI 340 ≤ nI k := nI_ge (by omega) (by omega)
    have hs : J 28 (R 12 m 2) = J0 28 (R 12 m 2) := by rw [hJ, md_ac (by decide)]
    have hv : J 12 m 3 = nI u := by rw [hJ, md_ac (by decide)]; exact hu
    refine rk_iload_n 1 dX11_undo_22 rfl rfl ?_
    refine rk_sipush 340 dX11_undo_23 (by decide) ?_
    refine rk_icmp_ge 56 dX11_undo_26 (by decide) (fun qz26 => ?_) (fun qz26 => ?_)
    · skip
      exact absurd qz26 hlt
    · skip
      refine rk_aload_n 0 dX11_undo_29 rfl rfl ?_
      refine rk_g12_0 rk_kX11_7 dX11_undo_30 ?_
      refine rk_iload_n 1 dX11_undo_33 rfl rfl ?_
      refine rk_aload_n 0 dX11_undo_34 rfl rfl ?_
      refine rk_pc (pc' := 35) rfl ?_
      refine rk_g12_2 rk_kX11_16 dX11_undo_35 ?_
      refine rk_aload_n 0 dX11_undo_38 rfl rfl ?_
      refine rk_g12_3 rk_kX11_39 dX11_undo_39 ?_
      rw [hv]
      refine rk_sipush 340 dX11_undo_42 (by decide) ?_
      refine rk_imul dX11_undo_45 ?_
      refine rk_iload_n 1 dX11_undo_46 rfl rfl ?_
      refine rk_pc (pc' := 47) rfl ?_
      refine rk_iadd dX11_undo_47 ?_
      refine rk_rn28 (u * 340 + k) dX11_undo_48 (by first | rfl | (simp only [rk_lit, nI_add, pk_mul]; done) | (simp only [rk_lit, nI_add, pk_mul]; congr 1; omega)) (by first | decide | assumption | omega) ?_
      rw [hs]
      refine rk_sn26 (k) dX11_undo_49 (by first | rfl | (simp only [rk_lit, nI_add, pk_mul]; done) | (simp only [rk_lit, nI_add, pk_mul]; congr 1; omega)) (by first | decide | assumption | omega) (fun Iz1 eIz1 => ?_)
      refine rk_iinc 1 (ls' := [(1, _), (0, _)]) dX11_undo_50 (by decide) rfl (by decide) rfl ?_
      refine rk_goto 22 dX11_undo_53 (by decide) ?_
      refine rk_ord [0, 1] (ls' := [(0, _), (1, _)]) rfl ?_
      rw [nI_1]
      exact ih (k + 1) Iz1 (by omega) (by rw [eIz1, hJ, md_u]; first | rw [sp_cpA] | rw [sp_cpB] | rw [sp_cpC])
theorem cX11_save_l {m : Nat} {b : Nat} {G : List Frame → Array Value → State → State → Prop} {J0 : rk_Mm} (hb : b < 2) (kk : ∀ J, J = md_a J0 29 (R 12 m 4) (sp_cp (J0 29 (R 12 m 4)) (J0 26 (R 12 m 0)) (b * 340) (0)  340) → rk_Wp w l rk_mX11_save 2 0 0 G 45 [(0, rk_a 12 m), (1, rk_i (nI b)), (2, rk_i (nI 340))] [] (Sh, 0, 0) J R) : ∀ (n k : Nat) (J : rk_Mm), k + n = 340 → J = md_a J0 29 (R 12 m 4) (sp_cp (J0 29 (R 12 m 4)) (J0 26 (R 12 m 0)) (b * 340) (0)  k) → rk_Wp w l rk_mX11_save 2 0 0 G 14 [(0, rk_a 12 m), (1, rk_i (nI b)), (2, rk_i (nI k))] [] (Sh, 0, 0) J R := by
  intro n
  induction n with
  | zero =>
    intro k J hk hJ
    obtain rfl : k = 340 := by omega
    have hs : J 26 (R 12 m 0) = J0 26 (R 12 m 0) := by rw [hJ, md_ac (by decide)]
    refine rk_iload_n 2 dX11_save_14 rfl rfl ?_
    refine rk_sipush 340 dX11_save_15 (by decide) ?_
    refine rk_icmp_ge 45 dX11_save_18 (by decide) (fun qz18 => ?_) (fun qz18 => ?_)
    · skip
      exact kk J hJ
    · skip
      exact absurd (by decide) qz18
  | succ n ih =>
    intro k J hk hJ
    have hlt : ¬ nI 340 ≤ nI k := nI_ge (by omega) (by omega)
    have hs : J 26 (R 12 m 0) = J0 26 (R 12 m 0) := by rw [hJ, md_ac (by decide)]
    refine rk_iload_n 2 dX11_save_14 rfl rfl ?_
    refine rk_sipush 340 dX11_save_15 (by decide) ?_
    refine rk_icmp_ge 45 dX11_save_18 (by decide) (fun qz18 => ?_) (fun qz18 => ?_)
    · skip
      exact absurd qz18 hlt
    · skip
      refine rk_aload_n 0 dX11_save_21 rfl rfl ?_
      refine rk_g12_4 rk_kX11_19 dX11_save_22 ?_
      refine rk_iload_n 1 dX11_save_25 rfl rfl ?_
      refine rk_sipush 340 dX11_save_26 (by decide) ?_
      refine rk_pc (pc' := 29) rfl ?_
      refine rk_imul dX11_save_29 ?_
      refine rk_iload_n 2 dX11_save_30 rfl rfl ?_
      refine rk_iadd dX11_save_31 ?_
      refine rk_aload_n 0 dX11_save_32 rfl rfl ?_
      refine rk_g12_0 rk_kX11_7 dX11_save_33 ?_
      refine rk_iload_n 2 dX11_save_36 rfl rfl ?_
      refine rk_pc (pc' := 37) rfl ?_
      refine rk_rn26 (k) dX11_save_37 (by first | rfl | (simp only [rk_lit, nI_add, pk_mul]; done) | (simp only [rk_lit, nI_add, pk_mul]; congr 1; omega)) (by first | decide | assumption | omega) ?_
      rw [hs]
      refine rk_sn29 (b * 340 + k) dX11_save_38 (by first | rfl | (simp only [rk_lit, nI_add, pk_mul]; done) | (simp only [rk_lit, nI_add, pk_mul]; congr 1; omega)) (by first | decide | assumption | omega) (fun Iz1 eIz1 => ?_)
      refine rk_iinc 1 (ls' := [(2, _), (0, _), (1, _)]) dX11_save_39 (by decide) rfl (by decide) rfl ?_
      refine rk_goto 14 dX11_save_42 (by decide) ?_
      refine rk_ord [0, 1, 2] (ls' := [(0, _), (1, _), (2, _)]) rfl ?_
      rw [nI_1]
      exact ih (k + 1) Iz1 (by omega) (by rw [eIz1, hJ, md_u]; first | rw [sp_cpA] | rw [sp_cpB] | rw [sp_cpC])
theorem cX11_restore_l {m : Nat} {b : Nat} {G : List Frame → Array Value → State → State → Prop} {J0 : rk_Mm} (hb : b < 2) (kk : ∀ J, J = md_a J0 26 (R 12 m 0) (sp_cp (J0 26 (R 12 m 0)) (J0 29 (R 12 m 4)) (0) (b * 340)  340) → rk_Wp w l rk_mX11_restore 3 0 0 G 61 [(0, rk_a 12 m), (1, rk_i (nI b)), (2, rk_i (nI 340))] [] (Sh, 0, 0) J R) : ∀ (n k : Nat) (J : rk_Mm), k + n = 340 → J = md_a J0 26 (R 12 m 0) (sp_cp (J0 26 (R 12 m 0)) (J0 29 (R 12 m 4)) (0) (b * 340)  k) → rk_Wp w l rk_mX11_restore 3 0 0 G 30 [(0, rk_a 12 m), (1, rk_i (nI b)), (2, rk_i (nI k))] [] (Sh, 0, 0) J R := by
  intro n
  induction n with
  | zero =>
    intro k J hk hJ
    obtain rfl : k = 340 := by omega
    have hs : J 29 (R 12 m 4) = J0 29 (R 12 m 4) := by rw [hJ, md_ac (by decide)]
    refine rk_iload_n 2 dX11_restore_30 rfl rfl ?_
    refine rk_sipush 340 dX11_restore_31 (by decide) ?_
    refine rk_icmp_ge 61 dX11_restore_34 (by decide) (fun qz34 => ?_) (fun qz34 => ?_)
    · skip
      exact kk J hJ
    · skip
      exact absurd (by decide) qz34
  | succ n ih =>
    intro k J hk hJ
    have hlt : ¬ nI 340 ≤ nI k := nI_ge (by omega) (by omega)
    have hs : J 29 (R 12 m 4) = J0 29 (R 12 m 4) := by rw [hJ, md_ac (by decide)]
    refine rk_iload_n 2 dX11_restore_30 rfl rfl ?_
    refine rk_sipush 340 dX11_restore_31 (by decide) ?_
    refine rk_icmp_ge 61 dX11_restore_34 (by decide) (fun qz34 => ?_) (fun qz34 => ?_)
    · skip
      exact absurd qz34 hlt
    · skip
      refine rk_aload_n 0 dX11_restore_37 rfl rfl ?_
      refine rk_g12_0 rk_kX11_7 dX11_restore_38 ?_
      refine rk_iload_n 2 dX11_restore_41 rfl rfl ?_
      refine rk_aload_n 0 dX11_restore_42 rfl rfl ?_
      refine rk_pc (pc' := 43) rfl ?_
      refine rk_g12_4 rk_kX11_19 dX11_restore_43 ?_
      refine rk_iload_n 1 dX11_restore_46 rfl rfl ?_
      refine rk_sipush 340 dX11_restore_47 (by decide) ?_
      refine rk_imul dX11_restore_50 ?_
      refine rk_iload_n 2 dX11_restore_51 rfl rfl ?_
      refine rk_iadd dX11_restore_52 ?_
      refine rk_pc (pc' := 53) rfl ?_
      refine rk_rn29 (b * 340 + k) dX11_restore_53 (by first | rfl | (simp only [rk_lit, nI_add, pk_mul]; done) | (simp only [rk_lit, nI_add, pk_mul]; congr 1; omega)) (by first | decide | assumption | omega) ?_
      rw [hs]
      refine rk_sn26 (k) dX11_restore_54 (by first | rfl | (simp only [rk_lit, nI_add, pk_mul]; done) | (simp only [rk_lit, nI_add, pk_mul]; congr 1; omega)) (by first | decide | assumption | omega) (fun Iz1 eIz1 => ?_)
      refine rk_iinc 1 (ls' := [(2, _), (0, _), (1, _)]) dX11_restore_55 (by decide) rfl (by decide) rfl ?_
      refine rk_goto 30 dX11_restore_58 (by decide) ?_
      refine rk_ord [0, 1, 2] (ls' := [(0, _), (1, _), (2, _)]) rfl ?_
      rw [nI_1]
      exact ih (k + 1) Iz1 (by omega) (by rw [eIz1, hJ, md_u]; first | rw [sp_cpA] | rw [sp_cpB] | rw [sp_cpC])
theorem sp_h1_u {H : Nat → Int32} {k : Nat} : sp_u (fun j => if j < k then H (j + 340) else H j) k (H (k + 340)) = fun j => if j < k + 1 then H (j + 340) else H j := by
  funext j
  simp only [sp_u]
  by_cases h : j = k
  · subst h; rw [if_pos rfl, if_pos (by omega)]
  · rw [if_neg h]
    by_cases h2 : j < k
    · rw [if_pos h2, if_pos (by omega)]
    · rw [if_neg h2, if_neg (by omega)]
theorem cX11_record_l1 {m : Nat} {G : List Frame → Array Value → State → State → Prop} {J0 : rk_Mm} (kk : ∀ J, J = md_a J0 28 (R 12 m 2) (sp_h1 (J0 28 (R 12 m 2))) → rk_Wp w l rk_mX11_record 1 0 0 G 48 [(0, rk_a 12 m)] [] (Sh, 0, 0) J R) : ∀ (n k : Nat) (J : rk_Mm), k + n = 1700 → J = md_a J0 28 (R 12 m 2) (fun j => if j < k then J0 28 (R 12 m 2) (j + 340) else J0 28 (R 12 m 2) j) → rk_Wp w l rk_mX11_record 1 0 0 G 19 [(0, rk_a 12 m), (1, rk_i (nI k))] [] (Sh, 0, 0) J R := by
  intro n
  induction n with
  | zero =>
    intro k J hk hJ
    obtain rfl : k = 1700 := by omega
    refine rk_iload_n 1 dX11_record_19 rfl rfl ?_
    refine rk_sipush 1700 dX11_record_20 (by decide) ?_
    refine rk_icmp_ge 48 dX11_record_23 (by decide) (fun qz23 => ?_) (fun qz23 => ?_)
    · skip
      refine rk_ord [0] (ls' := [(0, _)]) rfl ?_
      exact kk J hJ
    · skip
      exact absurd (by decide) qz23
  | succ n ih =>
    intro k J hk hJ
    have hlt : ¬ nI 1700 ≤ nI k := nI_ge (by omega) (by omega)
    have hs : J 28 (R 12 m 2) (k + 340) = J0 28 (R 12 m 2) (k + 340) := by rw [hJ, md_as]; exact if_neg (by omega)
    refine rk_iload_n 1 dX11_record_19 rfl rfl ?_
    refine rk_sipush 1700 dX11_record_20 (by decide) ?_
    refine rk_icmp_ge 48 dX11_record_23 (by decide) (fun qz23 => ?_) (fun qz23 => ?_)
    · skip
      exact absurd qz23 hlt
    · skip
      refine rk_aload_n 0 dX11_record_26 rfl rfl ?_
      refine rk_g12_2 rk_kX11_16 dX11_record_27 ?_
      refine rk_iload_n 1 dX11_record_30 rfl rfl ?_
      refine rk_aload_n 0 dX11_record_31 rfl rfl ?_
      refine rk_pc (pc' := 32) rfl ?_
      refine rk_g12_2 rk_kX11_16 dX11_record_32 ?_
      refine rk_iload_n 1 dX11_record_35 rfl rfl ?_
      refine rk_sipush 340 dX11_record_36 (by decide) ?_
      refine rk_iadd dX11_record_39 ?_
      refine rk_rn28 (k + 340) dX11_record_40 (by first | rfl | decide | assumption | (simp only [rk_lit, nI_add, pk_mul, nI_1]; done) | (simp only [rk_lit, nI_add, pk_mul, nI_1]; congr 1; omega)) (by first | decide | assumption | omega) ?_
      rw [hs]
      refine rk_sn28 (k) dX11_record_41 (by first | rfl | decide | assumption | (simp only [rk_lit, nI_add, pk_mul, nI_1]; done) | (simp only [rk_lit, nI_add, pk_mul, nI_1]; congr 1; omega)) (by first | decide | assumption | omega) (fun Iz1 eIz1 => ?_)
      refine rk_pc (pc' := 42) rfl ?_
      refine rk_iinc 1 (ls' := [(1, _), (0, _)]) dX11_record_42 (by decide) rfl (by decide) rfl ?_
      refine rk_goto 19 dX11_record_45 (by decide) ?_
      refine rk_ord [0, 1] (ls' := [(0, _), (1, _)]) rfl ?_
      rw [nI_1]
      exact ih (k + 1) Iz1 (by omega) (by rw [eIz1, hJ, md_u, sp_h1_u])
theorem cX11_keep_s {m : Nat} : rk_U w l rk_mX11_keep 1 [rk_a 12 m] Sh I R (fun I' R' => R' = R ∧ I' = md_a I 27 (R 12 m 1) (sp_cp (I 27 (R 12 m 1)) (I 26 (R 12 m 0)) 0 0 340)) := by
  refine rk_bU (ls := [(0, _)]) (by decide) rfl (Nat.le_of_ble_eq_true rfl) ?_
  refine rk_iconst 0 dX11_keep_0 (by decide) ?_
  refine rk_istore_n 1 (ls' := [(1, _), (0, _)]) dX11_keep_1 rfl (by decide) rfl ?_
  refine rk_ord [0, 1] (ls' := [(0, _), (1, _)]) rfl ?_
  refine cX11_keep_l (J0 := I) (fun J hJ => ?_) 340 0 I rfl (by rw [sp_cp0, md_self])
  exact rk_vretU dX11_keep_27 rfl ⟨rfl, hJ⟩
theorem cX11_comeBack_s {m : Nat} : rk_U w l rk_mX11_comeBack 1 [rk_a 12 m] Sh I R (fun I' R' => R' = R ∧ I' = md_a I 26 (R 12 m 0) (sp_cp (I 26 (R 12 m 0)) (I 27 (R 12 m 1)) 0 0 340)) := by
  refine rk_bU (ls := [(0, _)]) (by decide) rfl (Nat.le_of_ble_eq_true rfl) ?_
  refine rk_iconst 0 dX11_comeBack_0 (by decide) ?_
  refine rk_istore_n 1 (ls' := [(1, _), (0, _)]) dX11_comeBack_1 rfl (by decide) rfl ?_
  refine rk_ord [0, 1] (ls' := [(0, _), (1, _)]) rfl ?_
  refine cX11_comeBack_l (J0 := I) (fun J hJ => ?_) 340 0 I rfl (by rw [sp_cp0, md_self])
  exact rk_vretU dX11_comeBack_27 rfl ⟨rfl, hJ⟩
theorem cX11_record_s {m u : Nat} (hu : I 12 m 3 = nI u) (hu6 : u ≤ 6) : rk_U w l rk_mX11_record 1 [rk_a 12 m] Sh I R (fun I' R' => R' = R ∧ I' = md_rec I R m) := by
  refine rk_bU (ls := [(0, _)]) (by decide) rfl (Nat.le_of_ble_eq_true rfl) ?_
  refine rk_aload_n 0 dX11_record_0 rfl rfl ?_
  refine rk_g12_8 rk_kX11_35 dX11_record_1 ?_
  refine rk_if_eq 8 dX11_record_4 (by decide) (fun qz4 => ?_) (fun qz4 => ?_)
  · skip
    refine rk_aload_n 0 dX11_record_8 rfl rfl ?_
    refine rk_g12_3 rk_kX11_39 dX11_record_9 ?_
    refine rk_bipush 6 dX11_record_12 (by decide) ?_
    refine rk_icmp_ne 53 dX11_record_14 (by decide) (fun qz14 => ?_) (fun qz14 => ?_)
    · skip
      refine rk_iconst 0 dX11_record_53 (by decide) ?_
      refine rk_pc (pc' := 54) rfl ?_
      refine rk_istore_n 1 (ls' := [(1, _), (0, _)]) dX11_record_54 rfl (by decide) rfl ?_
      refine rk_ord [0, 1] (ls' := [(0, _), (1, _)]) rfl ?_
      have hne : ¬ I 12 m 3 = 6 := qz14
      have hlt : u < 6 := by
        rcases Nat.lt_or_ge u 6 with g | g
        · exact g
        · obtain rfl : u = 6 := by omega
          exact absurd hu hne
      refine cX11_record_l2 (u := u) (J0 := I) hu hlt (fun J2 hJ2 => ?_) 340 0 I rfl (by rw [sp_cp0, md_self])
      refine rk_aload_n 0 dX11_record_89 rfl rfl ?_
      refine rk_dup dX11_record_90 rfl ?_
      refine rk_g12_3 rk_kX11_39 dX11_record_91 ?_
      refine rk_iconst 1 dX11_record_94 (by decide) ?_
      refine rk_iadd dX11_record_95 ?_
      refine rk_p12_3 rk_kX11_39 dX11_record_96 (fun Iz3 eIz3 => ?_)
      refine rk_vretU dX11_record_99 rfl ⟨rfl, ?_⟩
      have e3 : J2 12 m 3 = I 12 m 3 := by rw [hJ2, md_ac (by decide)]
      have e4 : (I 12 m 3).toNatClampNeg = u := by rw [hu]; exact nI_clamp (by omega)
      rw [md_rec, if_pos qz4, if_neg hne, eIz3, e3, hJ2, e4]
    · skip
      refine rk_iconst 0 dX11_record_17 (by decide) ?_
      refine rk_istore_n 1 (ls' := [(1, _), (0, _)]) dX11_record_18 rfl (by decide) rfl ?_
      refine rk_ord [0, 1] (ls' := [(0, _), (1, _)]) rfl ?_
      refine cX11_record_l1 (J0 := I) (fun J hJ => ?_) 1700 0 I rfl (by rw [show (fun j => if j < 0 then I 28 (R 12 m 2) (j + 340) else I 28 (R 12 m 2) j) = I 28 (R 12 m 2) from funext (fun j => if_neg (by omega)), md_self])
      have h6 : I 12 m 3 = 6 := qz14
      refine rk_aload_n 0 dX11_record_48 rfl rfl ?_
      refine rk_iconst 5 dX11_record_49 (by decide) ?_
      refine rk_p12_3 rk_kX11_39 dX11_record_50 (fun Iz1 eIz1 => ?_)
      refine rk_iconst 0 dX11_record_53 (by decide) ?_
      refine rk_istore_n 1 (ls' := [(1, _), (0, _)]) dX11_record_54 rfl (by decide) rfl ?_
      refine rk_ord [0, 1] (ls' := [(0, _), (1, _)]) rfl ?_
      refine cX11_record_l2 (u := 5) (J0 := Iz1) (by rw [eIz1]; exact rk_uI_s) (by decide) (fun J2 hJ2 => ?_) 340 0 Iz1 rfl (by rw [sp_cp0, md_self])
      refine rk_aload_n 0 dX11_record_89 rfl rfl ?_
      refine rk_dup dX11_record_90 rfl ?_
      refine rk_g12_3 rk_kX11_39 dX11_record_91 ?_
      refine rk_iconst 1 dX11_record_94 (by decide) ?_
      refine rk_iadd dX11_record_95 ?_
      refine rk_p12_3 rk_kX11_39 dX11_record_96 (fun Iz3 eIz3 => ?_)
      refine rk_vretU dX11_record_99 rfl ⟨rfl, ?_⟩
      have e3 : J2 12 m 3 = 5 := by rw [hJ2, md_ac (by decide), eIz1]; exact rk_uI_s
      rw [md_rec, if_pos qz4, if_pos h6, eIz3, e3, hJ2, eIz1, hJ]
      rw [md_cu (by decide), md_uu]
      rw [show (rk_uI (md_a I 28 (R 12 m 2) (sp_h1 (I 28 (R 12 m 2)))) 12 m 3 5) 28 (R 12 m 2) = sp_h1 (I 28 (R 12 m 2)) by rw [md_uc (by decide), md_as], show (rk_uI (md_a I 28 (R 12 m 2) (sp_h1 (I 28 (R 12 m 2)))) 12 m 3 5) 26 (R 12 m 0) = I 26 (R 12 m 0) by rw [md_uc (by decide), md_ac (by decide)], md_aa]
      rfl
  · skip
    refine rk_vretU dX11_record_7 rfl ?_
    exact ⟨rfl, by rw [md_rec, if_neg qz4]⟩

end MR

