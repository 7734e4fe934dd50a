section CN
variable {w : rk_W} {l : Launch} {Sh : rk_Sh} {rg : Nat → Nat} {I : rk_Mm} {R : rk_Rm} {r c : Nat} {N : Nat → Int32}
theorem rk_ufi {I I' : rk_Mm} {c a j : Nat} {v : Int32} (h : I' = rk_uI I c a j v) {c' b i : Nat} (hi : i ≠ j) : I' c' b i = I c' b i := by rw [h]; exact rk_uI_n (fun z => hi z.2.2)
theorem cl_cp7 {F G : Nat → Int32} : sp_u (sp_u (sp_u (sp_u (sp_u (sp_u (sp_u G 0 (F 0)) 1 (F 1)) 2 (F 2)) 3 (F 3)) 4 (F 4)) 5 (F 5)) 6 (F 6) = cl_cp 7 F G := by
  funext k
  simp only [sp_u, cl_cp]
  rcases (by omega : k = 0 ∨ k = 1 ∨ k = 2 ∨ k = 3 ∨ k = 4 ∨ k = 5 ∨ k = 6 ∨ 7 ≤ k) with rfl | rfl | rfl | rfl | rfl | rfl | rfl | h
  iterate 7 simp
  simp [show ¬ k = 0 by omega, show ¬ k = 1 by omega, show ¬ k = 2 by omega, show ¬ k = 3 by omega, show ¬ k = 4 by omega, show ¬ k = 5 by omega, show ¬ k = 6 by omega, show ¬ k < 7 by omega]
theorem cX4_copyFrom_s {a b : Nat} : rk_U w l rk_mX4_copyFrom 1 [rk_a 5 a, rk_a 5 b] Sh I R (fun I' R' => R' = R ∧ I' = md_a I 5 a (cl_cp 7 (I 5 b) (I 5 a))) := by
  refine rk_bU (ls := [(0, _), (1, _)]) (by decide) rfl (Nat.le_of_ble_eq_true rfl) ?_
  refine rk_aload_n 0 dX4_copyFrom_0 rfl rfl ?_
  refine rk_aload_n 1 dX4_copyFrom_1 rfl rfl ?_
  refine rk_g5_0 rk_kX4_7 dX4_copyFrom_2 ?_
  refine rk_p5_0 rk_kX4_7 dX4_copyFrom_5 (fun Iz1 eIz1 => ?_)
  refine rk_aload_n 0 dX4_copyFrom_8 rfl rfl ?_
  refine rk_aload_n 1 dX4_copyFrom_9 rfl rfl ?_
  refine rk_pc (pc' := 10) rfl ?_
  refine rk_g5_1 rk_kX4_13 dX4_copyFrom_10 ?_
  rw [rk_ufi eIz1 (by decide)]
  refine rk_p5_1 rk_kX4_13 dX4_copyFrom_13 (fun Iz2 eIz2 => ?_)
  refine rk_aload_n 0 dX4_copyFrom_16 rfl rfl ?_
  refine rk_aload_n 1 dX4_copyFrom_17 rfl rfl ?_
  refine rk_g5_2 rk_kX4_16 dX4_copyFrom_18 ?_
  rw [rk_ufi eIz2 (by decide), rk_ufi eIz1 (by decide)]
  refine rk_p5_2 rk_kX4_16 dX4_copyFrom_21 (fun Iz3 eIz3 => ?_)
  refine rk_pc (pc' := 24) rfl ?_
  refine rk_aload_n 0 dX4_copyFrom_24 rfl rfl ?_
  refine rk_aload_n 1 dX4_copyFrom_25 rfl rfl ?_
  refine rk_g5_3 rk_kX4_19 dX4_copyFrom_26 ?_
  rw [rk_ufi eIz3 (by decide), rk_ufi eIz2 (by decide), rk_ufi eIz1 (by decide)]
  refine rk_p5_3 rk_kX4_19 dX4_copyFrom_29 (fun Iz4 eIz4 => ?_)
  refine rk_aload_n 0 dX4_copyFrom_32 rfl rfl ?_
  refine rk_aload_n 1 dX4_copyFrom_33 rfl rfl ?_
  refine rk_pc (pc' := 34) rfl ?_
  refine rk_g5_4 rk_kX4_22 dX4_copyFrom_34 ?_
  rw [rk_ufi eIz4 (by decide), rk_ufi eIz3 (by decide), rk_ufi eIz2 (by decide), rk_ufi eIz1 (by decide)]
  refine rk_p5_4 rk_kX4_22 dX4_copyFrom_37 (fun Iz5 eIz5 => ?_)
  refine rk_aload_n 0 dX4_copyFrom_40 rfl rfl ?_
  refine rk_aload_n 1 dX4_copyFrom_41 rfl rfl ?_
  refine rk_g5_5 rk_kX4_25 dX4_copyFrom_42 ?_
  rw [rk_ufi eIz5 (by decide), rk_ufi eIz4 (by decide), rk_ufi eIz3 (by decide), rk_ufi eIz2 (by decide), rk_ufi eIz1 (by decide)]
  refine rk_p5_5 rk_kX4_25 dX4_copyFrom_45 (fun Iz6 eIz6 => ?_)
  refine rk_pc (pc' := 48) rfl ?_
  refine rk_aload_n 0 dX4_copyFrom_48 rfl rfl ?_
  refine rk_aload_n 1 dX4_copyFrom_49 rfl rfl ?_
  refine rk_g5_6 rk_kX4_28 dX4_copyFrom_50 ?_
  rw [rk_ufi eIz6 (by decide), rk_ufi eIz5 (by decide), rk_ufi eIz4 (by decide), rk_ufi eIz3 (by decide), rk_ufi eIz2 (by decide), rk_ufi eIz1 (by decide)]
  refine rk_p5_6 rk_kX4_28 dX4_copyFrom_53 (fun Iz7 eIz7 => ?_)
  refine rk_vretU dX4_copyFrom_56 rfl ?_
  refine ⟨rfl, ?_⟩
  rw [md_ch (md_ch (md_ch (md_ch (md_ch (md_ch (md_c1 eIz1) eIz2) eIz3) eIz4) eIz5) eIz6) eIz7, cl_cp7]
theorem cX2_copyFrom_s {a b : Nat} (h4 : I 3 b 4 = 0 ∨ I 3 b 4 = 1) : rk_U w l rk_mX2_copyFrom 1 [rk_a 3 a, rk_a 3 b] Sh I R (fun I' R' => R' = R ∧ I' = md_a I 3 a (cl_cp 7 (I 3 b) (I 3 a))) := by
  refine rk_bU (ls := [(0, _), (1, _)]) (by decide) rfl (Nat.le_of_ble_eq_true rfl) ?_
  refine rk_aload_n 0 dX2_copyFrom_0 rfl rfl ?_
  refine rk_aload_n 1 dX2_copyFrom_1 rfl rfl ?_
  refine rk_g3_0 rk_kX2_7 dX2_copyFrom_2 ?_
  refine rk_p3_0 rk_kX2_7 dX2_copyFrom_5 (fun Iz1 eIz1 => ?_)
  refine rk_aload_n 0 dX2_copyFrom_8 rfl rfl ?_
  refine rk_aload_n 1 dX2_copyFrom_9 rfl rfl ?_
  refine rk_pc (pc' := 10) rfl ?_
  refine rk_g3_1 rk_kX2_13 dX2_copyFrom_10 ?_
  rw [rk_ufi eIz1 (by decide)]
  refine rk_p3_1 rk_kX2_13 dX2_copyFrom_13 (fun Iz2 eIz2 => ?_)
  refine rk_aload_n 0 dX2_copyFrom_16 rfl rfl ?_
  refine rk_aload_n 1 dX2_copyFrom_17 rfl rfl ?_
  refine rk_g3_2 rk_kX2_16 dX2_copyFrom_18 ?_
  rw [rk_ufi eIz2 (by decide), rk_ufi eIz1 (by decide)]
  refine rk_p3_2 rk_kX2_16 dX2_copyFrom_21 (fun Iz3 eIz3 => ?_)
  refine rk_pc (pc' := 24) rfl ?_
  refine rk_aload_n 0 dX2_copyFrom_24 rfl rfl ?_
  refine rk_aload_n 1 dX2_copyFrom_25 rfl rfl ?_
  refine rk_g3_3 rk_kX2_19 dX2_copyFrom_26 ?_
  rw [rk_ufi eIz3 (by decide), rk_ufi eIz2 (by decide), rk_ufi eIz1 (by decide)]
  refine rk_p3_3 rk_kX2_19 dX2_copyFrom_29 (fun Iz4 eIz4 => ?_)
  refine rk_aload_n 0 dX2_copyFrom_32 rfl rfl ?_
  refine rk_aload_n 1 dX2_copyFrom_33 rfl rfl ?_
  refine rk_pc (pc' := 34) rfl ?_
  refine rk_g3_4 rk_kX2_22 dX2_copyFrom_34 ?_
  rw [rk_ufi eIz4 (by decide), rk_ufi eIz3 (by decide), rk_ufi eIz2 (by decide), rk_ufi eIz1 (by decide)]
  refine rk_p3_4 rk_kX2_22 (by exact h4) dX2_copyFrom_37 (fun Iz5 eIz5 => ?_)
  refine rk_aload_n 0 dX2_copyFrom_40 rfl rfl ?_
  refine rk_aload_n 1 dX2_copyFrom_41 rfl rfl ?_
  refine rk_g3_5 rk_kX2_26 dX2_copyFrom_42 ?_
  rw [rk_ufi eIz5 (by decide), rk_ufi eIz4 (by decide), rk_ufi eIz3 (by decide), rk_ufi eIz2 (by decide), rk_ufi eIz1 (by decide)]
  refine rk_p3_5 rk_kX2_26 dX2_copyFrom_45 (fun Iz6 eIz6 => ?_)
  refine rk_pc (pc' := 48) rfl ?_
  refine rk_aload_n 0 dX2_copyFrom_48 rfl rfl ?_
  refine rk_aload_n 1 dX2_copyFrom_49 rfl rfl ?_
  refine rk_g3_6 rk_kX2_29 dX2_copyFrom_50 ?_
  rw [rk_ufi eIz6 (by decide), rk_ufi eIz5 (by decide), rk_ufi eIz4 (by decide), rk_ufi eIz3 (by decide), rk_ufi eIz2 (by decide), rk_ufi eIz1 (by decide)]
  refine rk_p3_6 rk_kX2_29 dX2_copyFrom_53 (fun Iz7 eIz7 => ?_)
  refine rk_vretU dX2_copyFrom_56 rfl ?_
  refine ⟨rfl, ?_⟩
  rw [md_ch (md_ch (md_ch (md_ch (md_ch (md_ch (md_c1 eIz1) eIz2) eIz3) eIz4) eIz5) eIz6) eIz7, cl_cp7]
theorem cX6_copyFrom_s {a b ra : Nat} (hs : cl_rs rg R a ra) (h : cl_ru I R b N) : rk_U w l rk_mX6_copyFrom 1 [rk_a 7 a, rk_a 7 b] Sh I R (fun I' R' => R' = R ∧ cl_ru I' R a N ∧ cl_fr rg (fun z => z = ra) I R I' R) := by
  refine rk_bU (ls := [(0, _), (1, _)]) (by decide) rfl (Nat.le_of_ble_eq_true rfl) ?_
  refine rk_aload_n 1 dX6_copyFrom_0 rfl rfl ?_
  refine rk_g7_0 rk_kX6_9 dX6_copyFrom_1 ?_
  refine rk_iconst 0 dX6_copyFrom_4 (by decide) ?_
  refine rk_aload_n 0 dX6_copyFrom_5 rfl rfl ?_
  refine rk_g7_0 rk_kX6_9 dX6_copyFrom_6 ?_
  refine rk_iconst 0 dX6_copyFrom_9 (by decide) ?_
  refine rk_pc (pc' := 10) rfl ?_
  refine rk_bipush 10 dX6_copyFrom_10 (by decide) ?_
  refine rk_cp17 (by exact rk_inT 36 (by decide +kernel) (by decide +kernel)) dX6_copyFrom_12 (Nat.le_of_ble_eq_true rfl) (Nat.le_of_ble_eq_true rfl) (fun Iz1 eIz1 => ?_)
  refine rk_aload_n 1 dX6_copyFrom_15 rfl rfl ?_
  refine rk_g7_1 rk_kX6_15 dX6_copyFrom_16 ?_
  refine rk_iconst 0 dX6_copyFrom_19 (by decide) ?_
  refine rk_aload_n 0 dX6_copyFrom_20 rfl rfl ?_
  refine rk_pc (pc' := 21) rfl ?_
  refine rk_g7_1 rk_kX6_15 dX6_copyFrom_21 ?_
  refine rk_iconst 0 dX6_copyFrom_24 (by decide) ?_
  refine rk_iconst 3 dX6_copyFrom_25 (by decide) ?_
  refine rk_cp18 (by exact rk_inT 36 (by decide +kernel) (by decide +kernel)) dX6_copyFrom_26 (Nat.le_of_ble_eq_true rfl) (Nat.le_of_ble_eq_true rfl) (fun Iz2 eIz2 => ?_)
  refine rk_aload_n 1 dX6_copyFrom_29 rfl rfl ?_
  refine rk_g7_2 rk_kX6_18 dX6_copyFrom_30 ?_
  refine rk_pc (pc' := 33) rfl ?_
  refine rk_iconst 0 dX6_copyFrom_33 (by decide) ?_
  refine rk_aload_n 0 dX6_copyFrom_34 rfl rfl ?_
  refine rk_g7_2 rk_kX6_18 dX6_copyFrom_35 ?_
  refine rk_iconst 0 dX6_copyFrom_38 (by decide) ?_
  refine rk_iconst 3 dX6_copyFrom_39 (by decide) ?_
  refine rk_cp19 (by exact rk_inT 36 (by decide +kernel) (by decide +kernel)) dX6_copyFrom_40 (Nat.le_of_ble_eq_true rfl) (Nat.le_of_ble_eq_true rfl) (fun Iz3 eIz3 => ?_)
  refine rk_pc (pc' := 43) rfl ?_
  refine rk_vretU dX6_copyFrom_43 rfl ?_
  refine ⟨rfl, ⟨fun j hj => ?_, fun f hf => ?_, fun f hf => ?_⟩, ?_⟩
  · rw [eIz3, md_cc (by decide), eIz2, md_cc (by decide), eIz1, md_as, cl_cp_in hj]; exact h.1 j hj
  · rw [eIz3, md_cc (by decide), eIz2, md_as, cl_cp_in hf, eIz1, md_cc (by decide)]; exact h.2.1 f hf
  · rw [eIz3, md_as, cl_cp_in hf, eIz2, md_cc (by decide), eIz1, md_cc (by decide)]; exact h.2.2 f hf
  · have f1 : cl_fr rg (fun z => z = ra) I R Iz1 R := by rw [eIz1]; exact cl_fr.ma hs.2.1
    have f2 : cl_fr rg (fun z => z = ra) Iz1 R Iz2 R := by rw [eIz2]; exact cl_fr.ma hs.2.2.1
    have f3 : cl_fr rg (fun z => z = ra) Iz2 R Iz3 R := by rw [eIz3]; exact cl_fr.ma hs.2.2.2
    exact (f1.tr f2).tr f3
theorem cX7_copy_l2 {q p rp : Nat} (hs : cl_ss rg R q r) (hsp : cl_ss rg R p rp) (hne : rp ≠ r) (ha : cl_sa I R p (sp_acc N)) (hc : N 12 = nI c) (hc2 : c ≤ 24) : ∀ (n k : Nat) (J : rk_Mm), k + n = 3 → cl_sp J R q N → (∀ g, g < k → ∀ j, j < 6 → J 22 (R 21 (R 8 q 2) g) j = sp_acc N g j) → cl_fr rg (fun z => z = r) I R J R → rk_Wp w l rk_mX7_copyFrom 2 0 0 (rk_GU w Sh (fun I' R' => R' = R ∧ cl_st rg I' R q r N ∧ cl_fr rg (fun z => z = r) I R I' R)) 41 [(0, rk_a 8 q), (1, rk_a 8 p), (2, rk_i (nI k))] [] (Sh, 0, 0) J R := by
  intro n
  induction n with
  | zero =>
    intro k J hk hp hacc hfr
    obtain rfl : k = 3 := by omega
    refine rk_iload_n 2 dX7_copyFrom_41 rfl rfl ?_
    refine rk_iconst 3 dX7_copyFrom_42 (by decide) ?_
    refine rk_icmp_ge 71 dX7_copyFrom_43 (by decide) (fun qz43 => ?_) (fun qz43 => ?_)
    · skip
      refine rk_vretU dX7_copyFrom_71 rfl ?_
      exact ⟨rfl, ⟨hs, hp, fun g hg j hj => hacc g hg j hj⟩, hfr⟩
    · skip
      exact absurd (by decide) qz43
  | succ n ih =>
    intro k J hk hp hacc hfr
    have hnge : ¬ (3 : Int32) ≤ nI k := nI_ge (b := 3) (by omega) (by decide)
    have haJ : cl_sa J R p (sp_acc N) := ha.fr hsp hfr hne
    have hr22 : rg (R 21 (R 8 q 2) k) = r := hs.2.2.2.2.1 k (by omega)
    refine rk_iload_n 2 dX7_copyFrom_41 rfl rfl ?_
    refine rk_iconst 3 dX7_copyFrom_42 (by decide) ?_
    refine rk_icmp_ge 71 dX7_copyFrom_43 (by decide) (fun qz43 => ?_) (fun qz43 => ?_)
    · skip
      exact absurd qz43 hnge
    · skip
      refine rk_aload_n 1 dX7_copyFrom_46 rfl rfl ?_
      refine rk_g8_2 rk_kX7_19 dX7_copyFrom_47 ?_
      refine rk_iload_n 2 dX7_copyFrom_50 rfl rfl ?_
      refine rk_rn21 (k) dX7_copyFrom_51 (by first | rfl | decide | assumption | (simp only [rk_lit, nI_add, pk_mul, nI_1]; done) | (simp only [rk_lit, nI_add, pk_mul, nI_1]; congr 1; omega)) (by first | decide | assumption | omega) ?_
      refine rk_pc (pc' := 52) rfl ?_
      refine rk_iconst 0 dX7_copyFrom_52 (by decide) ?_
      refine rk_aload_n 0 dX7_copyFrom_53 rfl rfl ?_
      refine rk_g8_2 rk_kX7_19 dX7_copyFrom_54 ?_
      refine rk_iload_n 2 dX7_copyFrom_57 rfl rfl ?_
      refine rk_rn21 (k) dX7_copyFrom_58 (by first | rfl | decide | assumption | (simp only [rk_lit, nI_add, pk_mul, nI_1]; done) | (simp only [rk_lit, nI_add, pk_mul, nI_1]; congr 1; omega)) (by first | decide | assumption | omega) ?_
      refine rk_iconst 0 dX7_copyFrom_59 (by decide) ?_
      refine rk_pc (pc' := 60) rfl ?_
      refine rk_bipush 6 dX7_copyFrom_60 (by decide) ?_
      refine rk_cp22 (by exact rk_inT 338 (by decide +kernel) (by decide +kernel)) dX7_copyFrom_62 (Nat.le_of_ble_eq_true rfl) (Nat.le_of_ble_eq_true rfl) (fun Iz1 eIz1 => ?_)
      refine rk_iinc 1 (ls' := [(2, _), (0, _), (1, _)]) dX7_copyFrom_65 (by decide) rfl (by decide) rfl ?_
      refine rk_goto 41 dX7_copyFrom_68 (by decide) ?_
      refine rk_ord [0, 1, 2] (ls' := [(0, _), (1, _), (2, _)]) rfl ?_
      rw [nI_1]
      refine ih (k + 1) Iz1 (by omega) (by rw [eIz1]; exact hp.md) (fun g hg j hj => ?_) (hfr.tr (by rw [eIz1]; exact cl_fr.ma hr22))
      by_cases hgk : g = k
      · subst hgk; rw [eIz1, md_as, cl_cp_in hj]; exact haJ g (by omega) j hj
      · rw [eIz1, md_an (fun z => hgk (hs.2.2.2.2.2.2 g k (by omega) (by omega) z.2))]; exact hacc g (by omega) j hj
theorem cX7_copy_l1 {q p rp : Nat} (hs : cl_ss rg R q r) (hsp : cl_ss rg R p rp) (hne : rp ≠ r) (hpp : cl_sp I R p N) (ha : cl_sa I R p (sp_acc N)) (hc : N 12 = nI c) (hc2 : c ≤ 24) : ∀ (n k : Nat) (J : rk_Mm), k + n = c → J 8 q 1 = N 12 → (∀ i, i < k → ∀ j, j < 7 → J 5 (R 20 (R 8 q 0) i) j = N (50 + 7 * i + j)) → cl_fr rg (fun z => z = r) I R J R → rk_Wp w l rk_mX7_copyFrom 2 0 0 (rk_GU w Sh (fun I' R' => R' = R ∧ cl_st rg I' R q r N ∧ cl_fr rg (fun z => z = r) I R I' R)) 10 [(0, rk_a 8 q), (1, rk_a 8 p), (2, rk_i (nI k))] [] (Sh, 0, 0) J R := by
  intro n
  induction n with
  | zero =>
    intro k J hk h1 hpc hfr
    obtain rfl : k = c := by omega
    refine rk_iload_n 2 dX7_copyFrom_10 rfl rfl ?_
    refine rk_aload_n 0 dX7_copyFrom_11 rfl rfl ?_
    refine rk_g8_1 rk_kX7_23 dX7_copyFrom_12 ?_
    rw [h1, hc]
    refine rk_icmp_ge 39 dX7_copyFrom_15 (by decide) (fun qz15 => ?_) (fun qz15 => ?_)
    · skip
      refine rk_iconst 0 dX7_copyFrom_39 (by decide) ?_
      refine rk_istore_n 2 (ls' := [(2, _), (0, _), (1, _)]) dX7_copyFrom_40 rfl (by decide) rfl ?_
      refine rk_ord [0, 1, 2] (ls' := [(0, _), (1, _), (2, _)]) rfl ?_
      exact cX7_copy_l2 hs hsp hne ha hc hc2 3 0 J (by decide) ⟨h1, fun i hi => hpc i (by rw [sp_cN hc (by omega)] at hi; exact hi)⟩ (fun g hg => absurd hg (Nat.not_lt_zero g)) hfr
    · skip
      exact absurd (nI_le (Nat.le_refl _) (by omega)) qz15
  | succ n ih =>
    intro k J hk h1 hpc hfr
    have hnge : ¬ nI c ≤ nI k := nI_ge (by omega) (by omega)
    have hpJ : cl_sp J R p N := hpp.fr hsp hfr hne hc hc2
    have hr5 : rg (R 20 (R 8 q 0) k) = r := hs.2.2.2.1 k (by omega)
    refine rk_iload_n 2 dX7_copyFrom_10 rfl rfl ?_
    refine rk_aload_n 0 dX7_copyFrom_11 rfl rfl ?_
    refine rk_g8_1 rk_kX7_23 dX7_copyFrom_12 ?_
    rw [h1, hc]
    refine rk_icmp_ge 39 dX7_copyFrom_15 (by decide) (fun qz15 => ?_) (fun qz15 => ?_)
    · skip
      exact absurd qz15 hnge
    · skip
      refine rk_aload_n 0 dX7_copyFrom_18 rfl rfl ?_
      refine rk_g8_0 rk_kX7_11 dX7_copyFrom_19 ?_
      refine rk_iload_n 2 dX7_copyFrom_22 rfl rfl ?_
      refine rk_pc (pc' := 23) rfl ?_
      refine rk_rn20 (k) dX7_copyFrom_23 (by first | rfl | decide | assumption | (simp only [rk_lit, nI_add, pk_mul, nI_1]; done) | (simp only [rk_lit, nI_add, pk_mul, nI_1]; congr 1; omega)) (by first | decide | assumption | omega) ?_
      refine rk_aload_n 1 dX7_copyFrom_24 rfl rfl ?_
      refine rk_g8_0 rk_kX7_11 dX7_copyFrom_25 ?_
      refine rk_iload_n 2 dX7_copyFrom_28 rfl rfl ?_
      refine rk_rn20 (k) dX7_copyFrom_29 (by first | rfl | decide | assumption | (simp only [rk_lit, nI_add, pk_mul, nI_1]; done) | (simp only [rk_lit, nI_add, pk_mul, nI_1]; congr 1; omega)) (by first | decide | assumption | omega) ?_
      refine rk_cVv (cX4_copyFrom_s) rk_eX4_copyFrom rfl ⟨rfl, rfl⟩ rk_kX7_27 dX7_copyFrom_30 rfl (by decide) (Nat.le_of_ble_eq_true rfl) ⟨Nat.le_refl _, Nat.le_refl _⟩ (fun Iz1 Rz1 hz1 => ?_)
      obtain ⟨qhz1, eIz1⟩ := hz1
      obtain rfl := qhz1.symm
      refine rk_pc (pc' := 33) rfl ?_
      refine rk_iinc 1 (ls' := [(2, _), (0, _), (1, _)]) dX7_copyFrom_33 (by decide) rfl (by decide) rfl ?_
      refine rk_goto 10 dX7_copyFrom_36 (by decide) ?_
      refine rk_ord [0, 1, 2] (ls' := [(0, _), (1, _), (2, _)]) rfl ?_
      rw [nI_1]
      refine ih (k + 1) Iz1 (by omega) (by rw [eIz1, md_cc (by decide)]; exact h1) (fun i hi j hj => ?_) (hfr.tr (by rw [eIz1]; exact cl_fr.ma hr5))
      by_cases hik : i = k
      · subst hik; rw [eIz1, md_as, cl_cp_in hj]; exact hpJ.2 i (by rw [sp_cN hc (by omega)]; omega) j hj
      · rw [eIz1, md_an (fun z => hik (hs.2.2.2.2.2.1 i k (by omega) (by omega) z.2))]; exact hpc i (by omega) j hj
theorem cX7_copyFrom_s {q p rp : Nat} (hs : cl_ss rg R q r) (hp : cl_st rg I R p rp N) (hne : rp ≠ r) (hc : N 12 = nI c) (hc2 : c ≤ 24) : rk_U w l rk_mX7_copyFrom 2 [rk_a 8 q, rk_a 8 p] Sh I R (fun I' R' => R' = R ∧ cl_st rg I' R q r N ∧ cl_fr rg (fun z => z = r) I R I' R) := by
  refine rk_bU (ls := [(0, _), (1, _)]) (by decide) rfl (Nat.le_of_ble_eq_true rfl) ?_
  refine rk_aload_n 0 dX7_copyFrom_0 rfl rfl ?_
  refine rk_aload_n 1 dX7_copyFrom_1 rfl rfl ?_
  refine rk_g8_1 rk_kX7_23 dX7_copyFrom_2 ?_
  rw [hp.2.1.1]
  refine rk_p8_1 rk_kX7_23 dX7_copyFrom_5 (fun Iz1 eIz1 => ?_)
  refine rk_iconst 0 dX7_copyFrom_8 (by decide) ?_
  refine rk_istore_n 2 (ls' := [(2, _), (0, _), (1, _)]) dX7_copyFrom_9 rfl (by decide) rfl ?_
  refine rk_pc (pc' := 10) rfl ?_
  refine rk_ord [0, 1, 2] (ls' := [(0, _), (1, _), (2, _)]) rfl ?_
  exact cX7_copy_l1 hs hp.1 hne hp.2.1 hp.2.2 hc hc2 c 0 Iz1 (by omega) (by rw [rk_ufs eIz1]) (fun i hi => absurd hi (Nat.not_lt_zero i)) (by rw [eIz1]; exact cl_fr.ui hs.1)
end CN

