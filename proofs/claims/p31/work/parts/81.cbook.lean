section CO
variable {w : rk_W} {l : Launch} {Sh : rk_Sh} {rg : Nat → Nat} {I : rk_Mm} {R : rk_Rm} {r : Nat} {N : Nat → Int32}
theorem cX0_has_s {q : Nat} {x : Int32} : rk_P w l rk_mX0_has 2 [rk_a 1 q, rk_i x] Sh I R (sp_b (0 ≤ x ∧ x ≤ I 1 q 1 - 1)) := by
  refine rk_bP (ls := [(0, _), (1, _)]) (by decide) rfl (Nat.le_of_ble_eq_true rfl) ?_
  refine rk_iload_n 1 dX0_has_0 rfl rfl ?_
  refine rk_iconst 0 dX0_has_1 (by decide) ?_
  refine rk_aload_n 0 dX0_has_2 rfl rfl ?_
  refine rk_g1_1 rk_kX0_18 dX0_has_3 ?_
  refine rk_iconst 1 dX0_has_6 (by decide) ?_
  refine rk_isub dX0_has_7 ?_
  refine rk_pc (pc' := 8) rfl ?_
  refine rk_cSNp (cX10_inRange_s _ _ _) rk_eX10_inRange rfl rk_nX0_26 dX0_has_8 rfl (by decide) (Nat.le_of_ble_eq_true rfl) ⟨Nat.le_refl _, Nat.le_refl _⟩ ?_
  refine rk_iretP dX0_has_11 rfl (by first | decide | exact rk_nz sp_bz) ?_
  rfl
theorem cX0_isFull_s {q : Nat} : rk_P w l rk_mX0_isFull 1 [rk_a 1 q] Sh I R (sp_b (16 ≤ I 1 q 1)) := by
  refine rk_bP (ls := [(0, _)]) (by decide) rfl (Nat.le_of_ble_eq_true rfl) ?_
  refine rk_aload_n 0 dX0_isFull_0 rfl rfl ?_
  refine rk_g1_1 rk_kX0_18 dX0_isFull_1 ?_
  refine rk_bipush 16 dX0_isFull_4 (by decide) ?_
  refine rk_icmp_lt 13 dX0_isFull_6 (by decide) (fun qz6 => ?_) (fun qz6 => ?_)
  · skip
    refine rk_iconst 0 dX0_isFull_13 (by decide) ?_
    refine rk_iretP dX0_isFull_14 rfl (by decide) ?_
    first | exact sp_b1 (Int32.not_lt.mp qz6) | exact sp_b0 (fun z => Int32.not_lt.mpr z qz6)
  · skip
    refine rk_iconst 1 dX0_isFull_9 (by decide) ?_
    refine rk_goto 14 dX0_isFull_10 (by decide) ?_
    refine rk_pc (pc' := 14) rfl ?_
    refine rk_iretP dX0_isFull_14 rfl (by decide) ?_
    first | exact sp_b1 (Int32.not_lt.mp qz6) | exact sp_b0 (fun z => Int32.not_lt.mpr z qz6)
theorem cX0_remove_l {q p c : Nat} (hc : c ≤ 16) (hp : p < c) (hn : I 1 q 1 = nI c) : ∀ n j : Nat, j + n = c - 1 → p ≤ j → ∀ J : rk_Rm, J = md_r R 13 (R 1 q 0) (cl_mv (R 13 (R 1 q 0)) p j) → rk_Wp w l rk_mX0_remove 1 0 0 (rk_GU w Sh (fun I' R' => I' = rk_uI I 1 q 1 (nI (c - 1)) ∧ R' = md_r R 13 (R 1 q 0) (fun i => R 13 (R 1 q 0) (cl_sg p c i)))) 9 [(0, rk_a 1 q), (1, rk_i (nI p)), (2, rk_a 3 (R 13 (R 1 q 0) p)), (3, rk_i (nI j))] [] (Sh, 0, 0) I J := by
  intro n
  induction n with
  | zero =>
    intro j hj hlo J hJ
    have g8 : J 1 q 0 = R 1 q 0 := by rw [hJ, mr_c (by decide)]
    obtain rfl : j = c - 1 := by omega
    refine rk_iload_n 3 dX0_remove_9 rfl rfl ?_
    refine rk_aload_n 0 dX0_remove_10 rfl rfl ?_
    refine rk_g1_1 rk_kX0_18 dX0_remove_11 ?_
    rw [hn]
    refine rk_iconst 1 dX0_remove_14 (by decide) ?_
    refine rk_isub dX0_remove_15 ?_
    rw [rk_pred (by omega)]
    refine rk_icmp_ge 39 dX0_remove_16 (by decide) (fun qz16 => ?_) (fun qz16 => ?_)
    · skip
      refine rk_aload_n 0 dX0_remove_39 rfl rfl ?_
      refine rk_pc (pc' := 40) rfl ?_
      refine rk_dup dX0_remove_40 rfl ?_
      refine rk_g1_1 rk_kX0_18 dX0_remove_41 ?_
      rw [hn]
      refine rk_iconst 1 dX0_remove_44 (by decide) ?_
      refine rk_isub dX0_remove_45 ?_
      rw [rk_pred (by omega)]
      refine rk_p1_1 rk_kX0_18 dX0_remove_46 (fun Iz1 eIz1 => ?_)
      refine rk_aload_n 0 dX0_remove_49 rfl rfl ?_
      refine rk_pc (pc' := 50) rfl ?_
      refine rk_g1_0 rk_kX0_11 dX0_remove_50 ?_
      rw [g8]
      refine rk_aload_n 0 dX0_remove_53 rfl rfl ?_
      refine rk_g1_1 rk_kX0_18 dX0_remove_54 ?_
      rw [rk_ufs eIz1]
      refine rk_aload_n 2 dX0_remove_57 rfl rfl ?_
      refine rk_sn13 (c - 1) dX0_remove_58 (by first | rfl | decide | assumption | (simp only [rk_lit, nI_add, pk_mul, nI_1]; done) | (simp only [rk_lit, nI_add, pk_mul, nI_1]; congr 1; omega)) (by first | decide | assumption | omega) (fun Rz2 eRz2 => ?_)
      refine rk_vretU dX0_remove_59 rfl ?_
      exact ⟨eIz1, by rw [eRz2, hJ, mr_u, cl_mve hp]⟩
    · skip
      exact absurd (nI_le (Nat.le_refl _) (by omega)) qz16
  | succ n ih =>
    intro j hj hlo J hJ
    have g8 : J 1 q 0 = R 1 q 0 := by rw [hJ, mr_c (by decide)]
    have g20 : J 13 (R 1 q 0) (j + 1) = R 13 (R 1 q 0) (j + 1) := by rw [hJ, mr_s]; simp only [cl_mv]; rw [if_neg (by omega)]
    refine rk_iload_n 3 dX0_remove_9 rfl rfl ?_
    refine rk_aload_n 0 dX0_remove_10 rfl rfl ?_
    refine rk_g1_1 rk_kX0_18 dX0_remove_11 ?_
    rw [hn]
    refine rk_iconst 1 dX0_remove_14 (by decide) ?_
    refine rk_isub dX0_remove_15 ?_
    rw [rk_pred (by omega)]
    refine rk_icmp_ge 39 dX0_remove_16 (by decide) (fun qz16 => ?_) (fun qz16 => ?_)
    · skip
      exact absurd qz16 (nI_ge (by omega) (by omega))
    · skip
      refine rk_aload_n 0 dX0_remove_19 rfl rfl ?_
      refine rk_pc (pc' := 20) rfl ?_
      refine rk_g1_0 rk_kX0_11 dX0_remove_20 ?_
      rw [g8]
      refine rk_iload_n 3 dX0_remove_23 rfl rfl ?_
      refine rk_aload_n 0 dX0_remove_24 rfl rfl ?_
      refine rk_g1_0 rk_kX0_11 dX0_remove_25 ?_
      rw [g8]
      refine rk_iload_n 3 dX0_remove_28 rfl rfl ?_
      refine rk_iconst 1 dX0_remove_29 (by decide) ?_
      refine rk_pc (pc' := 30) rfl ?_
      refine rk_iadd dX0_remove_30 ?_
      refine rk_rn13 (j + 1) dX0_remove_31 (by first | rfl | decide | assumption | (simp only [rk_lit, nI_add, pk_mul, nI_1]; done) | (simp only [rk_lit, nI_add, pk_mul, nI_1]; congr 1; omega)) (by first | decide | assumption | omega) ?_
      rw [g20]
      refine rk_sn13 (j) dX0_remove_32 (by first | rfl | decide | assumption | (simp only [rk_lit, nI_add, pk_mul, nI_1]; done) | (simp only [rk_lit, nI_add, pk_mul, nI_1]; congr 1; omega)) (by first | decide | assumption | omega) (fun Rz1 eRz1 => ?_)
      refine rk_iinc 1 (ls' := [(3, _), (0, _), (1, _), (2, _)]) dX0_remove_33 (by decide) rfl (by decide) rfl ?_
      refine rk_goto 9 dX0_remove_36 (by decide) ?_
      refine rk_ord [0, 1, 2, 3] (ls' := [(0, _), (1, _), (2, _), (3, _)]) rfl ?_
      rw [nI_1]
      exact ih (j + 1) (by omega) (by omega) _ (by rw [eRz1, hJ, mr_u, cl_mv1 hlo])
theorem cX0_remove_s {q p c : Nat} (hc : c ≤ 16) (hp : p < c) (hn : I 1 q 1 = nI c) : rk_U w l rk_mX0_remove 1 [rk_a 1 q, rk_i (nI p)] Sh I R (fun I' R' => I' = rk_uI I 1 q 1 (nI (c - 1)) ∧ R' = md_r R 13 (R 1 q 0) (fun i => R 13 (R 1 q 0) (cl_sg p c i))) := by
  refine rk_bU (ls := [(0, _), (1, _)]) (by decide) rfl (Nat.le_of_ble_eq_true rfl) ?_
  refine rk_aload_n 0 dX0_remove_0 rfl rfl ?_
  refine rk_g1_0 rk_kX0_11 dX0_remove_1 ?_
  refine rk_iload_n 1 dX0_remove_4 rfl rfl ?_
  refine rk_rn13 (p) dX0_remove_5 (by first | rfl | decide | assumption | (simp only [rk_lit, nI_add, pk_mul, nI_1]; done) | (simp only [rk_lit, nI_add, pk_mul, nI_1]; congr 1; omega)) (by first | decide | assumption | omega) ?_
  refine rk_astore_n 2 (ls' := [(2, _), (0, _), (1, _)]) dX0_remove_6 rfl (by decide) rfl ?_
  refine rk_iload_n 1 dX0_remove_7 rfl rfl ?_
  refine rk_pc (pc' := 8) rfl ?_
  refine rk_istore_n 3 (ls' := [(3, _), (2, _), (0, _), (1, _)]) dX0_remove_8 rfl (by decide) rfl ?_
  refine rk_ord [0, 1, 2, 3] (ls' := [(0, _), (1, _), (2, _), (3, _)]) rfl ?_
  exact cX0_remove_l hc hp hn (c - 1 - p) p (by omega) (Nat.le_refl p) R (by rw [cl_mv0, mr_self])
/-- a book's cells: all of one region, its orders apart -/
def cl_bs (rg : Nat → Nat) (R : rk_Rm) (b r : Nat) : Prop := rg b = r ∧ rg (R 1 b 0) = r ∧ (∀ i, i < 16 → rg (R 13 (R 1 b 0) i) = r) ∧ ∀ i j, i < 16 → j < 16 → R 13 (R 1 b 0) i = R 13 (R 1 b 0) j → i = j
/-- a book's orders are a row's -/
def cl_bc (I : rk_Mm) (R : rk_Rm) (b : Nat) (N : Nat → Int32) : Prop := I 1 b 1 = N 13 ∧ (∀ i, i < sp_c N 13 → ∀ k, k < 7 → I 3 (R 13 (R 1 b 0) i) k = N (220 + 7 * i + k)) ∧ ∀ i, i < sp_c N 13 → N (220 + 7 * i + 4) = 0 ∨ N (220 + 7 * i + 4) = 1
theorem cl_bs.fr {S : Nat → Prop} {I I' : rk_Mm} {R R' : rk_Rm} {b : Nat} (h : cl_bs rg R b r) (g : cl_fr rg S I R I' R') (hr : ¬ S r) : cl_bs rg R' b r := by
  have e8 := g.2.2 1 (by decide) (by decide) (by decide)
  have e20 := g.2.1 13 (R 1 b 0) (by rw [h.2.1]; exact hr)
  unfold cl_bs
  rw [e8, e20]
  exact h
theorem cl_bc.fr {S : Nat → Prop} {I I' : rk_Mm} {R R' : rk_Rm} {b c : Nat} (h : cl_bc I R b N) (hs : cl_bs rg R b r) (g : cl_fr rg S I R I' R') (hr : ¬ S r) (hc : N 13 = nI c) (hc2 : c ≤ 16) : cl_bc I' R' b N := by
  have e8 := g.2.2 1 (by decide) (by decide) (by decide)
  have e20 := g.2.1 13 (R 1 b 0) (by rw [hs.2.1]; exact hr)
  refine ⟨by rw [g.1 1 b (by rw [hs.1]; exact hr)]; exact h.1, fun i hi k hk => ?_, h.2.2⟩
  rw [e8, e20, g.1 3 _ (by rw [hs.2.2.1 i (by rw [sp_cN hc (by omega)] at hi; omega)]; exact hr)]
  exact h.2.1 i hi k hk
theorem cl_bc.cg {I : rk_Mm} {R : rk_Rm} {b c : Nat} {M : Nat → Int32} (h : cl_bc I R b N) (hc : N 13 = nI c) (hc2 : c ≤ 16) (e : ∀ j, j = 13 ∨ (220 ≤ j ∧ j < 332) → M j = N j) : cl_bc I R b M := by
  have e12 : sp_c M 13 = c := by rw [sp_c, e 13 (Or.inl rfl)]; exact sp_cN hc (by omega)
  refine ⟨by rw [e 13 (Or.inl rfl)]; exact h.1, fun p hp k hk => ?_, fun p hp => ?_⟩
  · rw [e12] at hp
    rw [e _ (Or.inr (by omega))]
    exact h.2.1 p (by rw [sp_cN hc (by omega)]; exact hp) k hk
  · rw [e12] at hp
    rw [e _ (Or.inr (by omega))]
    exact h.2.2 p (by rw [sp_cN hc (by omega)]; exact hp)
theorem cl_bc.up {b c i k : Nat} {v : Int32} (h : cl_bc I R b N) (hs : cl_bs rg R b r) (hc : N 13 = nI c) (hc2 : c ≤ 16) (hi : i < c) (hk : k < 7) (hk4 : k ≠ 4) : cl_bc (rk_uI I 3 (R 13 (R 1 b 0) i) k v) R b (sp_u N (220 + 7 * i + k) v) := by
  have e12 : sp_c (sp_u N (220 + 7 * i + k) v) 13 = c := by rw [sp_c, sp_un (by omega)]; exact sp_cN hc (by omega)
  refine ⟨by rw [rk_uI_n (fun z => absurd z.1 (by decide)), sp_un (by omega)]; exact h.1, fun p hp j hj => ?_, fun p hp => ?_⟩
  · rw [e12] at hp
    by_cases hpi : p = i
    · subst hpi
      by_cases hjk : j = k
      · subst hjk; rw [rk_uI_s, sp_us]
      · rw [rk_uI_n (fun z => hjk z.2.2), sp_un (by omega)]
        exact h.2.1 p (by rw [sp_cN hc (by omega)]; exact hp) j hj
    · rw [rk_uI_n (fun z => hpi (hs.2.2.2 p i (by omega) (by omega) z.2.1)), sp_un (by omega)]
      exact h.2.1 p (by rw [sp_cN hc (by omega)]; exact hp) j hj
  · rw [e12] at hp
    rw [sp_un (by omega)]
    exact h.2.2 p (by rw [sp_cN hc (by omega)]; exact hp)
theorem cl_bc.rm {b c i : Nat} (h : cl_bc I R b N) (hc : N 13 = nI c) (hc2 : c ≤ 16) (hi : i < c) : cl_bc (rk_uI I 1 b 1 (nI (c - 1))) (md_r R 13 (R 1 b 0) (fun z => R 13 (R 1 b 0) (cl_sg i c z))) b (sp_gone N 13 220 i) := by
  have e12 : sp_c (sp_gone N 13 220 i) 13 = c - 1 := sp_cN (sp_gone_n hc (by omega)) (by omega)
  have e8 : md_r R 13 (R 1 b 0) (fun z => R 13 (R 1 b 0) (cl_sg i c z)) 1 = R 1 := mr_c (by decide)
  refine ⟨by rw [rk_uI_s, sp_gone_n hc (by omega)], fun p hp j hj => ?_, fun p hp => ?_⟩
  · rw [e12] at hp
    rw [rk_uI_n (fun z => absurd z.1 (by decide)), e8, mr_s, sp_gone_p hc (by omega) (by decide) hp hj]
    show I 3 (R 13 (R 1 b 0) (cl_sg i c p)) j = _
    rw [cl_sg_l hp]
    exact h.2.1 _ (by rw [sp_cN hc (by omega)]; split <;> omega) j hj
  · rw [e12] at hp
    rw [sp_gone_p hc (by omega) (by decide) hp (by decide)]
    exact h.2.2 _ (by rw [sp_cN hc (by omega)]; split <;> omega)
theorem cl_bs.rm {b c i : Nat} (hs : cl_bs rg R b r) (hc2 : c ≤ 16) (hi : i < c) : cl_bs rg (md_r R 13 (R 1 b 0) (fun z => R 13 (R 1 b 0) (cl_sg i c z))) b r := by
  have e8 : md_r R 13 (R 1 b 0) (fun z => R 13 (R 1 b 0) (cl_sg i c z)) 1 = R 1 := mr_c (by decide)
  unfold cl_bs
  rw [e8, mr_s]
  exact ⟨hs.1, hs.2.1, fun p hp => hs.2.2.1 _ (cl_sg_lt hi hc2 hp), fun x y hx hy z => cl_sg_in hi (hs.2.2.2 _ _ (cl_sg_lt hi hc2 hx) (cl_sg_lt hi hc2 hy) z)⟩
theorem cX0_copy_l {q p rp c : Nat} (hs : cl_bs rg R q r) (hsp : cl_bs rg R p rp) (hne : rp ≠ r) (hpp : cl_bc I R p N) (hc : N 13 = nI c) (hc2 : c ≤ 16) : ∀ (n k : Nat) (J : rk_Mm), k + n = c → J 1 q 1 = N 13 → (∀ i, i < k → ∀ j, j < 7 → J 3 (R 13 (R 1 q 0) i) j = N (220 + 7 * i + j)) → cl_fr rg (fun z => z = r) I R J R → rk_Wp w l rk_mX0_copyFrom 2 0 0 (rk_GU w Sh (fun I' R' => R' = R ∧ cl_bc I' R q N ∧ cl_fr rg (fun z => z = r) I R I' R)) 10 [(0, rk_a 1 q), (1, rk_a 1 p), (2, rk_i (nI k))] [] (Sh, 0, 0) J R := by
  intro n
  induction n with
  | zero =>
    intro k J hk h1 hpc hfr
    obtain rfl : k = c := by omega
    refine rk_iload_n 2 dX0_copyFrom_10 rfl rfl ?_
    refine rk_aload_n 0 dX0_copyFrom_11 rfl rfl ?_
    refine rk_g1_1 rk_kX0_18 dX0_copyFrom_12 ?_
    rw [h1, hc]
    refine rk_icmp_ge 39 dX0_copyFrom_15 (by decide) (fun qz15 => ?_) (fun qz15 => ?_)
    · skip
      refine rk_vretU dX0_copyFrom_39 rfl ?_
      exact ⟨rfl, ⟨h1, fun i hi => hpc i (by rw [sp_cN hc (by omega)] at hi; exact hi), hpp.2.2⟩, hfr⟩
    · skip
      exact absurd (nI_le (Nat.le_refl _) (by omega)) qz15
  | succ n ih =>
    intro k J hk h1 hpc hfr
    have hnge : ¬ nI c ≤ nI k := nI_ge (by omega) (by omega)
    have hpJ : cl_bc J R p N := hpp.fr hsp hfr hne hc hc2
    have hkc : k < sp_c N 13 := by rw [sp_cN hc (by omega)]; omega
    have hr5 : rg (R 13 (R 1 q 0) k) = r := hs.2.2.1 k (by omega)
    refine rk_iload_n 2 dX0_copyFrom_10 rfl rfl ?_
    refine rk_aload_n 0 dX0_copyFrom_11 rfl rfl ?_
    refine rk_g1_1 rk_kX0_18 dX0_copyFrom_12 ?_
    rw [h1, hc]
    refine rk_icmp_ge 39 dX0_copyFrom_15 (by decide) (fun qz15 => ?_) (fun qz15 => ?_)
    · skip
      exact absurd qz15 hnge
    · skip
      refine rk_aload_n 0 dX0_copyFrom_18 rfl rfl ?_
      refine rk_g1_0 rk_kX0_11 dX0_copyFrom_19 ?_
      refine rk_iload_n 2 dX0_copyFrom_22 rfl rfl ?_
      refine rk_pc (pc' := 23) rfl ?_
      refine rk_rn13 (k) dX0_copyFrom_23 (by first | rfl | decide | assumption | (simp only [rk_lit, nI_add, pk_mul, nI_1]; done) | (simp only [rk_lit, nI_add, pk_mul, nI_1]; congr 1; omega)) (by first | decide | assumption | omega) ?_
      refine rk_aload_n 1 dX0_copyFrom_24 rfl rfl ?_
      refine rk_g1_0 rk_kX0_11 dX0_copyFrom_25 ?_
      refine rk_iload_n 2 dX0_copyFrom_28 rfl rfl ?_
      refine rk_rn13 (k) dX0_copyFrom_29 (by first | rfl | decide | assumption | (simp only [rk_lit, nI_add, pk_mul, nI_1]; done) | (simp only [rk_lit, nI_add, pk_mul, nI_1]; congr 1; omega)) (by first | decide | assumption | omega) ?_
      refine rk_cVv (cX2_copyFrom_s (by rw [hpJ.2.1 k hkc 4 (by decide)]; exact hpJ.2.2 k hkc)) rk_eX2_copyFrom rfl ⟨rfl, rfl⟩ rk_kX0_22 dX0_copyFrom_30 rfl (by decide) (Nat.le_of_ble_eq_true rfl) ⟨Nat.le_refl _, Nat.le_refl _⟩ (fun Iz1 Rz1 hz1 => ?_)
      obtain ⟨qhz1, eIz1⟩ := hz1
      obtain rfl := qhz1.symm
      refine rk_pc (pc' := 33) rfl ?_
      refine rk_iinc 1 (ls' := [(2, _), (0, _), (1, _)]) dX0_copyFrom_33 (by decide) rfl (by decide) rfl ?_
      refine rk_goto 10 dX0_copyFrom_36 (by decide) ?_
      refine rk_ord [0, 1, 2] (ls' := [(0, _), (1, _), (2, _)]) rfl ?_
      rw [nI_1]
      refine ih (k + 1) Iz1 (by omega) (by rw [eIz1, md_cc (by decide)]; exact h1) (fun i hi j hj => ?_) (hfr.tr (by rw [eIz1]; exact cl_fr.ma hr5))
      by_cases hik : i = k
      · subst hik; rw [eIz1, md_as, cl_cp_in hj]; exact hpJ.2.1 i hkc j hj
      · rw [eIz1, md_an (fun z => hik (hs.2.2.2 i k (by omega) (by omega) z.2))]; exact hpc i (by omega) j hj
theorem cX0_copyFrom_s {q p rp c : Nat} (hs : cl_bs rg R q r) (hsp : cl_bs rg R p rp) (hp : cl_bc I R p N) (hne : rp ≠ r) (hc : N 13 = nI c) (hc2 : c ≤ 16) : rk_U w l rk_mX0_copyFrom 2 [rk_a 1 q, rk_a 1 p] Sh I R (fun I' R' => R' = R ∧ cl_bc I' R q N ∧ cl_fr rg (fun z => z = r) I R I' R) := by
  refine rk_bU (ls := [(0, _), (1, _)]) (by decide) rfl (Nat.le_of_ble_eq_true rfl) ?_
  refine rk_aload_n 0 dX0_copyFrom_0 rfl rfl ?_
  refine rk_aload_n 1 dX0_copyFrom_1 rfl rfl ?_
  refine rk_g1_1 rk_kX0_18 dX0_copyFrom_2 ?_
  rw [hp.1]
  refine rk_p1_1 rk_kX0_18 dX0_copyFrom_5 (fun Iz1 eIz1 => ?_)
  refine rk_iconst 0 dX0_copyFrom_8 (by decide) ?_
  refine rk_istore_n 2 (ls' := [(2, _), (0, _), (1, _)]) dX0_copyFrom_9 rfl (by decide) rfl ?_
  refine rk_pc (pc' := 10) rfl ?_
  refine rk_ord [0, 1, 2] (ls' := [(0, _), (1, _), (2, _)]) rfl ?_
  exact cX0_copy_l hs hsp hne hp hc hc2 c 0 Iz1 (by omega) (by rw [rk_ufs eIz1]) (fun i hi => absurd hi (Nat.not_lt_zero i)) (by rw [eIz1]; exact cl_fr.ui hs.1)
end CO

