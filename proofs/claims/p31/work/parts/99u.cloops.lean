section EK1
variable {w : rk_W} {l : Launch} {Sh : rk_Sh} {I : rk_Mm} {R : rk_Rm}
theorem rk_rk10 {f : Nat} {P : Nat → Nat → Prop} (h0 : P 0 7) (h1 : P 1 8) (h2 : P 2 1) (hf : rk_rk 10 f ≠ 0) : P f (rk_rk 10 f) := by
  match f with
  | 0 => exact h0
  | 1 => exact h1
  | 2 => exact h2
  | 3 => exact absurd rfl hf
  | 4 => exact absurd rfl hf
  | 5 => exact absurd rfl hf
  | 6 => exact absurd rfl hf
  | 7 => exact absurd rfl hf
  | f + 8 => exact absurd rfl hf
theorem cX8_init_l {s q : Nat} {Q : rk_S → Prop} (hs : Sh.2 s = 59) (hQ : ∀ u : rk_S, cn_f Sh I R u s → u.2.2 9 s 0 = q → cn_arr Sh u 23 11 8 q → (∀ rg : Nat → Nat, rg s = 84 → ∃ rg' : Nat → Nat, (∀ a, Sh.2 a ≠ 0 → rg' a = rg a) ∧ rg' q = 84 ∧ ∀ i, i < 11 → cl_ss rg' u.2.2 (u.2.2 23 q i) (4 * (10 + i) + 2)) → Q u) : ∀ (n k : Nat) (u : rk_S), k + n = 11 → (∀ a, Sh.2 a ≠ 0 → u.1.2 a = Sh.2 a) → cn_f Sh I R u s → cn_fill Sh u 23 8 q k → u.2.2 9 s 0 = q → (∀ rg : Nat → Nat, rg s = 84 → ∃ rg' : Nat → Nat, (∀ a, Sh.2 a ≠ 0 → rg' a = rg a) ∧ rg' q = 84 ∧ ∀ i, i < k → cl_ss rg' u.2.2 (u.2.2 23 q i) (4 * (10 + i) + 2)) → rk_Wp w l rk_mX8_init 3 331 2387 (rk_G w (fun r u => r = none ∧ (∀ a, Sh.2 a ≠ 0 → u.1.2 a = Sh.2 a) ∧ Q u) 331 2387) 15 [(0, rk_a 59 s), (1, rk_i (nI k))] [] (u.1, 1 + 30 * k, 11 + 216 * k) u.2.1 u.2.2 := by
  intro n
  induction n with
  | zero =>
    intro k u hk hK hf hfl h0 hD
    obtain rfl : k = 11 := by omega
    have hqn : ∀ a, Sh.2 a ≠ 0 → a ≠ q := fun a h z => h (by rw [z]; exact hfl.2.1)
    refine rk_iload_n 1 dX8_init_15 rfl rfl ?_
    refine rk_bipush 10 dX8_init_16 (by decide) ?_
    refine rk_icmp_gt 40 dX8_init_18 (by decide) (fun qz18 => ?_) (fun qz18 => ?_)
    · skip
      refine rk_pubg 23 (by decide) hfl.1 (fun f hf2 => ?_) rfl rfl ?_
      · rw [rk_rkA (k := 23) rfl] at hf2 ⊢
        by_cases hn : f < 11
        · rw [if_pos hn]; exact (hfl.2.2.1 f hn).1
        · rw [if_neg hn] at hf2; exact absurd rfl hf2
      · refine rk_vret dX8_init_40 rfl (by dsimp only; omega) ?_
        exact ⟨rfl, fun a h => by show va_up u.1.2 q 23 a = Sh.2 a; rw [va_up_ne _ _ (hqn a h)]; exact hK a h, hQ (rk_pS u.1 q 23, u.2) hf h0 (hfl.done (by decide)) hD⟩
    · skip
      exact absurd (show (10 : Int32) < nI 11 by decide) qz18
  | succ n ih =>
    intro k u hk hK hf hfl h0 hD
    have hlt : ¬ (10 : Int32) < nI k := Int32.not_lt.mpr (nI_le (b := 10) (by omega) (by decide))
    have hin : vp_in (nI k) 11 := vp_in_nI (by omega) (by omega)
    refine rk_wt (fun hW => ?_)
    have hW2 : rk_WT u.1.2 u.2.2 := hW
    refine rk_iload_n 1 dX8_init_15 rfl rfl ?_
    refine rk_bipush 10 dX8_init_16 (by decide) ?_
    refine rk_icmp_gt 40 dX8_init_18 (by decide) (fun qz18 => ?_) (fun qz18 => ?_)
    · skip
      exact absurd qz18 hlt
    · skip
      refine rk_aload_n 0 dX8_init_21 rfl rfl ?_
      refine rk_gr9_0 73 rk_kX8_13 dX8_init_22 (by rw [h0]; exact hfl.1) (by decide) ?_
      rw [h0]
      refine rk_iload_n 1 dX8_init_25 rfl rfl ?_
      refine rk_nw8 (by exact rk_inT 281 (by decide +kernel) (by decide +kernel)) (by first | omega | (dsimp only; omega)) (by first | omega | (dsimp only; omega)) dX8_init_26 (fun nz1 hn1 => ?_)
      refine rk_pc (pc' := 29) rfl ?_
      refine rk_dup dX8_init_29 rfl ?_
      refine rk_cIe _ _ _ _ (cX7_init_s (va_up_self _ _ _)) rk_eX7_init rfl rk_kX8_17 dX8_init_30 rfl (by first | omega | (dsimp only; omega)) (by first | omega | (dsimp only; omega)) (Nat.le_of_ble_eq_true rfl) (fun uz1 hz1 => ?_)
      obtain ⟨k1, P1, Q2, Q3, Q4⟩ := hz1
      refine rk_pub 8 (by decide) (fun f hf => rk_rk8 (P := fun f x => uz1.1.2 (uz1.2.2 8 nz1 f) = x) Q2.1.1 Q3.1.1 hf) rfl rfl ?_
      refine rk_sr23 dX8_init_33 (by exact hin) (fun Rz2 eRz2 => ?_)
      rw [nI_clamp (by omega)] at eRz2
      have HM := cn_mk (Sh := u.1) (I := u.2.1) (R := u.2.2) (k := 8) (by decide) hn1 k1 P1 eRz2
      have hq0 : u.1.2 q ≠ 0 := by rw [hfl.1]; decide
      obtain ⟨M1, M2⟩ := cn_mkS (Sh := u.1) (I := u.2.1) (R := u.2.2) hn1 hq0 P1 eRz2
      have hsa : Sh.2 s ≠ 0 := by rw [hs]; decide
      have hqn : ∀ a, Sh.2 a ≠ 0 → a ≠ q := fun a h z => h (by rw [z]; exact hfl.2.1)
      have al : ∀ a, Sh.2 a ≠ 0 → u.1.2 a ≠ 0 := fun a h => by rw [hK a h]; exact h
      have g1 : ∀ a, Sh.2 a ≠ 0 → (rk_pS uz1.1 nz1 8).2 a = Sh.2 a := fun a h => (HM.1 a (al a h)).trans (hK a h)
      have g2 : cn_f Sh I R (rk_pS uz1.1 nz1 8, uz1.2.1, Rz2) s := fun a h => ⟨fun c j => ((HM.2 a (al a h)).1 c j).trans ((hf a h).1 c j), fun hs2 c j => ((HM.2 a (al a h)).2 (hqn a h) c j).trans ((hf a h).2 hs2 c j)⟩
      have g3 : cn_fill Sh (rk_pS uz1.1 nz1 8, uz1.2.1, Rz2) 23 8 q (k + 1) := hfl.next (v := nz1) (by decide) hK HM.1 (fun j hj => M2 j hj) M1 (va_up_self _ _ _) hn1.1
      have g4 : Rz2 9 s 0 = q := ((HM.2 s (al s hsa)).2 (hqn s hsa) 9 0).trans h0
      have eC : ∀ c, c ≠ 23 → Rz2 c = uz1.2.2 c := fun c hc => by funext a j; rw [eRz2]; exact rk_uR_n (fun z => hc z.1)
      refine rk_iinc 1 (ls' := [(1, _), (0, _)]) dX8_init_34 (by decide) rfl (by decide) rfl ?_
      refine rk_goto 15 dX8_init_37 (by decide) ?_
      refine rk_ord [0, 1] (ls' := [(0, _), (1, _)]) rfl ?_
      rw [nI_1]
      refine rk_zc (c' := 1 + 30 * (k + 1)) (z' := 11 + 216 * (k + 1)) (by dsimp only; omega) (by dsimp only; omega) ?_
      refine ih (k + 1) (rk_pS uz1.1 nz1 8, uz1.2.1, Rz2) (by omega) g1 g2 g3 g4 (fun rg hrg => ?_)
      obtain ⟨rg1, d1, d2, d3⟩ := hD rg hrg
      obtain ⟨rg2, hrg2⟩ : ∃ rg2 : Nat → Nat, rg2 = fun a => if u.1.2 a ≠ 0 then rg1 a else 4 * (10 + k) + 2 := ⟨_, rfl⟩
      have c1 : ∀ a, u.1.2 a ≠ 0 → rg2 a = rg1 a := fun a h => by rw [hrg2]; exact if_pos h
      have c3 : ∀ a, u.1.2 a = 0 → rg2 a = 4 * (10 + k) + 2 := fun a h => by rw [hrg2]; exact if_neg (fun z => z h)
      have c2 : cl_ss rg2 Rz2 nz1 (4 * (10 + k) + 2) := by
        unfold cl_ss
        rw [eC 8 (by decide), eC 20 (by decide), eC 21 (by decide)]
        exact ⟨c3 _ hn1.1, c3 _ (cn_in Q2.1 (by decide)).2.1, c3 _ (cn_in Q3.1 (by decide)).2.1, fun i hi => c3 _ (cn_in (Q2.2.1 i hi) (by decide)).2.1, fun i hi => c3 _ (cn_in (Q3.2.1 i hi) (by decide)).2.1, Q2.2.2, Q3.2.2⟩
      refine ⟨rg2, fun a h => (c1 a (al a h)).trans (d1 a h), (c1 q hq0).trans d2, fun i hi => ?_⟩
      by_cases e : i = k
      · subst e
        show cl_ss rg2 Rz2 (Rz2 23 q i) (4 * (10 + i) + 2)
        rw [M1]
        exact c2
      · show cl_ss rg2 Rz2 (Rz2 23 q i) (4 * (10 + i) + 2)
        rw [M2 i e]
        exact cn_ss hW2 (hfl.2.2.1 i (by omega)).1 (fun a h1 h2 => ⟨c1 a h1, (HM.2 a h1).2 (fun z => by rw [z, hfl.1] at h2; exact absurd h2 (by decide))⟩) (d3 i (by omega))
theorem cX8_init_s {s : Nat} (hs : Sh.2 s = 59) : rk_K w l rk_mX8_init 3 331 2387 [rk_a 59 s] Sh I R (fun u => cn_f Sh I R u s ∧ cn_arr Sh u 23 11 8 (u.2.2 9 s 0) ∧ ∀ rg : Nat → Nat, rg s = 84 → ∃ rg' : Nat → Nat, (∀ a, Sh.2 a ≠ 0 → rg' a = rg a) ∧ rg' (u.2.2 9 s 0) = 84 ∧ ∀ i, i < 11 → cl_ss rg' u.2.2 (u.2.2 23 (u.2.2 9 s 0) i) (4 * (10 + i) + 2)) := by
  refine rk_bK (ls := [(0, _)]) (by decide) rfl (Nat.le_of_ble_eq_true rfl) ?_
  refine rk_aload_n 0 dX8_init_0 rfl rfl ?_
  refine rk_oinit (by exact rk_inT 280 (by decide +kernel) (by decide +kernel)) rk_oin rk_oco dX8_init_1 (by decide) (Nat.le_of_ble_eq_true rfl) ?_
  refine rk_aload_n 0 dX8_init_4 rfl rfl ?_
  refine rk_bipush 11 dX8_init_5 (by decide) ?_
  refine rk_nq23 (by exact rk_inT 281 (by decide +kernel) (by decide +kernel)) (by decide) (by first | omega | (dsimp only; omega)) (by first | omega | (dsimp only; omega)) dX8_init_7 (fun nz1 hn1 => ?_)
  refine rk_pf9_0 rfl rfl rk_kX8_13 (by decide) dX8_init_10 (fun Rz1 eRz1 => ?_)
  refine rk_iconst 0 dX8_init_13 (by decide) ?_
  refine rk_pc (pc' := 14) rfl ?_
  refine rk_istore_n 1 (ls' := [(1, _), (0, _)]) dX8_init_14 rfl (by decide) rfl ?_
  refine rk_ord [0, 1] (ls' := [(0, _), (1, _)]) rfl ?_
  obtain ⟨a1, a0⟩ := hn1
  have s1 : s ≠ nz1 := fun z => by rw [z, a1] at hs; cases hs
  have ne1 : ∀ a, Sh.2 a ≠ 0 → a ≠ nz1 := fun a h z => h (by rw [z]; exact a1)
  refine cX8_init_l hs (q := nz1) (fun u h1 h2 h3 h4 => ⟨h1, by rw [h2]; exact h3, by rw [h2]; exact h4⟩) 11 0 (rk_nS Sh nz1 73, rk_nI I nz1, Rz1) (by omega) (fun a h => va_up_ne _ _ (ne1 a h)) (fun a h => ⟨fun c j => rk_nI_n (ne1 a h), fun hs2 c j => ?_⟩) ⟨va_up_self _ _ _, a1, fun i hi => absurd hi (Nat.not_lt_zero i), fun i j hi => absurd hi (Nat.not_lt_zero i)⟩ (by show Rz1 9 s 0 = nz1; rw [eRz1, rk_uR_s]) (fun rg hrg => ⟨fun a => if a = nz1 then 84 else rg a, fun a h => if_neg (ne1 a h), if_pos rfl, fun i hi => absurd hi (Nat.not_lt_zero i)⟩)
  show Rz1 c a j = R c a j
  rw [eRz1, rk_uR_n (fun z => hs2 z.2.1), rk_nR_n (ne1 a h)]
theorem cX1_init_l {s q : Nat} {Q : rk_S → Prop} (hw : cl_W w) (hs : Sh.2 s = 52) (hQ : ∀ u : rk_S, cn_f Sh I R u s → u.2.2 2 s 0 = q → cn_arr Sh u 14 7 10 q → (∀ rg : Nat → Nat, rg s = 88 → ∃ rg' : Nat → Nat, (∀ a, Sh.2 a ≠ 0 → rg' a = rg a) ∧ rg' q = 88 ∧ ∀ i, i < 7 → cl_ys rg' u.2.2 (u.2.2 14 q i) (i + 1)) → Q u) : ∀ (n k : Nat) (u : rk_S), k + n = 7 → (∀ a, Sh.2 a ≠ 0 → u.1.2 a = Sh.2 a) → cn_f Sh I R u s → cn_fill Sh u 14 10 q k → u.2.2 2 s 0 = q → (∀ rg : Nat → Nat, rg s = 88 → ∃ rg' : Nat → Nat, (∀ a, Sh.2 a ≠ 0 → rg' a = rg a) ∧ rg' q = 88 ∧ ∀ i, i < k → cl_ys rg' u.2.2 (u.2.2 14 q i) (i + 1)) → rk_Wp w l rk_mX1_init 4 372 2618 (rk_G w (fun r u => r = none ∧ (∀ a, Sh.2 a ≠ 0 → u.1.2 a = Sh.2 a) ∧ Q u) 372 2618) 15 [(0, rk_a 52 s), (1, rk_i (nI k))] [] (u.1, 1 + 53 * k, 7 + 373 * k) u.2.1 u.2.2 := by
  intro n
  induction n with
  | zero =>
    intro k u hk hK hf hfl h0 hD
    obtain rfl : k = 7 := by omega
    have hqn : ∀ a, Sh.2 a ≠ 0 → a ≠ q := fun a h z => h (by rw [z]; exact hfl.2.1)
    refine rk_iload_n 1 dX1_init_15 rfl rfl ?_
    refine rk_bipush 6 dX1_init_16 (by decide) ?_
    refine rk_icmp_gt 40 dX1_init_18 (by decide) (fun qz18 => ?_) (fun qz18 => ?_)
    · skip
      refine rk_pubg 14 (by decide) hfl.1 (fun f hf2 => ?_) rfl rfl ?_
      · rw [rk_rkA (k := 14) rfl] at hf2 ⊢
        by_cases hn : f < 7
        · rw [if_pos hn]; exact (hfl.2.2.1 f hn).1
        · rw [if_neg hn] at hf2; exact absurd rfl hf2
      · refine rk_vret dX1_init_40 rfl (by dsimp only; omega) ?_
        exact ⟨rfl, fun a h => by show va_up u.1.2 q 14 a = Sh.2 a; rw [va_up_ne _ _ (hqn a h)]; exact hK a h, hQ (rk_pS u.1 q 14, u.2) hf h0 (hfl.done (by decide)) hD⟩
    · skip
      exact absurd (show (6 : Int32) < nI 7 by decide) qz18
  | succ n ih =>
    intro k u hk hK hf hfl h0 hD
    have hlt : ¬ (6 : Int32) < nI k := Int32.not_lt.mpr (nI_le (b := 6) (by omega) (by decide))
    have hin : vp_in (nI k) 7 := vp_in_nI (by omega) (by omega)
    refine rk_wt (fun hW => ?_)
    have hW2 : rk_WT u.1.2 u.2.2 := hW
    refine rk_iload_n 1 dX1_init_15 rfl rfl ?_
    refine rk_bipush 6 dX1_init_16 (by decide) ?_
    refine rk_icmp_gt 40 dX1_init_18 (by decide) (fun qz18 => ?_) (fun qz18 => ?_)
    · skip
      exact absurd qz18 hlt
    · skip
      refine rk_aload_n 0 dX1_init_21 rfl rfl ?_
      refine rk_gr2_0 64 rk_kX1_13 dX1_init_22 (by rw [h0]; exact hfl.1) (by decide) ?_
      rw [h0]
      refine rk_iload_n 1 dX1_init_25 rfl rfl ?_
      refine rk_nw10 (by exact rk_inT 229 (by decide +kernel) (by decide +kernel)) (by first | omega | (dsimp only; omega)) (by first | omega | (dsimp only; omega)) dX1_init_26 (fun nz1 hn1 => ?_)
      refine rk_pc (pc' := 29) rfl ?_
      refine rk_dup dX1_init_29 rfl ?_
      refine rk_cIeN _ _ _ _ (cX9_init_s hw (va_up_self _ _ _)) rk_eX9_init rfl rk_nX1_17 dX1_init_30 rfl (by first | omega | (dsimp only; omega)) (by first | omega | (dsimp only; omega)) (Nat.le_of_ble_eq_true rfl) (fun uz1 hz1 => ?_)
      obtain ⟨k1, P1, Q2, Q3, Q4⟩ := hz1
      refine rk_pub 10 (by decide) (fun f hf => rk_rk10 (P := fun f x => uz1.1.2 (uz1.2.2 10 nz1 f) = x) Q2.1 Q2.2.1 Q2.2.2 hf) rfl rfl ?_
      refine rk_sr14 dX1_init_33 (by exact hin) (fun Rz2 eRz2 => ?_)
      rw [nI_clamp (by omega)] at eRz2
      have HM := cn_mk (Sh := u.1) (I := u.2.1) (R := u.2.2) (k := 10) (by decide) hn1 k1 P1 eRz2
      have hq0 : u.1.2 q ≠ 0 := by rw [hfl.1]; decide
      obtain ⟨M1, M2⟩ := cn_mkS (Sh := u.1) (I := u.2.1) (R := u.2.2) hn1 hq0 P1 eRz2
      have hsa : Sh.2 s ≠ 0 := by rw [hs]; decide
      have hqn : ∀ a, Sh.2 a ≠ 0 → a ≠ q := fun a h z => h (by rw [z]; exact hfl.2.1)
      have al : ∀ a, Sh.2 a ≠ 0 → u.1.2 a ≠ 0 := fun a h => by rw [hK a h]; exact h
      have g1 : ∀ a, Sh.2 a ≠ 0 → (rk_pS uz1.1 nz1 10).2 a = Sh.2 a := fun a h => (HM.1 a (al a h)).trans (hK a h)
      have g2 : cn_f Sh I R (rk_pS uz1.1 nz1 10, uz1.2.1, Rz2) s := fun a h => ⟨fun c j => ((HM.2 a (al a h)).1 c j).trans ((hf a h).1 c j), fun hs2 c j => ((HM.2 a (al a h)).2 (hqn a h) c j).trans ((hf a h).2 hs2 c j)⟩
      have g3 : cn_fill Sh (rk_pS uz1.1 nz1 10, uz1.2.1, Rz2) 14 10 q (k + 1) := hfl.next (v := nz1) (by decide) hK HM.1 (fun j hj => M2 j hj) M1 (va_up_self _ _ _) hn1.1
      have g4 : Rz2 2 s 0 = q := ((HM.2 s (al s hsa)).2 (hqn s hsa) 2 0).trans h0
      have eC : ∀ c, c ≠ 14 → Rz2 c = uz1.2.2 c := fun c hc => by funext a j; rw [eRz2]; exact rk_uR_n (fun z => hc z.1)
      refine rk_iinc 1 (ls' := [(1, _), (0, _)]) dX1_init_34 (by decide) rfl (by decide) rfl ?_
      refine rk_goto 15 dX1_init_37 (by decide) ?_
      refine rk_ord [0, 1] (ls' := [(0, _), (1, _)]) rfl ?_
      rw [nI_1]
      refine rk_zc (c' := 1 + 53 * (k + 1)) (z' := 7 + 373 * (k + 1)) (by dsimp only; omega) (by dsimp only; omega) ?_
      refine ih (k + 1) (rk_pS uz1.1 nz1 10, uz1.2.1, Rz2) (by omega) g1 g2 g3 g4 (fun rg hrg => ?_)
      obtain ⟨rg1, d1, d2, d3⟩ := hD rg hrg
      obtain ⟨rg2, d4, d5⟩ := Q4 (fun a => if a = nz1 then 4 * (k + 1) else rg1 a) (k + 1) (if_pos rfl)
      have c1 : ∀ a, u.1.2 a ≠ 0 → rg2 a = rg1 a := fun a h => by
        have ne : a ≠ nz1 := fun z => h (by rw [z]; exact hn1.1)
        exact (d4 a (by show va_up u.1.2 nz1 60 a ≠ 0; rw [va_up_ne _ _ ne]; exact h)).trans (if_neg ne)
      have c2 : cl_ys rg2 Rz2 nz1 (k + 1) := by
        unfold cl_ys cl_rs cl_ss cl_bs
        rw [eC 10 (by decide), eC 7 (by decide), eC 8 (by decide), eC 20 (by decide), eC 21 (by decide), eC 1 (by decide), eC 13 (by decide)]
        exact d5
      refine ⟨rg2, fun a h => (c1 a (al a h)).trans (d1 a h), (c1 q hq0).trans d2, fun i hi => ?_⟩
      by_cases e : i = k
      · subst e
        show cl_ys rg2 Rz2 (Rz2 14 q i) (i + 1)
        rw [M1]
        exact c2
      · show cl_ys rg2 Rz2 (Rz2 14 q i) (i + 1)
        rw [M2 i e]
        exact cn_ys hW2 (hfl.2.2.1 i (by omega)).1 (fun a h1 h2 => ⟨c1 a h1, (HM.2 a h1).2 (fun z => by rw [z, hfl.1] at h2; exact absurd h2 (by decide))⟩) (d3 i (by omega))
theorem cX1_init_s {s : Nat} (hw : cl_W w) (hs : Sh.2 s = 52) : rk_K w l rk_mX1_init 4 372 2618 [rk_a 52 s] Sh I R (fun u => cn_f Sh I R u s ∧ cn_arr Sh u 14 7 10 (u.2.2 2 s 0) ∧ ∀ rg : Nat → Nat, rg s = 88 → ∃ rg' : Nat → Nat, (∀ a, Sh.2 a ≠ 0 → rg' a = rg a) ∧ rg' (u.2.2 2 s 0) = 88 ∧ ∀ i, i < 7 → cl_ys rg' u.2.2 (u.2.2 14 (u.2.2 2 s 0) i) (i + 1)) := by
  refine rk_bK (ls := [(0, _)]) (by decide) rfl (Nat.le_of_ble_eq_true rfl) ?_
  refine rk_aload_n 0 dX1_init_0 rfl rfl ?_
  refine rk_oinit (by exact rk_inT 228 (by decide +kernel) (by decide +kernel)) rk_oin rk_oco dX1_init_1 (by decide) (Nat.le_of_ble_eq_true rfl) ?_
  refine rk_aload_n 0 dX1_init_4 rfl rfl ?_
  refine rk_bipush 7 dX1_init_5 (by decide) ?_
  refine rk_nq14 (by exact rk_inT 229 (by decide +kernel) (by decide +kernel)) (by decide) (by first | omega | (dsimp only; omega)) (by first | omega | (dsimp only; omega)) dX1_init_7 (fun nz1 hn1 => ?_)
  refine rk_pf2_0 rfl rfl rk_kX1_13 (by decide) dX1_init_10 (fun Rz1 eRz1 => ?_)
  refine rk_iconst 0 dX1_init_13 (by decide) ?_
  refine rk_pc (pc' := 14) rfl ?_
  refine rk_istore_n 1 (ls' := [(1, _), (0, _)]) dX1_init_14 rfl (by decide) rfl ?_
  refine rk_ord [0, 1] (ls' := [(0, _), (1, _)]) rfl ?_
  obtain ⟨a1, a0⟩ := hn1
  have s1 : s ≠ nz1 := fun z => by rw [z, a1] at hs; cases hs
  have ne1 : ∀ a, Sh.2 a ≠ 0 → a ≠ nz1 := fun a h z => h (by rw [z]; exact a1)
  refine cX1_init_l hw hs (q := nz1) (fun u h1 h2 h3 h4 => ⟨h1, by rw [h2]; exact h3, by rw [h2]; exact h4⟩) 7 0 (rk_nS Sh nz1 64, rk_nI I nz1, Rz1) (by omega) (fun a h => va_up_ne _ _ (ne1 a h)) (fun a h => ⟨fun c j => rk_nI_n (ne1 a h), fun hs2 c j => ?_⟩) ⟨va_up_self _ _ _, a1, fun i hi => absurd hi (Nat.not_lt_zero i), fun i j hi => absurd hi (Nat.not_lt_zero i)⟩ (by show Rz1 2 s 0 = nz1; rw [eRz1, rk_uR_s]) (fun rg hrg => ⟨fun a => if a = nz1 then 88 else rg a, fun a h => if_neg (ne1 a h), if_pos rfl, fun i hi => absurd hi (Nat.not_lt_zero i)⟩)
  show Rz1 c a j = R c a j
  rw [eRz1, rk_uR_n (fun z => hs2 z.2.1), rk_nR_n (ne1 a h)]
end EK1

