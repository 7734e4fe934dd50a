section EF
variable {w : rk_W} {l : Launch} {Sh : rk_Sh} {I : rk_Mm} {R : rk_Rm}
theorem cn_arr.keep {u u2 : rk_S} {K n ek B : Nat} (h : cn_arr Sh u K n ek B) (hK : 1 ≤ K ∧ K < 50) (hek : 1 ≤ ek ∧ ek < 50) (hk : ∀ a, u.1.2 a ≠ 0 → u.1.2 a < 50 → u2.1.2 a = u.1.2 a) (hR : ∀ j, u2.2.2 K B j = u.2.2 K B j) : cn_arr Sh u2 K n ek B := by
  obtain ⟨⟨h1, h2⟩, h3, h4⟩ := h
  refine ⟨⟨by rw [hk B (by omega) (by omega)]; exact h1, h2⟩, fun i hi => ?_, fun i j hi hj e => ?_⟩
  · rw [hR]
    obtain ⟨g1, g2⟩ := h3 i hi
    exact ⟨by rw [hk _ (by omega) (by omega)]; exact g1, g2⟩
  · rw [hR, hR] at e
    exact h4 i j hi hj e
theorem cn_stepR {u : rk_S} {K q k v : Nat} {R2 : rk_Rm} (hv : u.1.2 v = 0 ∧ v ≠ 0) (e : R2 = rk_uR (rk_nR u.2.2 v) K q k v) {a : Nat} (ha : u.1.2 a ≠ 0) {c j : Nat} (hc : c ≠ K ∨ a ≠ q) : R2 c a j = u.2.2 c a j := by
  have hne : a ≠ v := fun z => ha (by rw [z]; exact hv.1)
  rw [e, rk_uR_n (fun z => hc.elim (fun y => y z.1) (fun y => y z.2.1)), rk_nR_n hne]
theorem cX7_init_l {s q B : Nat} {Q : rk_S → Prop} (hs : Sh.2 s = 58) (hQ : ∀ u : rk_S, cn_f Sh I R u s → u.2.2 8 s 0 = q → u.2.2 8 s 2 = B → cn_arr Sh u 20 24 5 q → cn_arr Sh u 21 3 22 B → (∀ f, f < 3 → ∀ j, u.2.1 22 (u.2.2 21 B f) j = 0) → Q u) : ∀ (n k : Nat) (u : rk_S), k + n = 24 → (∀ a, Sh.2 a ≠ 0 → u.1.2 a = Sh.2 a) → cn_f Sh I R u s → cn_fill Sh u 20 5 q k → u.2.2 8 s 0 = q → u.2.2 8 s 2 = B → cn_arr Sh u 21 3 22 B → (∀ f, f < 3 → ∀ j, u.2.1 22 (u.2.2 21 B f) j = 0) → rk_Wp w l rk_mX7_init 2 29 213 (rk_G w (fun r u => r = none ∧ (∀ a, Sh.2 a ≠ 0 → u.1.2 a = Sh.2 a) ∧ Q u) 29 213) 26 [(0, rk_a 58 s), (1, rk_i (nI k))] [] (u.1, 5 + k, 45 + 7 * k) u.2.1 u.2.2 := by
  intro n
  induction n with
  | zero =>
    intro k u hk hK hf hfl h0 h2 hB hz
    obtain rfl : k = 24 := by omega
    have hqn : ∀ a, Sh.2 a ≠ 0 → a ≠ q := fun a h z => h (by rw [z]; exact hfl.2.1)
    refine rk_iload_n 1 dX7_init_26 rfl rfl ?_
    refine rk_bipush 24 dX7_init_27 (by decide) ?_
    refine rk_icmp_ge 51 dX7_init_29 (by decide) (fun qz29 => ?_) (fun qz29 => ?_)
    · skip
      refine rk_pubg 20 (by decide) hfl.1 (fun f hf2 => ?_) rfl rfl ?_
      · rw [rk_rkA (k := 20) rfl] at hf2 ⊢
        by_cases h24 : f < 24
        · rw [if_pos h24]; exact (hfl.2.2.1 f h24).1
        · rw [if_neg h24] at hf2; exact absurd rfl hf2
      · refine rk_vret dX7_init_51 rfl (by dsimp only; omega) ?_
        exact ⟨rfl, fun a h => by show va_up u.1.2 q 20 a = Sh.2 a; rw [va_up_ne _ _ (hqn a h)]; exact hK a h, hQ (rk_pS u.1 q 20, u.2) hf h0 h2 (hfl.done (by decide)) (hB.keep (by decide) (by decide) (fun a h1 h3 => va_up_ne _ _ (fun z => by have g := hfl.1; rw [← z] at g; omega)) (fun _ => rfl)) hz⟩
    · skip
      exact absurd (Int32.le_refl _) qz29
  | succ n ih =>
    intro k u hk hK hf hfl h0 h2 hB hz
    have hlt : ¬ (24 : Int32) ≤ nI k := nI_ge (b := 24) (by omega) (by decide)
    have hin : vp_in (nI k) 24 := vp_in_nI (by omega) (by omega)
    refine rk_iload_n 1 dX7_init_26 rfl rfl ?_
    refine rk_bipush 24 dX7_init_27 (by decide) ?_
    refine rk_icmp_ge 51 dX7_init_29 (by decide) (fun qz29 => ?_) (fun qz29 => ?_)
    · skip
      exact absurd qz29 hlt
    · skip
      refine rk_aload_n 0 dX7_init_32 rfl rfl ?_
      refine rk_gr8_0 70 rk_kX7_11 dX7_init_33 (by rw [h0]; exact hfl.1) (by decide) ?_
      rw [h0]
      refine rk_iload_n 1 dX7_init_36 rfl rfl ?_
      refine rk_nw5 (by exact rk_inT 64 (by decide +kernel) (by decide +kernel)) (by first | omega | (dsimp only; omega)) (by first | omega | (dsimp only; omega)) dX7_init_37 (fun nz1 hn1 => ?_)
      refine rk_pc (pc' := 40) rfl ?_
      refine rk_dup dX7_init_40 rfl ?_
      refine rk_cIeN _ _ _ _ (cX4_init_s) rk_eX4_init rfl rk_nX7_22 dX7_init_41 rfl (by first | omega | (dsimp only; omega)) (by first | omega | (dsimp only; omega)) (Nat.le_of_ble_eq_true rfl) (fun uz1 hz1 => ?_)
      obtain ⟨-, hu⟩ := hz1
      subst hu
      refine rk_sr20 dX7_init_44 (by exact hin) (fun Rz2 eRz2 => ?_)
      rw [nI_clamp (by omega)] at eRz2
      obtain ⟨g1, g2, g3, g4⟩ := cn_step (by decide) hK hf hfl hn1 eRz2
      have hsa : u.1.2 s ≠ 0 := by rw [hK s (by rw [hs]; decide), hs]; decide
      have hBa : u.1.2 B ≠ 0 := by rw [hB.1.1]; decide
      refine rk_iinc 1 (ls' := [(1, _), (0, _)]) dX7_init_45 (by decide) rfl (by decide) rfl ?_
      refine rk_goto 26 dX7_init_48 (by decide) ?_
      refine rk_ord [0, 1] (ls' := [(0, _), (1, _)]) rfl ?_
      rw [nI_1]
      refine rk_zc (c' := 5 + (k + 1)) (z' := 45 + 7 * (k + 1)) (by dsimp only; omega) (by dsimp only; omega) ?_
      refine ih (k + 1) _ (by omega) g1 g2 g3 ((cn_stepR hn1 eRz2 hsa (Or.inl (by decide))).trans h0) ((cn_stepR hn1 eRz2 hsa (Or.inl (by decide))).trans h2) (hB.keep (by decide) (by decide) (fun a h1 _ => va_up_ne _ _ (fun z => h1 (by rw [z]; exact hn1.1))) (fun j => cn_stepR hn1 eRz2 hBa (Or.inl (by decide)))) (fun f hf3 j => ?_)
      have e : Rz2 21 B f = u.2.2 21 B f := cn_stepR hn1 eRz2 hBa (Or.inl (by decide))
      have ek := (hB.2.1 f hf3).1
      show rk_nI u.2.1 nz1 22 (Rz2 21 B f) j = 0
      rw [e, rk_nI_n (fun z => by rw [z, hn1.1] at ek; cases ek)]
      exact hz f hf3 j
theorem cX7_init_s {s : Nat} (hs : Sh.2 s = 58) : rk_K w l rk_mX7_init 2 29 213 [rk_a 58 s] Sh I R (fun u => cn_f Sh I R u s ∧ cn_arr Sh u 20 24 5 (u.2.2 8 s 0) ∧ cn_arr Sh u 21 3 22 (u.2.2 8 s 2) ∧ ∀ f, f < 3 → ∀ j, u.2.1 22 (u.2.2 21 (u.2.2 8 s 2) f) j = 0) := by
  refine rk_bK (ls := [(0, _)]) (by decide) rfl (Nat.le_of_ble_eq_true rfl) ?_
  refine rk_aload_n 0 dX7_init_0 rfl rfl ?_
  refine rk_oinit (by exact rk_inT 63 (by decide +kernel) (by decide +kernel)) rk_oin rk_oco dX7_init_1 (by decide) (Nat.le_of_ble_eq_true rfl) ?_
  refine rk_aload_n 0 dX7_init_4 rfl rfl ?_
  refine rk_bipush 24 dX7_init_5 (by decide) ?_
  refine rk_nq20 (by exact rk_inT 64 (by decide +kernel) (by decide +kernel)) (by decide) (by first | omega | (dsimp only; omega)) (by first | omega | (dsimp only; omega)) dX7_init_7 (fun nz1 hn1 => ?_)
  refine rk_pf8_0 rfl rfl rk_kX7_11 (by decide) dX7_init_10 (fun Rz1 eRz1 => ?_)
  refine rk_aload_n 0 dX7_init_13 rfl rfl ?_
  refine rk_pc (pc' := 14) rfl ?_
  refine rk_iconst 3 dX7_init_14 (by decide) ?_
  refine rk_bipush 6 dX7_init_15 (by decide) ?_
  refine rk_mna (by exact rk_inT 66 (by decide +kernel) (by decide +kernel)) (by exact rk_inT 57 (by decide +kernel) (by decide +kernel)) (by first | omega | (dsimp only; omega)) (by first | omega | (dsimp only; omega)) dX7_init_17 (fun nz2 rz2 hn2 hr2 hi2 => ?_)
  refine rk_pf8_2 rfl rfl rk_kX7_19 (by decide) dX7_init_21 (fun Rz2 eRz2 => ?_)
  refine rk_iconst 0 dX7_init_24 (by decide) ?_
  refine rk_istore_n 1 (ls' := [(1, _), (0, _)]) dX7_init_25 rfl (by decide) rfl ?_
  refine rk_ord [0, 1] (ls' := [(0, _), (1, _)]) rfl ?_
  obtain ⟨a1, a0⟩ := hn1
  obtain ⟨b1, b2⟩ := cn_up0 hn2.1 (by decide)
  have cr := fun i (hi : i < 3) => cn_up0 (hr2 i hi).1 (by decide)
  have dr := fun i (hi : i < 3) => (hr2 i hi).2.2
  have ap : ∀ i j, i < 3 → j < 3 → i ≠ j → rz2 i ≠ rz2 j := fun i j hi hj h z => h (hi2 i j hi hj z)
  have s1 : s ≠ nz1 := fun z => by rw [z, a1] at hs; cases hs
  have s2 : s ≠ nz2 := fun z => by rw [z, b2] at hs; cases hs
  have ne1 : ∀ a, Sh.2 a ≠ 0 → a ≠ nz1 := fun a h z => h (by rw [z]; exact a1)
  have ne2 : ∀ a, Sh.2 a ≠ 0 → a ≠ nz2 := fun a h z => h (by rw [z]; exact b2)
  have ner : ∀ a, Sh.2 a ≠ 0 → ∀ i, i < 3 → a ≠ rz2 i := fun a h i hi z => h (by rw [z]; exact (cr i hi).2)
  have e21 : Rz2 21 nz2 = fun j => if j < 3 then rz2 j else 0 := by
    funext j
    rw [eRz2, rk_uR_n (by simp)]
    exact if_pos rfl
  have kB : va_up (va_up (va_up (va_up (va_up Sh.2 nz1 70) (rz2 0) 22) (rz2 1) 22) (rz2 2) 22) nz2 21 nz2 = 21 := va_up_self _ _ _
  have kr : ∀ i, i < 3 → va_up (va_up (va_up (va_up (va_up Sh.2 nz1 70) (rz2 0) 22) (rz2 1) 22) (rz2 2) 22) nz2 21 (rz2 i) = 22 := fun i hi => by
    rw [va_up_ne _ _ (dr i hi)]
    rcases (by omega : i = 0 ∨ i = 1 ∨ i = 2) with rfl | rfl | rfl
    · rw [va_up_ne _ _ (ap 0 2 (by decide) (by decide) (by decide)), va_up_ne _ _ (ap 0 1 (by decide) (by decide) (by decide)), va_up_self]
    · rw [va_up_ne _ _ (ap 1 2 (by decide) (by decide) (by decide)), va_up_self]
    · rw [va_up_self]
  have kq : va_up (va_up (va_up (va_up (va_up Sh.2 nz1 70) (rz2 0) 22) (rz2 1) 22) (rz2 2) 22) nz2 21 nz1 = 70 := by
    rw [va_up_ne _ _ (Ne.symm b1), va_up_ne _ _ (Ne.symm (cr 2 (by decide)).1), va_up_ne _ _ (Ne.symm (cr 1 (by decide)).1), va_up_ne _ _ (Ne.symm (cr 0 (by decide)).1), va_up_self]
  refine cX7_init_l hs (q := nz1) (B := nz2) (fun u h1 h2 h3 h4 h5 h6 => ⟨h1, by rw [h2]; exact h4, by rw [h3]; exact h5, by rw [h3]; exact h6⟩) 24 0 (rk_nS (rk_nS (rk_nS (rk_nS (rk_nS Sh nz1 70) (rz2 0) 22) (rz2 1) 22) (rz2 2) 22) nz2 21, rk_nI (rk_nI (rk_nI (rk_nI (rk_nI I nz1) (rz2 0)) (rz2 1)) (rz2 2)) nz2, Rz2) (by omega) (fun a h => ?_) (fun a h => ⟨fun c j => ?_, fun hs2 c j => ?_⟩) ⟨kq, a1, fun i hi => absurd hi (Nat.not_lt_zero i), fun i j hi => absurd hi (Nat.not_lt_zero i)⟩ ?_ ?_ ⟨⟨kB, b2⟩, fun i hi => ?_, fun i j hi hj e => ?_⟩ (fun f hf j => ?_)
  · show va_up (va_up (va_up (va_up (va_up Sh.2 nz1 70) (rz2 0) 22) (rz2 1) 22) (rz2 2) 22) nz2 21 a = Sh.2 a
    rw [va_up_ne _ _ (ne2 a h), va_up_ne _ _ (ner a h 2 (by decide)), va_up_ne _ _ (ner a h 1 (by decide)), va_up_ne _ _ (ner a h 0 (by decide)), va_up_ne _ _ (ne1 a h)]
  · show rk_nI (rk_nI (rk_nI (rk_nI (rk_nI I nz1) (rz2 0)) (rz2 1)) (rz2 2)) nz2 c a j = I c a j
    rw [rk_nI_n (ne2 a h), rk_nI_n (ner a h 2 (by decide)), rk_nI_n (ner a h 1 (by decide)), rk_nI_n (ner a h 0 (by decide)), rk_nI_n (ne1 a h)]
  · show Rz2 c a j = R c a j
    rw [eRz2, rk_uR_n (fun z => hs2 z.2.1), show rk_mR Rz1 nz2 rz2 c a j = Rz1 c a j from if_neg (ne2 a h), eRz1, rk_uR_n (fun z => hs2 z.2.1), rk_nR_n (ne1 a h)]
  · show Rz2 8 s 0 = nz1
    rw [eRz2, rk_uR_n (by simp), show rk_mR Rz1 nz2 rz2 8 s 0 = Rz1 8 s 0 from if_neg s2, eRz1, rk_uR_s]
  · show Rz2 8 s 2 = nz2
    rw [eRz2, rk_uR_s]
  · show va_up (va_up (va_up (va_up (va_up Sh.2 nz1 70) (rz2 0) 22) (rz2 1) 22) (rz2 2) 22) nz2 21 (Rz2 21 nz2 i) = 22 ∧ Sh.2 (Rz2 21 nz2 i) = 0
    have e9 : Rz2 21 nz2 i = rz2 i := by rw [e21]; exact if_pos hi
    rw [e9]
    exact ⟨kr i hi, (cr i hi).2⟩
  · have e2 : Rz2 21 nz2 i = Rz2 21 nz2 j := e
    rw [e21] at e2
    have e3 : (if i < 3 then rz2 i else 0) = (if j < 3 then rz2 j else 0) := e2
    rw [if_pos hi, if_pos hj] at e3
    exact hi2 i j hi hj e3
  · show rk_nI (rk_nI (rk_nI (rk_nI (rk_nI I nz1) (rz2 0)) (rz2 1)) (rz2 2)) nz2 22 (Rz2 21 nz2 f) j = 0
    rw [e21]
    show rk_nI (rk_nI (rk_nI (rk_nI (rk_nI I nz1) (rz2 0)) (rz2 1)) (rz2 2)) nz2 22 (if f < 3 then rz2 f else 0) j = 0
    rw [if_pos hf, rk_nI_n (dr f hf)]
    rcases (by omega : f = 0 ∨ f = 1 ∨ f = 2) with rfl | rfl | rfl
    · rw [rk_nI_n (ap 0 2 (by decide) (by decide) (by decide)), rk_nI_n (ap 0 1 (by decide) (by decide) (by decide)), rk_nI_s]
    · rw [rk_nI_n (ap 1 2 (by decide) (by decide) (by decide)), rk_nI_s]
    · rw [rk_nI_s]
end EF

