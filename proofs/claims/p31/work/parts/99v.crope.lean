section EL
variable {w : rk_W} {l : Launch} {I : rk_Mm} {R : rk_Rm}
theorem cX10_init_l {s q c0 z0 : Nat} {u0 : rk_S} {Q : Option rk_V → rk_S → Prop} (hw : cl_W w) (hs : u0.1.2 s = 61) (hq : u0.1.2 q = 74) (h0 : u0.2.2 11 s 2 = q) (hQ : ∀ u : rk_S, cn_k u0.1 u0.2.1 u0.2.2 u q → (∀ i, i < 2 → u.1.2 (u.2.2 24 q i) = 10) → (∀ rg : Nat → Nat, ∃ rg' : Nat → Nat, (∀ a, u0.1.2 a ≠ 0 → rg' a = rg a) ∧ ∀ i, i < 2 → cl_ys rg' u.2.2 (u.2.2 24 q i) (8 + i)) → Q none (rk_pS u.1 q 24, u.2)) : ∀ (n k : Nat) (u : rk_S), k + n = 2 → cn_k u0.1 u0.2.1 u0.2.2 u q → (∀ i, i < k → u.1.2 (u.2.2 24 q i) = 10) → (∀ rg : Nat → Nat, ∃ rg' : Nat → Nat, (∀ a, u0.1.2 a ≠ 0 → rg' a = rg a) ∧ ∀ i, i < k → cl_ys rg' u.2.2 (u.2.2 24 q i) (8 + i)) → rk_Wp w l rk_mX10_init 5 (c0 + 106) (z0 + 746) (rk_G w Q (c0 + 106) (z0 + 746)) 76 [(0, rk_a 61 s), (1, rk_i (nI k))] [] (u.1, c0 + 53 * k, z0 + 373 * k) u.2.1 u.2.2 := by
  intro n
  induction n with
  | zero =>
    intro k u hk hK hf hD
    obtain rfl : k = 2 := by omega
    have hq2 : u.1.2 q = 74 := (hK.1 q (by rw [hq]; decide)).trans hq
    refine rk_iload_n 1 dX10_init_76 rfl rfl ?_
    refine rk_iconst 2 dX10_init_77 (by decide) ?_
    refine rk_icmp_ge 100 dX10_init_78 (by decide) (fun qz78 => ?_) (fun qz78 => ?_)
    · skip
      refine rk_pubg 24 (by decide) hq2 (fun f hf2 => ?_) rfl rfl ?_
      · rw [rk_rkA (k := 24) rfl] at hf2 ⊢
        by_cases hn : f < 2
        · rw [if_pos hn]; exact hf f hn
        · rw [if_neg hn] at hf2; exact absurd rfl hf2
      · refine rk_vret dX10_init_100 rfl (by dsimp only; omega) ?_
        exact hQ u hK hf hD
    · skip
      exact absurd (Int32.le_refl _) qz78
  | succ n ih =>
    intro k u hk hK hf hD
    have hlt : ¬ (2 : Int32) ≤ nI k := nI_ge (b := 2) (by omega) (by decide)
    have hin : vp_in (nI k) 2 := vp_in_nI (by omega) (by omega)
    have hq2 : u.1.2 q = 74 := (hK.1 q (by rw [hq]; decide)).trans hq
    have hsq : s ≠ q := fun z => by rw [z, hq] at hs; cases hs
    have h1 : u.2.2 11 s 2 = q := ((hK.2 s (by rw [hs]; decide)).2 hsq 11 2).trans h0
    refine rk_wt (fun hW => ?_)
    have hW2 : rk_WT u.1.2 u.2.2 := hW
    refine rk_iload_n 1 dX10_init_76 rfl rfl ?_
    refine rk_iconst 2 dX10_init_77 (by decide) ?_
    refine rk_icmp_ge 100 dX10_init_78 (by decide) (fun qz78 => ?_) (fun qz78 => ?_)
    · skip
      exact absurd qz78 hlt
    · skip
      refine rk_aload_n 0 dX10_init_81 rfl rfl ?_
      refine rk_gr11_2 74 rk_kX10_23 dX10_init_82 (by rw [h1]; exact hq2) (by decide) ?_
      rw [h1]
      refine rk_iload_n 1 dX10_init_85 rfl rfl ?_
      refine rk_nw10 (by exact rk_inT 22 (by decide +kernel) (by decide +kernel)) (by first | omega | (dsimp only; omega)) (by first | omega | (dsimp only; omega)) dX10_init_86 (fun nz1 hn1 => ?_)
      refine rk_pc (pc' := 89) rfl ?_
      refine rk_dup dX10_init_89 rfl ?_
      refine rk_cIeN _ _ _ _ (cX9_init_s hw (va_up_self _ _ _)) rk_eX9_init rfl rk_nX10_9 dX10_init_90 rfl (by first | omega | (dsimp only; omega)) (by first | omega | (dsimp only; omega)) (Nat.le_of_ble_eq_true rfl) (fun uz1 hz1 => ?_)
      obtain ⟨k1, P1, Q2, Q3, Q4⟩ := hz1
      refine rk_pub 10 (by decide) (fun f hf => rk_rk10 (P := fun f x => uz1.1.2 (uz1.2.2 10 nz1 f) = x) Q2.1 Q2.2.1 Q2.2.2 hf) rfl rfl ?_
      refine rk_sr24 dX10_init_93 (by exact hin) (fun Rz2 eRz2 => ?_)
      rw [nI_clamp (by omega)] at eRz2
      have HM := cn_mk (Sh := u.1) (I := u.2.1) (R := u.2.2) (k := 10) (by decide) hn1 k1 P1 eRz2
      have hq0 : u.1.2 q ≠ 0 := by rw [hq2]; decide
      obtain ⟨M1, M2⟩ := cn_mkS (Sh := u.1) (I := u.2.1) (R := u.2.2) hn1 hq0 P1 eRz2
      have eC : ∀ c, c ≠ 24 → Rz2 c = uz1.2.2 c := fun c hc => by funext a j; rw [eRz2]; exact rk_uR_n (fun z => hc z.1)
      have al : ∀ a, u0.1.2 a ≠ 0 → u.1.2 a ≠ 0 := fun a h => by rw [hK.1 a h]; exact h
      refine rk_iinc 1 (ls' := [(1, _), (0, _)]) dX10_init_94 (by decide) rfl (by decide) rfl ?_
      refine rk_goto 76 dX10_init_97 (by decide) ?_
      refine rk_ord [0, 1] (ls' := [(0, _), (1, _)]) rfl ?_
      rw [nI_1]
      refine rk_zc (c' := c0 + 53 * (k + 1)) (z' := z0 + 373 * (k + 1)) (by dsimp only; omega) (by dsimp only; omega) ?_
      refine ih (k + 1) (rk_pS uz1.1 nz1 10, uz1.2.1, Rz2) (by omega) (hK.tr HM) (fun i hi => ?_) (fun rg => ?_)
      · by_cases e : i = k
        · subst e
          show (rk_pS uz1.1 nz1 10).2 (Rz2 24 q i) = 10
          rw [M1]; exact va_up_self _ _ _
        · show (rk_pS uz1.1 nz1 10).2 (Rz2 24 q i) = 10
          rw [M2 i e]
          have g := hf i (by omega)
          exact (HM.1 _ (by rw [g]; decide)).trans g
      · obtain ⟨rg1, d1, d3⟩ := hD rg
        obtain ⟨rg2, d4, d5⟩ := Q4 (fun a => if a = nz1 then 4 * (8 + k) else rg1 a) (8 + k) (if_pos rfl)
        have c1 : ∀ a, u.1.2 a ≠ 0 → rg2 a = rg1 a := fun a h => by
          have ne : a ≠ nz1 := fun z => h (by rw [z]; exact hn1.1)
          exact (d4 a (by show va_up u.1.2 nz1 60 a ≠ 0; rw [va_up_ne _ _ ne]; exact h)).trans (if_neg ne)
        have c2 : cl_ys rg2 Rz2 nz1 (8 + k) := by
          unfold cl_ys cl_rs cl_ss cl_bs
          rw [eC 10 (by decide), eC 7 (by decide), eC 8 (by decide), eC 20 (by decide), eC 21 (by decide), eC 1 (by decide), eC 13 (by decide)]
          exact d5
        refine ⟨rg2, fun a h => (c1 a (al a h)).trans (d1 a h), fun i hi => ?_⟩
        by_cases e : i = k
        · subst e
          show cl_ys rg2 Rz2 (Rz2 24 q i) (8 + i)
          rw [M1]
          exact c2
        · show cl_ys rg2 Rz2 (Rz2 24 q i) (8 + i)
          rw [M2 i e]
          exact cn_ys hW2 (hf i (by omega)) (fun a h1 h2 => ⟨c1 a h1, (HM.2 a h1).2 (fun z => by rw [z, hq2] at h2; exact absurd h2 (by decide))⟩) (d3 i (by omega))
end EL

