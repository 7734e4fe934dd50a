section CI
variable {w : rk_W} {l : Launch} {Sh : rk_Sh} {rg : Nat → Nat} {I : rk_Mm} {R : rk_Rm} {q r a ra o oi wt : Nat} {T : Int}
theorem cX7_cutFor_l (hrs : cl_rs rg R a ra) (hra : ra ≠ r) (hor : rg o ≠ r) (ho : oi < 16) (hwt : I 3 o 3 = nI wt) (h4 : I 3 o 4 = 0 ∨ I 3 o 4 = 1) : ∀ (n k c : Nat) (N : Nat → Int32) (J : rk_Mm) (RJ : rk_Rm), k + n = wt → wt < 2 ^ 20 → sp_pv T N c → sp_ov N oi → N (220 + 7 * oi + 3) = nI n → (∀ j, j < 7 → j ≠ 3 → I 3 o j = N (220 + 7 * oi + j)) → cl_ru I R a N → 1 ≤ N 6 → cl_st rg J RJ q r N → cl_fr rg (fun z => z = r) I R J RJ → rk_Wp w l rk_mX7_cutFor 5 0 0 (rk_GJ w Sh (fun x I' R' => x = nI (k + (sp_cf oi n N).2) ∧ cl_st rg I' R' q r (sp_cf oi n N).1 ∧ cl_fr rg (fun z => z = r) I R I' R')) 2 [(0, rk_a 8 q), (1, rk_a 3 o), (2, rk_a 7 a), (3, rk_i (nI k))] [] (Sh, 0, 0) J RJ := by
  intro n
  induction n with
  | zero =>
    intro k c N J RJ hk hw hv hov hn hO hru h6 hst hfr
    have j3 : J 3 o = I 3 o := hfr.1 3 o hor
    refine rk_iload_n 3 dX7_cutFor_2 rfl rfl ?_
    refine rk_aload_n 1 dX7_cutFor_3 rfl rfl ?_
    refine rk_g3_3 rk_kX7_92 dX7_cutFor_4 ?_
    rw [j3, hwt]
    refine rk_icmp_ge 49 dX7_cutFor_7 (by decide) (fun qz7 => ?_) (fun qz7 => ?_)
    · skip
      refine rk_aload_n 1 dX7_cutFor_49 rfl rfl ?_
      refine rk_g3_3 rk_kX7_92 dX7_cutFor_50 ?_
      rw [j3, hwt]
      refine rk_iretJ dX7_cutFor_53 rfl rfl ?_
      exact ⟨by rw [← hk]; rfl, hst, hfr⟩
    · skip
      exact absurd (nI_le (by omega) (by omega)) qz7
  | succ n ih =>
    intro k c N J RJ hk hw hv hov hn hO hru h6 hst hfr
    have j3 : J 3 o = I 3 o := hfr.1 3 o hor
    have hc24 := hv.1
    have hruJ : cl_ru J RJ a N := hru.fr hrs hfr hra
    have hfiN : sp_fi N c := hv.2.2.1
    have hsh := cX7_shortestFor_s (w := w) (l := l) (Sh := Sh) (o := o) hst.2.1 hv.2.1 hc24 hruJ hfiN (by rw [j3]; exact h4)
    have hbq : sp_bp N (sp_P N) (J 3 o) c = sp_bq N oi := by
      rw [sp_bq, sp_cN hv.2.1 (by omega)]
      exact sp_bp_c (by rw [j3]; exact hO 0 (by decide) (by decide)) (by rw [j3]; exact hO 1 (by decide) (by decide)) (by rw [j3]; exact hO 2 (by decide) (by decide)) (by rw [j3]; exact hO 4 (by decide) (by decide)) c
    rw [hbq] at hsh
    obtain ⟨⟨g, hg, hg0⟩, hfe⟩ := hov
    have hnge : ¬ nI wt ≤ nI k := nI_ge (by omega) (by omega)
    have h17 : J 17 (RJ 7 a 0) 6 = N 6 := hruJ.1 6 (by decide)
    have hO2 : J 3 o 2 = N (220 + 7 * oi + 2) := by rw [j3]; exact hO 2 (by decide) (by decide)
    rcases sp_bq_in (o := oi) hv with hb | ⟨i, hi, hb, hsu⟩
    · have hlt : sp_bq N oi < 0 := by rw [hb]; exact rk_n6
      refine rk_iload_n 3 dX7_cutFor_2 rfl rfl ?_
      refine rk_aload_n 1 dX7_cutFor_3 rfl rfl ?_
      refine rk_g3_3 rk_kX7_92 dX7_cutFor_4 ?_
      rw [j3, hwt]
      refine rk_icmp_ge 49 dX7_cutFor_7 (by decide) (fun qz7 => ?_) (fun qz7 => ?_)
      · skip
        exact absurd qz7 hnge
      · skip
        refine rk_aload_n 0 dX7_cutFor_10 rfl rfl ?_
        refine rk_aload_n 1 dX7_cutFor_11 rfl rfl ?_
        refine rk_aload_n 2 dX7_cutFor_12 rfl rfl ?_
        refine rk_pc (pc' := 13) rfl ?_
        refine rk_cVp (hsh) rk_eX7_shortestFor rfl ⟨rfl, rfl⟩ rk_kX7_97 dX7_cutFor_13 rfl (by decide) (Nat.le_of_ble_eq_true rfl) ⟨Nat.le_refl _, Nat.le_refl _⟩ ?_
        refine rk_istore (ls' := [(4, _), (0, _), (1, _), (2, _), (3, _)]) dX7_cutFor_16 (by decide) rfl ?_
        refine rk_iload dX7_cutFor_18 rfl ?_
        refine rk_if_ge 25 dX7_cutFor_20 (by decide) (fun qz20 => ?_) (fun qz20 => ?_)
        · skip
          exact absurd hlt (Int32.not_lt.mpr qz20)
        · skip
          refine rk_iload_n 3 dX7_cutFor_23 rfl rfl ?_
          refine rk_iretJ dX7_cutFor_24 rfl rfl ?_
          rw [sp_cf0 hlt]
          exact ⟨rfl, hst, hfr⟩
    · have hnl : ¬ sp_bq N oi < 0 := by rw [hb]; exact nI_pos (by omega)
      obtain ⟨f, hf, hf0⟩ := hv.2.2.1 i hi
      have hfg : f = g := by
        have e1 : N (50 + 7 * i + 0) = N (220 + 7 * oi + 0) := hsu.1
        rw [hf0, hg0] at e1
        exact (nI_eq (by omega) (by omega)).mp e1
      subst hfg
      have hsc : sp_c N (220 + 7 * oi) = f := sp_cN hg0 (by omega)
      have hfeet : (N (220 + 7 * oi + 2)).toInt ≤ (N (50 + 7 * i + 3)).toInt := Int32.le_iff_toInt_le.mp hsu.2.1
      obtain ⟨c', hc', hv'⟩ := sp_pv_step hv ho hi hfe hfeet (by rw [hsc]; exact hf)
      have hsx : ∀ j, j ≠ 12 → j ≠ 30 + 4 * f + 3 → (j < 50 ∨ 218 ≤ j) → j ≠ 30 + 4 * f + 1 → j ≠ 220 + 7 * oi + 3 → j ≠ 14 → j ≠ 15 → sp_step N oi i j = N j := fun j j1 j2 j3 j4 j5 j6 j7 => sp_step_x hv.2.1 hc24 hi hf hf0 hf hg0 rfl j1 j2 j3 j4 j5 j6 j7
      have hcut := cX7_cut_s (w := w) (l := l) (Sh := Sh) (ac := 3) (feet := N (220 + 7 * oi + 2)) hst hv.2.1 hc24 hi hf hf0 (Int32.lt_iff_toInt_lt.mpr (hv.2.2.2.1 i hi).1) h6 (Or.inl rfl)
      refine rk_iload_n 3 dX7_cutFor_2 rfl rfl ?_
      refine rk_aload_n 1 dX7_cutFor_3 rfl rfl ?_
      refine rk_g3_3 rk_kX7_92 dX7_cutFor_4 ?_
      rw [j3, hwt]
      refine rk_icmp_ge 49 dX7_cutFor_7 (by decide) (fun qz7 => ?_) (fun qz7 => ?_)
      · skip
        exact absurd qz7 hnge
      · skip
        refine rk_aload_n 0 dX7_cutFor_10 rfl rfl ?_
        refine rk_aload_n 1 dX7_cutFor_11 rfl rfl ?_
        refine rk_aload_n 2 dX7_cutFor_12 rfl rfl ?_
        refine rk_pc (pc' := 13) rfl ?_
        refine rk_cVp (hsh) rk_eX7_shortestFor rfl ⟨rfl, rfl⟩ rk_kX7_97 dX7_cutFor_13 rfl (by decide) (Nat.le_of_ble_eq_true rfl) ⟨Nat.le_refl _, Nat.le_refl _⟩ ?_
        refine rk_istore (ls' := [(4, _), (0, _), (1, _), (2, _), (3, _)]) dX7_cutFor_16 (by decide) rfl ?_
        refine rk_iload dX7_cutFor_18 rfl ?_
        refine rk_if_ge 25 dX7_cutFor_20 (by decide) (fun qz20 => ?_) (fun qz20 => ?_)
        · skip
          refine rk_aload_n 0 dX7_cutFor_25 rfl rfl ?_
          rw [hb]
          refine rk_iload dX7_cutFor_26 rfl ?_
          refine rk_aload_n 1 dX7_cutFor_28 rfl rfl ?_
          refine rk_pc (pc' := 29) rfl ?_
          refine rk_g3_2 rk_kX7_101 dX7_cutFor_29 ?_
          rw [hO2]
          refine rk_iconst 3 dX7_cutFor_32 (by decide) ?_
          refine rk_aload_n 2 dX7_cutFor_33 rfl rfl ?_
          refine rk_g7_0 rk_kX7_102 dX7_cutFor_34 ?_
          refine rk_bipush 6 dX7_cutFor_37 (by decide) ?_
          refine rk_rn17 6 dX7_cutFor_39 rfl (by first | decide | assumption | omega) ?_
          rw [h17]
          refine rk_pc (pc' := 40) rfl ?_
          refine rk_cVv (hcut) rk_eX7_cut rfl ⟨rfl, rfl⟩ rk_kX7_106 dX7_cutFor_40 rfl (by decide) (Nat.le_of_ble_eq_true rfl) ⟨Nat.le_refl _, Nat.le_refl _⟩ (fun Iz1 Rz1 hz1 => ?_)
          refine rk_iinc 1 (ls' := [(3, _), (4, _), (0, _), (1, _), (2, _)]) dX7_cutFor_43 (by decide) rfl (by decide) rfl ?_
          refine rk_goto 2 dX7_cutFor_46 (by decide) ?_
          refine rk_ord [0, 1, 2, 3] (ls' := [(0, _), (1, _), (2, _), (3, _)]) rfl ?_
          rw [nI_1, sp_cf1 hb (by omega), show k + ((sp_cf oi n (sp_step N oi i)).2 + 1) = k + 1 + (sp_cf oi n (sp_step N oi i)).2 by omega]
          obtain ⟨hst2, hfr2⟩ := hz1
          have hst3 : cl_st rg Iz1 Rz1 q r (sp_step N oi i) := by
            have hcc : sp_u (sp_cut N i (N (220 + 7 * oi + 2))) (30 + 4 * f + (3 - 2)) (N (30 + 4 * f + (3 - 2)) + sp_yin (N (50 + 7 * i + 4)) (N (220 + 7 * oi + 2)) (N (50 + 7 * i + 3))) 12 = nI c' := by
              have e := hv'.2.1
              simp only [sp_step] at e
              rw [sp_un (by omega), sp_un (by omega), sp_un (by omega), sp_un (by omega)] at e
              rw [sp_un (by omega)]; exact e
            refine hst2.c hcc (by omega) (fun j hj => ?_)
            simp only [sp_step, hsc]
            rw [sp_un (by omega), sp_un (by omega), sp_un (by omega)]
          exact ih (k + 1) c' (sp_step N oi i) Iz1 Rz1 (by omega) hw hv' ⟨⟨f, hf, by rw [hsx _ (by omega) (by omega) (by omega) (by omega) (by omega) (by omega) (by omega)]; exact hg0⟩, by rw [hsx _ (by omega) (by omega) (by omega) (by omega) (by omega) (by omega) (by omega)]; exact hfe⟩ (by simp only [sp_step, hsc]; rw [sp_un (by omega), sp_un (by omega), sp_us, hn, nI_pred]) (fun j hj hj3 => by rw [hsx _ (by omega) (by omega) (by omega) (by omega) (by omega) (by omega) (by omega)]; exact hO j hj hj3) (hru.c (fun j hj => hsx j (by omega) (by omega) (by omega) (by omega) (by omega) (by omega) (by omega))) (by rw [hsx 6 (by omega) (by omega) (by omega) (by omega) (by omega) (by omega) (by omega)]; exact h6) hst3 (hfr.tr hfr2)
        · skip
          exact absurd (Int32.not_lt.mp hnl) qz20
theorem cX7_cutFor_s {c n : Nat} {N : Nat → Int32} (hrs : cl_rs rg R a ra) (hra : ra ≠ r) (hor : rg o ≠ r) (ho : oi < 16) (hn : n < 2 ^ 20) (hv : sp_pv T N c) (hov : sp_ov N oi) (hwt : N (220 + 7 * oi + 3) = nI n) (hO : ∀ j, j < 7 → I 3 o j = N (220 + 7 * oi + j)) (h4 : N (220 + 7 * oi + 4) = 0 ∨ N (220 + 7 * oi + 4) = 1) (hru : cl_ru I R a N) (h6 : 1 ≤ N 6) (hst : cl_st rg I R q r N) : rk_J w l rk_mX7_cutFor 5 [rk_a 8 q, rk_a 3 o, rk_a 7 a] Sh I R (fun x I' R' => x = nI (sp_cf oi n N).2 ∧ cl_st rg I' R' q r (sp_cf oi n N).1 ∧ cl_fr rg (fun z => z = r) I R I' R') := by
  refine rk_bJ (ls := [(0, _), (1, _), (2, _)]) (by decide) rfl (Nat.le_of_ble_eq_true rfl) ?_
  refine rk_iconst 0 dX7_cutFor_0 (by decide) ?_
  refine rk_istore_n 3 (ls' := [(3, _), (0, _), (1, _), (2, _)]) dX7_cutFor_1 rfl (by decide) rfl ?_
  refine rk_ord [0, 1, 2, 3] (ls' := [(0, _), (1, _), (2, _), (3, _)]) rfl ?_
  have g := cX7_cutFor_l (w := w) (l := l) (Sh := Sh) (wt := n) (T := T) hrs hra hor ho (by rw [hO 3 (by decide)]; exact hwt) (by rw [hO 4 (by decide)]; exact h4) n 0 c N I R (by omega) hn hv hov hwt (fun j hj _ => hO j hj) hru h6 hst cl_fr.rf
  rw [Nat.zero_add] at g
  exact g
end CI

