section MW
variable {w : rk_W} {l : Launch} {Sh : rk_Sh} {I : rk_Mm} {R : rk_Rm}
theorem sp_cf_inv {T : Int} {o : Nat} (ho : o < 16) : ∀ (n c : Nat) (N : Nat → Int32), n < 2 ^ 20 → sp_pv T N c → sp_ov N o → N (220 + 7 * o + 3) = nI n → (∀ j, (j < 12 ∨ j = 13 ∨ (16 ≤ j ∧ j < 30) ∨ (218 ≤ j ∧ j ≠ 220 + 7 * o + 3)) → (sp_cf o n N).1 j = N j) ∧ (∃ c', c' ≤ c ∧ sp_pv T (sp_cf o n N).1 c') ∧ (sp_cf o n N).2 ≤ n ∧ (sp_cf o n N).1 (220 + 7 * o + 3) = nI (n - (sp_cf o n N).2) := by
  intro n
  induction n with
  | zero => intro c N _ hv _ hn; exact ⟨fun _ _ => rfl, ⟨c, Nat.le_refl _, hv⟩, Nat.le_refl _, hn⟩
  | succ n ih =>
    intro c N hk hv hov hn
    rcases sp_bq_in (o := o) hv with hb | ⟨q, hq, hb, hsu⟩
    · rw [sp_cf0 (by rw [hb]; exact rk_n6)]
      exact ⟨fun _ _ => rfl, ⟨c, Nat.le_refl _, hv⟩, Nat.zero_le _, hn⟩
    · obtain ⟨⟨g, hg, hg0⟩, hfe⟩ := hov
      have hc24 := hv.1
      obtain ⟨f, hf, hf0⟩ := hv.2.2.1 q hq
      have hfg : f = g := by
        have e1 : N (50 + 7 * q + 0) = N (220 + 7 * o + 0) := hsu.1
        rw [hf0, hg0] at e1
        exact (nI_eq (by omega) (by omega)).mp e1
      subst hfg
      have hsc : sp_c N (220 + 7 * o) = f := sp_cN hg0 (by omega)
      have hfeet : (N (220 + 7 * o + 2)).toInt ≤ (N (50 + 7 * q + 3)).toInt := Int32.le_iff_toInt_le.mp hsu.2.1
      obtain ⟨c', hc', hv'⟩ := sp_pv_step hv ho hq hfe hfeet (by rw [hsc]; exact hf)
      have hsx : ∀ j, (j < 12 ∨ j = 13 ∨ (16 ≤ j ∧ j < 30) ∨ (218 ≤ j ∧ j ≠ 220 + 7 * o + 3)) → sp_step N o q j = N j := fun j hj => sp_step_x hv.2.1 hc24 hq hf hf0 hf hg0 rfl (by omega) (by omega) (by omega) (by omega) (by omega) (by omega) (by omega)
      have hn' : sp_step N o q (220 + 7 * o + 3) = nI n := by simp only [sp_step, hsc]; rw [sp_un (by omega), sp_un (by omega), sp_us, hn, nI_pred]
      obtain ⟨i1, ⟨c2, i2, i3⟩, i4, i5⟩ := ih c' (sp_step N o q) (by omega) hv' ⟨⟨f, hf, by rw [hsx _ (by omega)]; exact hg0⟩, by rw [hsx _ (by omega)]; exact hfe⟩ hn'
      rw [sp_cf1 hb (by omega)]
      exact ⟨fun j hj => by rw [i1 j hj, hsx j hj], ⟨c2, by omega, i3⟩, by show _ + 1 ≤ n + 1; omega, by rw [i5]; congr 1; omega⟩
theorem cX11_cutFor_s {m o n c : Nat} {T : Int} {x : Int32} (hx : x = nI o) (ho : o < 16) (hv : sp_pv T (I 26 (R 12 m 0)) c) (hov : sp_ov (I 26 (R 12 m 0)) o) (hn20 : n < 2 ^ 20) (hn : I 26 (R 12 m 0) (220 + 7 * o + 3) = nI n) : rk_J w l rk_mX11_cutFor 5 [rk_a 12 m, rk_i x] Sh I R (fun r I' R' => r = nI (sp_cf o n (I 26 (R 12 m 0))).2 ∧ R' = R ∧ I' = md_a I 26 (R 12 m 0) (sp_cf o n (I 26 (R 12 m 0))).1) := by
  subst hx
  have hcc : sp_c (I 26 (R 12 m 0)) 12 = c := sp_cN hv.2.1 (by have := hv.1; omega)
  have e : (220 : Int32) + 7 * nI o = nI (220 + 7 * o) := by simp only [rk_lit, nI_add, pk_mul]
  refine rk_bJ (ls := [(0, _), (1, _)]) (by decide) rfl (Nat.le_of_ble_eq_true rfl) ?_
  refine rk_sipush 220 dX11_cutFor_0 (by decide) ?_
  refine rk_bipush 7 dX11_cutFor_3 (by decide) ?_
  refine rk_iload_n 1 dX11_cutFor_5 rfl rfl ?_
  refine rk_imul dX11_cutFor_6 ?_
  refine rk_iadd dX11_cutFor_7 ?_
  refine rk_istore_n 2 (ls' := [(2, _), (0, _), (1, _)]) dX11_cutFor_8 rfl (by decide) rfl ?_
  refine rk_pc (pc' := 9) rfl ?_
  refine rk_iconst 0 dX11_cutFor_9 (by decide) ?_
  refine rk_istore_n 3 (ls' := [(3, _), (2, _), (0, _), (1, _)]) dX11_cutFor_10 rfl (by decide) rfl ?_
  refine rk_aload_n 0 dX11_cutFor_11 rfl rfl ?_
  refine rk_iload_n 1 dX11_cutFor_12 rfl rfl ?_
  refine rk_cVp (cX11_bestPiece_s rfl ho hv.1 hv.2.1 hv.2.2.1) rk_eX11_bestPiece rfl ⟨rfl, rfl⟩ rk_kX11_115 dX11_cutFor_13 rfl (by decide) (Nat.le_of_ble_eq_true rfl) ⟨Nat.le_refl _, Nat.le_refl _⟩ ?_
  refine rk_istore (ls' := [(4, _), (3, _), (2, _), (0, _), (1, _)]) dX11_cutFor_16 (by decide) rfl ?_
  refine rk_pc (pc' := 18) rfl ?_
  refine rk_ord [0, 1, 2, 3, 4] (ls' := [(0, _), (1, _), (2, _), (3, _), (4, _)]) rfl ?_
  rw [e, show sp_bp (I 26 (R 12 m 0)) (sp_P (I 26 (R 12 m 0))) (sp_O (I 26 (R 12 m 0)) o) c = sp_bq (I 26 (R 12 m 0)) o by rw [sp_bq, hcc]]
  have key := cX11_cutFor_loop (w := w) (l := l) (Sh := Sh) (I := I) (R := R) (m := m) (T := T) ho n 0 c (I 26 (R 12 m 0)) I (by omega) hv hov hn md_self.symm
  rw [Nat.zero_add] at key
  exact key
noncomputable def sp_fillN (N : Nat → Int32) (o n : Nat) : Nat → Int32 := if (sp_cf o n N).1 (220 + 7 * o + 3) = 0 then sp_gone (sp_cf o n N).1 13 220 o else (sp_cf o n N).1
noncomputable def sp_fill (N : Nat → Int32) (x : Int32) : sp_R := @ite _ (sp_isor N x) (Classical.propDecidable _) (if sp_bq N x.toNatClampNeg < 0 then (-5, none) else (nI (sp_cf x.toNatClampNeg (sp_c N (220 + 7 * x.toNatClampNeg + 3)) N).2, some (sp_fillN N x.toNatClampNeg (sp_c N (220 + 7 * x.toNatClampNeg + 3))))) (-1, none)
theorem cX11_fill_s {m u c oc : Nat} {T : Int} (hu : I 12 m 3 = nI u) (hu6 : u ≤ 6) (hv : sp_pv T (I 26 (R 12 m 0)) c) (hoc : oc ≤ 16) (h13 : I 26 (R 12 m 0) 13 = nI oc) (hov : ∀ o, o < oc → sp_ov (I 26 (R 12 m 0)) o ∧ ∃ n, n < 2 ^ 20 ∧ I 26 (R 12 m 0) (220 + 7 * o + 3) = nI n) (x : Int32) : rk_J w l rk_mX11_fill 6 [rk_a 12 m, rk_i x] Sh I R (md_Q I R m (sp_fill (I 26 (R 12 m 0)) x)) := by
  have h26 : md_rec I R m 26 = I 26 := md_rec_c (by decide) (by decide)
  have hcc : sp_c (I 26 (R 12 m 0)) 12 = c := sp_cN hv.2.1 (by have := hv.1; omega)
  refine rk_bJ (ls := [(0, _), (1, _)]) (by decide) rfl (Nat.le_of_ble_eq_true rfl) ?_
  refine rk_aload_n 0 dX11_fill_0 rfl rfl ?_
  refine rk_iload_n 1 dX11_fill_1 rfl rfl ?_
  refine rk_cVp (cX11_isOrder_s _) rk_eX11_isOrder rfl ⟨rfl, rfl⟩ rk_kX11_118 dX11_fill_2 rfl (by decide) (Nat.le_of_ble_eq_true rfl) ⟨Nat.le_refl _, Nat.le_refl _⟩ ?_
  refine rk_if_ne 10 dX11_fill_5 (by decide) (fun qz5 => ?_) (fun qz5 => ?_)
  · skip
    obtain ⟨o, ho, rfl⟩ := sp_is_n h13 (by omega) (sp_bt qz5)
    have hcl : (nI o).toNatClampNeg = o := nI_clamp (by omega)
    obtain ⟨hov1, n, hn20, hn⟩ := hov o ho
    have hcn : sp_c (I 26 (R 12 m 0)) (220 + 7 * o + 3) = n := sp_cN hn (by omega)
    obtain ⟨i1, i2, i3, i4⟩ := sp_cf_inv (by omega) n c _ hn20 hv hov1 hn
    refine rk_aload_n 0 dX11_fill_10 rfl rfl ?_
    refine rk_iload_n 1 dX11_fill_11 rfl rfl ?_
    refine rk_cVp (cX11_bestPiece_s rfl (by omega) hv.1 hv.2.1 hv.2.2.1) rk_eX11_bestPiece rfl ⟨rfl, rfl⟩ rk_kX11_115 dX11_fill_12 rfl (by decide) (Nat.le_of_ble_eq_true rfl) ⟨Nat.le_refl _, Nat.le_refl _⟩ ?_
    rw [show sp_bp (I 26 (R 12 m 0)) (sp_P (I 26 (R 12 m 0))) (sp_O (I 26 (R 12 m 0)) o) c = sp_bq (I 26 (R 12 m 0)) o by rw [sp_bq, hcc]]
    refine rk_pc (pc' := 15) rfl ?_
    refine rk_if_ge 21 dX11_fill_15 (by decide) (fun qz15 => ?_) (fun qz15 => ?_)
    · skip
      refine rk_aload_n 0 dX11_fill_21 rfl rfl ?_
      refine rk_cVv (cX11_record_s hu hu6) rk_eX11_record rfl ⟨rfl, rfl⟩ rk_kX11_54 dX11_fill_22 rfl (by decide) (Nat.le_of_ble_eq_true rfl) ⟨Nat.le_refl _, Nat.le_refl _⟩ (fun Iz1 Rz1 hz1 => ?_)
      obtain ⟨qhz1, eIz1⟩ := hz1
      obtain rfl := qhz1.symm
      have h26z : Iz1 26 = I 26 := by rw [eIz1, h26]
      refine rk_aload_n 0 dX11_fill_25 rfl rfl ?_
      refine rk_iload_n 1 dX11_fill_26 rfl rfl ?_
      refine rk_cVi (cX11_cutFor_s (n := n) rfl (by omega) (by rw [h26z]; exact hv) (by rw [h26z]; exact hov1) hn20 (by rw [h26z]; exact hn)) rk_eX11_cutFor rfl ⟨rfl, rfl⟩ rk_kX11_121 dX11_fill_27 rfl (by decide) (Nat.le_of_ble_eq_true rfl) ⟨Nat.le_refl _, Nat.le_refl _⟩ (fun xz2 Iz2 Rz2 hz2 => ?_)
      rw [h26z] at hz2
      obtain ⟨rfl, qhz2, eIz2⟩ := hz2
      obtain rfl := qhz2.symm
      have ha : Iz2 26 (R 12 m 0) = (sp_cf o n (I 26 (R 12 m 0))).1 := by rw [eIz2, md_as]
      refine rk_istore_n 2 (ls' := [(2, _), (0, _), (1, _)]) dX11_fill_30 rfl (by decide) rfl ?_
      refine rk_pc (pc' := 31) rfl ?_
      refine rk_aload_n 0 dX11_fill_31 rfl rfl ?_
      refine rk_iload_n 1 dX11_fill_32 rfl rfl ?_
      refine rk_iconst 3 dX11_fill_33 (by decide) ?_
      refine rk_cVp (cX11_orderAt_s o 3 rfl rfl (by omega) (by decide)) rk_eX11_orderAt rfl ⟨rfl, rfl⟩ rk_kX11_109 dX11_fill_34 rfl (by decide) (Nat.le_of_ble_eq_true rfl) ⟨Nat.le_refl _, Nat.le_refl _⟩ ?_
      rw [ha]
      refine rk_if_ne 45 dX11_fill_37 (by decide) (fun qz37 => ?_) (fun qz37 => ?_)
      · skip
        refine rk_iload_n 2 dX11_fill_45 rfl rfl ?_
        refine rk_iretJ dX11_fill_46 rfl rfl ?_
        rw [show sp_fill (I 26 (R 12 m 0)) (nI o) = (nI (sp_cf o n (I 26 (R 12 m 0))).2, some (sp_fillN (I 26 (R 12 m 0)) o n)) from (if_pos (sp_bt qz5)).trans ((if_neg (by rw [hcl]; exact Int32.not_lt.mpr qz15)).trans (by rw [hcl, hcn]))]
        refine ⟨rfl, rfl, ?_⟩
        first | (rw [eIz3, eIz2, eIz1, md_as, md_aa, sp_fillN, if_pos qz37]; rfl) | (rw [eIz2, eIz1, sp_fillN, if_neg qz37]; rfl)
      · skip
        refine rk_aload_n 0 dX11_fill_40 rfl rfl ?_
        refine rk_pc (pc' := 41) rfl ?_
        refine rk_iload_n 1 dX11_fill_41 rfl rfl ?_
        refine rk_cVv (cX11_dropOrder_s rfl hoc ho (by rw [ha, i1 13 (by omega)]; exact h13)) rk_eX11_dropOrder rfl ⟨rfl, rfl⟩ rk_kX11_124 dX11_fill_42 rfl (by decide) (Nat.le_of_ble_eq_true rfl) ⟨Nat.le_refl _, Nat.le_refl _⟩ (fun Iz3 Rz3 hz3 => ?_)
        obtain ⟨qhz3, eIz3⟩ := hz3
        obtain rfl := qhz3.symm
        refine rk_iload_n 2 dX11_fill_45 rfl rfl ?_
        refine rk_iretJ dX11_fill_46 rfl rfl ?_
        rw [show sp_fill (I 26 (R 12 m 0)) (nI o) = (nI (sp_cf o n (I 26 (R 12 m 0))).2, some (sp_fillN (I 26 (R 12 m 0)) o n)) from (if_pos (sp_bt qz5)).trans ((if_neg (by rw [hcl]; exact Int32.not_lt.mpr qz15)).trans (by rw [hcl, hcn]))]
        refine ⟨rfl, rfl, ?_⟩
        first | (rw [eIz3, eIz2, eIz1, md_as, md_aa, sp_fillN, if_pos qz37]; rfl) | (rw [eIz2, eIz1, sp_fillN, if_neg qz37]; rfl)
    · skip
      refine rk_bipush (-5) dX11_fill_18 (by decide) ?_
      refine rk_iretJ dX11_fill_20 rfl rfl ?_
      rw [show sp_fill (I 26 (R 12 m 0)) (nI o) = (-5, none) from (if_pos (sp_bt qz5)).trans (if_pos (by rw [hcl]; exact Int32.not_le.mp qz15))]
      exact ⟨rfl, rfl, rfl⟩
  · skip
    refine rk_iconst (-1) dX11_fill_8 (by decide) ?_
    refine rk_iretJ dX11_fill_9 rfl rfl ?_
    rw [show sp_fill (I 26 (R 12 m 0)) x = (-1, none) from if_neg (sp_bf qz5)]
    exact ⟨rfl, rfl, rfl⟩
/-- the reference's wouldFill(): its own row stays, another one of its rows may change -/
noncomputable def sp_would (N : Nat → Int32) (x k : Int32) : Int32 := @ite _ (sp_isor N x) (Classical.propDecidable _) (@ite _ (0 ≤ k ∧ k ≤ 2) (Classical.propDecidable _) (if k = 0 then nI (sp_cf x.toNatClampNeg (sp_c N (220 + 7 * x.toNatClampNeg + 3)) N).2 else if k = 1 then (sp_cf x.toNatClampNeg (sp_c N (220 + 7 * x.toNatClampNeg + 3)) N).1 (30 + 4 * sp_c N (220 + 7 * x.toNatClampNeg + 0) + 3) - N (30 + 4 * sp_c N (220 + 7 * x.toNatClampNeg + 0) + 3) else (sp_cf x.toNatClampNeg (sp_c N (220 + 7 * x.toNatClampNeg + 3)) N).1 12) (-2)) (-1)
theorem cX11_wouldFill_s {m c oc : Nat} {T : Int} (hv : sp_pv T (I 26 (R 12 m 0)) c) (hoc : oc ≤ 16) (h13 : I 26 (R 12 m 0) 13 = nI oc) (hov : ∀ o, o < oc → sp_ov (I 26 (R 12 m 0)) o ∧ ∃ n, n < 2 ^ 20 ∧ I 26 (R 12 m 0) (220 + 7 * o + 3) = nI n) (x k : Int32) : rk_J w l rk_mX11_wouldFill 6 [rk_a 12 m, rk_i x, rk_i k] Sh I R (fun r I' R' => r = sp_would (I 26 (R 12 m 0)) x k ∧ R' = R ∧ ∃ K, I' = md_a I 27 (R 12 m 1) K) := by
  refine rk_bJ (ls := [(0, _), (1, _), (2, _)]) (by decide) rfl (Nat.le_of_ble_eq_true rfl) ?_
  refine rk_aload_n 0 dX11_wouldFill_0 rfl rfl ?_
  refine rk_iload_n 1 dX11_wouldFill_1 rfl rfl ?_
  refine rk_cVp (cX11_isOrder_s _) rk_eX11_isOrder rfl ⟨rfl, rfl⟩ rk_kX11_118 dX11_wouldFill_2 rfl (by decide) (Nat.le_of_ble_eq_true rfl) ⟨Nat.le_refl _, Nat.le_refl _⟩ ?_
  refine rk_if_ne 10 dX11_wouldFill_5 (by decide) (fun qz5 => ?_) (fun qz5 => ?_)
  · skip
    obtain ⟨o, ho, rfl⟩ := sp_is_n h13 (by omega) (sp_bt qz5)
    have hcl : (nI o).toNatClampNeg = o := nI_clamp (by omega)
    obtain ⟨hov1, n, hn20, hn⟩ := hov o ho
    have hcn : sp_c (I 26 (R 12 m 0)) (220 + 7 * o + 3) = n := sp_cN hn (by omega)
    obtain ⟨i1, i2, i3, i4⟩ := sp_cf_inv (by omega) n c _ hn20 hv hov1 hn
    obtain ⟨g, hg, hg0⟩ := hov1.1
    have hcg : sp_c (I 26 (R 12 m 0)) (220 + 7 * o + 0) = g := sp_cN hg0 (by omega)
    refine rk_iload_n 2 dX11_wouldFill_10 rfl rfl ?_
    refine rk_iconst 0 dX11_wouldFill_11 (by decide) ?_
    refine rk_iconst 2 dX11_wouldFill_12 (by decide) ?_
    refine rk_pc (pc' := 13) rfl ?_
    refine rk_cSp (cX11_in_s _ _ _) rk_eX11_in rfl rk_kX11_43 dX11_wouldFill_13 rfl (by decide) (Nat.le_of_ble_eq_true rfl) ⟨Nat.le_refl _, Nat.le_refl _⟩ ?_
    refine rk_if_ne 22 dX11_wouldFill_16 (by decide) (fun qz16 => ?_) (fun qz16 => ?_)
    · skip
      refine rk_aload_n 0 dX11_wouldFill_22 rfl rfl ?_
      refine rk_cVv (cX11_keep_s) rk_eX11_keep rfl ⟨rfl, rfl⟩ rk_kX11_140 dX11_wouldFill_23 rfl (by decide) (Nat.le_of_ble_eq_true rfl) ⟨Nat.le_refl _, Nat.le_refl _⟩ (fun Iz1 Rz1 hz1 => ?_)
      obtain ⟨qhz1, eIz1⟩ := hz1
      obtain rfl := qhz1.symm
      have h26z : Iz1 26 = I 26 := by rw [eIz1]; funext b; exact md_ac (by decide)
      refine rk_bipush 30 dX11_wouldFill_26 (by decide) ?_
      refine rk_iconst 4 dX11_wouldFill_28 (by decide) ?_
      refine rk_aload_n 0 dX11_wouldFill_29 rfl rfl ?_
      refine rk_pc (pc' := 30) rfl ?_
      refine rk_iload_n 1 dX11_wouldFill_30 rfl rfl ?_
      refine rk_iconst 0 dX11_wouldFill_31 (by decide) ?_
      refine rk_cVp (cX11_orderAt_s o 0 rfl rfl (by omega) (by decide)) rk_eX11_orderAt rfl ⟨rfl, rfl⟩ rk_kX11_109 dX11_wouldFill_32 rfl (by decide) (Nat.le_of_ble_eq_true rfl) ⟨Nat.le_refl _, Nat.le_refl _⟩ ?_
      rw [h26z, hg0]
      refine rk_imul dX11_wouldFill_35 ?_
      refine rk_iadd dX11_wouldFill_36 ?_
      refine rk_iconst 3 dX11_wouldFill_37 (by decide) ?_
      refine rk_pc (pc' := 38) rfl ?_
      refine rk_iadd dX11_wouldFill_38 ?_
      refine rk_istore_n 3 (ls' := [(3, _), (0, _), (1, _), (2, _)]) dX11_wouldFill_39 rfl (by decide) rfl ?_
      refine rk_aload_n 0 dX11_wouldFill_40 rfl rfl ?_
      refine rk_g12_0 rk_kX11_7 dX11_wouldFill_41 ?_
      refine rk_iload_n 3 dX11_wouldFill_44 rfl rfl ?_
      refine rk_rn26 (30 + 4 * g + 3) dX11_wouldFill_45 (by first | rfl | decide | assumption | (simp only [rk_lit, nI_add, pk_mul, nI_1]; done) | (simp only [rk_lit, nI_add, pk_mul, nI_1]; congr 1; omega)) (by first | decide | assumption | omega) ?_
      rw [h26z]
      refine rk_pc (pc' := 46) rfl ?_
      refine rk_istore (ls' := [(4, _), (3, _), (0, _), (1, _), (2, _)]) dX11_wouldFill_46 (by decide) rfl ?_
      refine rk_aload_n 0 dX11_wouldFill_48 rfl rfl ?_
      refine rk_iload_n 1 dX11_wouldFill_49 rfl rfl ?_
      refine rk_cVi (cX11_cutFor_s (n := n) rfl (by omega) (by rw [h26z]; exact hv) (by rw [h26z]; exact hov1) hn20 (by rw [h26z]; exact hn)) rk_eX11_cutFor rfl ⟨rfl, rfl⟩ rk_kX11_121 dX11_wouldFill_50 rfl (by decide) (Nat.le_of_ble_eq_true rfl) ⟨Nat.le_refl _, Nat.le_refl _⟩ (fun xz2 Iz2 Rz2 hz2 => ?_)
      rw [h26z] at hz2
      obtain ⟨rfl, qhz2, eIz2⟩ := hz2
      obtain rfl := qhz2.symm
      have ha : Iz2 26 (R 12 m 0) = (sp_cf o n (I 26 (R 12 m 0))).1 := by rw [eIz2, md_as]
      refine rk_istore (ls' := [(5, _), (4, _), (3, _), (0, _), (1, _), (2, _)]) dX11_wouldFill_53 (by decide) rfl ?_
      refine rk_iload_n 2 dX11_wouldFill_55 rfl rfl ?_
      refine rk_pc (pc' := 56) rfl ?_
      refine rk_if_ne 64 dX11_wouldFill_56 (by decide) (fun qz56 => ?_) (fun qz56 => ?_)
      · skip
        refine rk_iload_n 2 dX11_wouldFill_64 rfl rfl ?_
        refine rk_iconst 1 dX11_wouldFill_65 (by decide) ?_
        refine rk_icmp_ne 81 dX11_wouldFill_66 (by decide) (fun qz66 => ?_) (fun qz66 => ?_)
        · skip
          refine rk_aload_n 0 dX11_wouldFill_81 rfl rfl ?_
          refine rk_g12_0 rk_kX11_7 dX11_wouldFill_82 ?_
          refine rk_bipush 12 dX11_wouldFill_85 (by decide) ?_
          refine rk_rn26 12 dX11_wouldFill_87 rfl (by first | decide | assumption | omega) ?_
          rw [ha]
          refine rk_pc (pc' := 88) rfl ?_
          refine rk_istore (ls' := [(6, _), (5, _), (4, _), (3, _), (0, _), (1, _), (2, _)]) dX11_wouldFill_88 (by decide) rfl ?_
          refine rk_aload_n 0 dX11_wouldFill_90 rfl rfl ?_
          refine rk_cVv (cX11_comeBack_s) rk_eX11_comeBack rfl ⟨rfl, rfl⟩ rk_kX11_143 dX11_wouldFill_91 rfl (by decide) (Nat.le_of_ble_eq_true rfl) ⟨Nat.le_refl _, Nat.le_refl _⟩ (fun Iz3 Rz3 hz3 => ?_)
          obtain ⟨qhz3, eIz3⟩ := hz3
          obtain rfl := qhz3.symm
          refine rk_iload dX11_wouldFill_94 rfl ?_
          refine rk_iretJ dX11_wouldFill_96 rfl rfl ?_
          refine ⟨?_, rfl, sp_cp (I 27 (R 12 m 1)) (I 26 (R 12 m 0)) 0 0 340, ?_⟩
          · first | exact ((if_pos (sp_bt qz5)).trans ((if_pos (sp_bt qz16)).trans ((if_pos qz56).trans (by rw [hcl, hcn])))).symm | exact ((if_pos (sp_bt qz5)).trans ((if_pos (sp_bt qz16)).trans ((if_neg qz56).trans ((if_pos qz66).trans (by rw [hcl, hcn, hcg]))))).symm | exact ((if_pos (sp_bt qz5)).trans ((if_pos (sp_bt qz16)).trans ((if_neg qz56).trans ((if_neg qz66).trans (by rw [hcl, hcn]))))).symm
          · have e1 : Iz2 27 (R 12 m 1) = sp_cp (I 27 (R 12 m 1)) (I 26 (R 12 m 0)) 0 0 340 := by rw [eIz2, md_ac (by decide), eIz1, md_as]
            rw [eIz3, e1, eIz2, md_aa, eIz1]
            rw [show sp_cp ((md_a (md_a I 27 (R 12 m 1) (sp_cp (I 27 (R 12 m 1)) (I 26 (R 12 m 0)) 0 0 340)) 26 (R 12 m 0) (sp_cf o n (I 26 (R 12 m 0))).1) 26 (R 12 m 0)) (sp_cp (I 27 (R 12 m 1)) (I 26 (R 12 m 0)) 0 0 340) 0 0 340 = I 26 (R 12 m 0) from funext (fun j => by
              rw [md_as]
              simp only [sp_cp]
              by_cases hj : 0 ≤ j ∧ j < 0 + 340
              · rw [if_pos hj, if_pos (by omega)]; congr 1; omega
              · rw [if_neg hj]; exact i1 j (by omega))]
            have e9 : ∀ J : rk_Mm, J 26 (R 12 m 0) = I 26 (R 12 m 0) → md_a J 26 (R 12 m 0) (I 26 (R 12 m 0)) = J := fun J h => by rw [← h, md_self]
            exact e9 (md_a I 27 (R 12 m 1) (sp_cp (I 27 (R 12 m 1)) (I 26 (R 12 m 0)) 0 0 340)) (md_ac (show (26 : Nat) ≠ 27 by decide))
        · skip
          refine rk_aload_n 0 dX11_wouldFill_69 rfl rfl ?_
          refine rk_g12_0 rk_kX11_7 dX11_wouldFill_70 ?_
          refine rk_pc (pc' := 73) rfl ?_
          refine rk_iload_n 3 dX11_wouldFill_73 rfl rfl ?_
          refine rk_rn26 (30 + 4 * g + 3) dX11_wouldFill_74 (by first | rfl | decide | assumption | (simp only [rk_lit, nI_add, pk_mul, nI_1]; done) | (simp only [rk_lit, nI_add, pk_mul, nI_1]; congr 1; omega)) (by first | decide | assumption | omega) ?_
          rw [ha]
          refine rk_iload dX11_wouldFill_75 rfl ?_
          refine rk_isub dX11_wouldFill_77 ?_
          refine rk_goto 88 dX11_wouldFill_78 (by decide) ?_
          refine rk_istore (ls' := [(6, _), (5, _), (4, _), (3, _), (0, _), (1, _), (2, _)]) dX11_wouldFill_88 (by decide) rfl ?_
          refine rk_pc (pc' := 90) rfl ?_
          refine rk_aload_n 0 dX11_wouldFill_90 rfl rfl ?_
          refine rk_cVv (cX11_comeBack_s) rk_eX11_comeBack rfl ⟨rfl, rfl⟩ rk_kX11_143 dX11_wouldFill_91 rfl (by decide) (Nat.le_of_ble_eq_true rfl) ⟨Nat.le_refl _, Nat.le_refl _⟩ (fun Iz3 Rz3 hz3 => ?_)
          obtain ⟨qhz3, eIz3⟩ := hz3
          obtain rfl := qhz3.symm
          refine rk_iload dX11_wouldFill_94 rfl ?_
          refine rk_iretJ dX11_wouldFill_96 rfl rfl ?_
          refine ⟨?_, rfl, sp_cp (I 27 (R 12 m 1)) (I 26 (R 12 m 0)) 0 0 340, ?_⟩
          · first | exact ((if_pos (sp_bt qz5)).trans ((if_pos (sp_bt qz16)).trans ((if_pos qz56).trans (by rw [hcl, hcn])))).symm | exact ((if_pos (sp_bt qz5)).trans ((if_pos (sp_bt qz16)).trans ((if_neg qz56).trans ((if_pos qz66).trans (by rw [hcl, hcn, hcg]))))).symm | exact ((if_pos (sp_bt qz5)).trans ((if_pos (sp_bt qz16)).trans ((if_neg qz56).trans ((if_neg qz66).trans (by rw [hcl, hcn]))))).symm
          · have e1 : Iz2 27 (R 12 m 1) = sp_cp (I 27 (R 12 m 1)) (I 26 (R 12 m 0)) 0 0 340 := by rw [eIz2, md_ac (by decide), eIz1, md_as]
            rw [eIz3, e1, eIz2, md_aa, eIz1]
            rw [show sp_cp ((md_a (md_a I 27 (R 12 m 1) (sp_cp (I 27 (R 12 m 1)) (I 26 (R 12 m 0)) 0 0 340)) 26 (R 12 m 0) (sp_cf o n (I 26 (R 12 m 0))).1) 26 (R 12 m 0)) (sp_cp (I 27 (R 12 m 1)) (I 26 (R 12 m 0)) 0 0 340) 0 0 340 = I 26 (R 12 m 0) from funext (fun j => by
              rw [md_as]
              simp only [sp_cp]
              by_cases hj : 0 ≤ j ∧ j < 0 + 340
              · rw [if_pos hj, if_pos (by omega)]; congr 1; omega
              · rw [if_neg hj]; exact i1 j (by omega))]
            have e9 : ∀ J : rk_Mm, J 26 (R 12 m 0) = I 26 (R 12 m 0) → md_a J 26 (R 12 m 0) (I 26 (R 12 m 0)) = J := fun J h => by rw [← h, md_self]
            exact e9 (md_a I 27 (R 12 m 1) (sp_cp (I 27 (R 12 m 1)) (I 26 (R 12 m 0)) 0 0 340)) (md_ac (show (26 : Nat) ≠ 27 by decide))
      · skip
        refine rk_iload dX11_wouldFill_59 rfl ?_
        refine rk_goto 88 dX11_wouldFill_61 (by decide) ?_
        refine rk_istore (ls' := [(6, _), (5, _), (4, _), (3, _), (0, _), (1, _), (2, _)]) dX11_wouldFill_88 (by decide) rfl ?_
        refine rk_pc (pc' := 90) rfl ?_
        refine rk_aload_n 0 dX11_wouldFill_90 rfl rfl ?_
        refine rk_cVv (cX11_comeBack_s) rk_eX11_comeBack rfl ⟨rfl, rfl⟩ rk_kX11_143 dX11_wouldFill_91 rfl (by decide) (Nat.le_of_ble_eq_true rfl) ⟨Nat.le_refl _, Nat.le_refl _⟩ (fun Iz3 Rz3 hz3 => ?_)
        obtain ⟨qhz3, eIz3⟩ := hz3
        obtain rfl := qhz3.symm
        refine rk_iload dX11_wouldFill_94 rfl ?_
        refine rk_iretJ dX11_wouldFill_96 rfl rfl ?_
        refine ⟨?_, rfl, sp_cp (I 27 (R 12 m 1)) (I 26 (R 12 m 0)) 0 0 340, ?_⟩
        · first | exact ((if_pos (sp_bt qz5)).trans ((if_pos (sp_bt qz16)).trans ((if_pos qz56).trans (by rw [hcl, hcn])))).symm | exact ((if_pos (sp_bt qz5)).trans ((if_pos (sp_bt qz16)).trans ((if_neg qz56).trans ((if_pos qz66).trans (by rw [hcl, hcn, hcg]))))).symm | exact ((if_pos (sp_bt qz5)).trans ((if_pos (sp_bt qz16)).trans ((if_neg qz56).trans ((if_neg qz66).trans (by rw [hcl, hcn]))))).symm
        · have e1 : Iz2 27 (R 12 m 1) = sp_cp (I 27 (R 12 m 1)) (I 26 (R 12 m 0)) 0 0 340 := by rw [eIz2, md_ac (by decide), eIz1, md_as]
          rw [eIz3, e1, eIz2, md_aa, eIz1]
          rw [show sp_cp ((md_a (md_a I 27 (R 12 m 1) (sp_cp (I 27 (R 12 m 1)) (I 26 (R 12 m 0)) 0 0 340)) 26 (R 12 m 0) (sp_cf o n (I 26 (R 12 m 0))).1) 26 (R 12 m 0)) (sp_cp (I 27 (R 12 m 1)) (I 26 (R 12 m 0)) 0 0 340) 0 0 340 = I 26 (R 12 m 0) from funext (fun j => by
            rw [md_as]
            simp only [sp_cp]
            by_cases hj : 0 ≤ j ∧ j < 0 + 340
            · rw [if_pos hj, if_pos (by omega)]; congr 1; omega
            · rw [if_neg hj]; exact i1 j (by omega))]
          have e9 : ∀ J : rk_Mm, J 26 (R 12 m 0) = I 26 (R 12 m 0) → md_a J 26 (R 12 m 0) (I 26 (R 12 m 0)) = J := fun J h => by rw [← h, md_self]
          exact e9 (md_a I 27 (R 12 m 1) (sp_cp (I 27 (R 12 m 1)) (I 26 (R 12 m 0)) 0 0 340)) (md_ac (show (26 : Nat) ≠ 27 by decide))
    · skip
      refine rk_bipush (-2) dX11_wouldFill_19 (by decide) ?_
      refine rk_iretJ dX11_wouldFill_21 rfl rfl ?_
      exact ⟨((if_pos (sp_bt qz5)).trans (if_neg (sp_bf qz16))).symm, rfl, I 27 (R 12 m 1), md_self.symm⟩
  · skip
    refine rk_iconst (-1) dX11_wouldFill_8 (by decide) ?_
    refine rk_iretJ dX11_wouldFill_9 rfl rfl ?_
    exact ⟨(if_neg (sp_bf qz5)).symm, rfl, I 27 (R 12 m 1), md_self.symm⟩
end MW

