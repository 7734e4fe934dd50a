section CU
variable {rg : Nat → Nat} {I : rk_Mm} {R : rk_Rm} {q r c j : Nat} {N : Nat → Int32} {T : Int} {st ft mn tr pr v4 : Int32}
def sp_ordV (N : Nat → Int32) (j : Nat) (st ft mn v4 tr pr : Int32) (k : Nat) : Int32 := if k = 0 then nI j else if k = 1 then st else if k = 2 then ft else if k = 3 then mn else if k = 4 then v4 else if k = 5 then N 10 + tr / 2 else pr
theorem sp_ord_x {i : Nat} (h3 : i < 220 + 7 * c ∨ 220 + 7 * c + 7 ≤ i) (h4 : i ≠ 13) : sp_orderN N j c st ft mn tr pr i = N i := by
  rw [sp_orderN, sp_un h4, sp_un (by omega), sp_un (by omega), sp_un (by omega), sp_un (by omega), sp_un (by omega), sp_un (by omega), sp_un (by omega)]
theorem sp_ord_p {k : Nat} (hk : k < 7) : sp_orderN N j c st ft mn tr pr (220 + 7 * c + k) = sp_ordV N j st ft mn (tr - tr / 2 * 2) tr pr k := by
  rw [sp_orderN, sp_un (by omega)]
  rcases (by omega : k = 0 ∨ k = 1 ∨ k = 2 ∨ k = 3 ∨ k = 4 ∨ k = 5 ∨ k = 6) with rfl | rfl | rfl | rfl | rfl | rfl | rfl
  · rw [sp_un (by omega), sp_un (by omega), sp_un (by omega), sp_un (by omega), sp_un (by omega), sp_un (by omega)]; exact sp_us
  · rw [sp_un (by omega), sp_un (by omega), sp_un (by omega), sp_un (by omega), sp_un (by omega), sp_us]; rfl
  · rw [sp_un (by omega), sp_un (by omega), sp_un (by omega), sp_un (by omega), sp_us]; rfl
  · rw [sp_un (by omega), sp_un (by omega), sp_un (by omega), sp_us]; rfl
  · rw [sp_un (by omega), sp_un (by omega), sp_us]; rfl
  · rw [sp_un (by omega), sp_us]; rfl
  · rw [sp_us]; rfl
theorem cl_order {I1 I2 I3 I4 I5 I6 I7 I8 : rk_Mm} (hs : cl_bs rg R q r) (hb : cl_bc I R q N) (hc : N 13 = nI c) (hc2 : c < 16) (hv : v4 = tr - tr / 2 * 2) (hv2 : v4 = 0 ∨ v4 = 1)
    (e1 : I1 = rk_uI I 3 (R 13 (R 1 q 0) c) 0 (nI j)) (e2 : I2 = rk_uI I1 3 (R 13 (R 1 q 0) c) 1 st) (e3 : I3 = rk_uI I2 3 (R 13 (R 1 q 0) c) 2 ft) (e4 : I4 = rk_uI I3 3 (R 13 (R 1 q 0) c) 3 mn) (e5 : I5 = rk_uI I4 3 (R 13 (R 1 q 0) c) 4 v4) (e6 : I6 = rk_uI I5 3 (R 13 (R 1 q 0) c) 5 (N 10 + tr / 2)) (e7 : I7 = rk_uI I6 3 (R 13 (R 1 q 0) c) 6 pr)
    (e8 : I8 = rk_uI I7 1 q 1 (N 13 + 1)) : cl_bc I8 R q (sp_orderN N j c st ft mn tr pr) ∧ cl_fr rg (fun z => z = r) I R I8 R := by
  have p7 := md_ch (md_ch (md_ch (md_ch (md_ch (md_ch (md_c1 e1) e2) e3) e4) e5) e6) e7
  have m13 : sp_orderN N j c st ft mn tr pr 13 = N 13 + 1 := by rw [sp_orderN, sp_us]
  have e12 : sp_c (sp_orderN N j c st ft mn tr pr) 13 = c + 1 := by
    refine sp_cN ?_ (by omega)
    rw [m13, hc, nI_1]
  have i3 : I8 3 = I7 3 := by rw [e8, rk_ufc rfl (by decide)]
  refine ⟨⟨by rw [e8, rk_uI_s, m13], fun i hi k hk => ?_, fun i hi => ?_⟩, ?_⟩
  · rw [e12] at hi
    rw [i3, p7]
    by_cases hic : i = c
    · subst hic
      rw [md_as, sp_ord_p hk, ← hv]
      rcases (by omega : k = 0 ∨ k = 1 ∨ k = 2 ∨ k = 3 ∨ k = 4 ∨ k = 5 ∨ k = 6) with rfl | rfl | rfl | rfl | rfl | rfl | rfl <;> simp [sp_u, sp_ordV]
    · rw [md_an (fun z => hic (hs.2.2.2 i c (by omega) (by omega) z.2)), sp_ord_x (by omega) (by omega)]
      exact hb.2.1 i (by rw [sp_cN hc (by omega)]; omega) k hk
  · rw [e12] at hi
    by_cases hic : i = c
    · subst hic
      rw [sp_ord_p (by decide), ← hv]
      exact hv2
    · rw [sp_ord_x (by omega) (by omega)]
      exact hb.2.2 i (by rw [sp_cN hc (by omega)]; omega)
  · have hr3 : rg (R 13 (R 1 q 0) c) = r := hs.2.2.1 c (by omega)
    have f7 : cl_fr rg (fun z => z = r) I R I7 R := by rw [p7]; exact cl_fr.ma hr3
    have f8 : cl_fr rg (fun z => z = r) I7 R I8 R := by rw [e8]; exact cl_fr.ui hs.1
    exact f7.tr f8
/-- what filling an order sells -/
theorem sp_cf_m {o : Nat} (ho : o < 16) : ∀ (n c : Nat) (N : Nat → Int32), n < 2 ^ 20 → sp_pv T N c → sp_ov N o → N (220 + 7 * o + 3) = nI n → (sp_cf o n N).1 14 = N 14 + nI (sp_cf o n N).2 ∧ (sp_cf o n N).1 15 = N 15 + nI (sp_cf o n N).2 * N (220 + 7 * o + 6) := by
  intro n
  induction n with
  | zero =>
    intro c N _ _ _ _
    refine ⟨?_, ?_⟩
    · show N 14 = N 14 + nI 0; rw [nI_0, Int32.add_zero]
    · show N 15 = N 15 + nI 0 * _; rw [nI_0]; grind
  | succ n ih =>
    intro c N hn hv hov hw
    rcases sp_bq_in (o := o) hv with hb | ⟨i, hi, hb, hsu⟩
    · rw [sp_cf0 (by rw [hb]; exact rk_n6)]
      refine ⟨?_, ?_⟩
      · show N 14 = N 14 + nI 0; rw [nI_0, Int32.add_zero]
      · show N 15 = N 15 + nI 0 * _; rw [nI_0]; grind
    · obtain ⟨⟨g, hg, hg0⟩, hfe⟩ := hov
      have hc24 := hv.1
      obtain ⟨f, hf, hf0⟩ := hv.2.2.1 i hi
      have hfg : f = g := by
        have e1 : N (50 + 7 * i + 0) = N (220 + 7 * o + 0) := hsu.1
        rw [hf0, hg0] at e1
        exact (nI_eq (by omega) (by omega)).mp e1
      subst hfg
      have hsc : sp_c N (220 + 7 * o) = f := sp_cN hg0 (by omega)
      have hfeet : (N (220 + 7 * o + 2)).toInt ≤ (N (50 + 7 * i + 3)).toInt := Int32.le_iff_toInt_le.mp hsu.2.1
      obtain ⟨c', hc', hv'⟩ := sp_pv_step hv ho hi hfe hfeet (by rw [hsc]; exact hf)
      have hsx : ∀ j, 220 ≤ j → j ≠ 220 + 7 * o + 3 → sp_step N o i j = N j := fun j j1 j2 => sp_step_x hv.2.1 hc24 hi hf hf0 hf hg0 rfl (by omega) (by omega) (by omega) (by omega) j2 (by omega) (by omega)
      have h14 : sp_step N o i 14 = N 14 + 1 := by rw [sp_step, sp_un (by decide), sp_us]
      have h15 : sp_step N o i 15 = N 15 + N (220 + 7 * o + 6) := by rw [sp_step, sp_us]
      obtain ⟨k1, k2⟩ := ih c' (sp_step N o i) (by omega) hv' ⟨⟨f, hf, by rw [hsx _ (by omega) (by omega)]; exact hg0⟩, by rw [hsx _ (by omega) (by omega)]; exact hfe⟩ (by simp only [sp_step, hsc]; rw [sp_un (by omega), sp_un (by omega), sp_us, hw, nI_pred])
      rw [sp_cf1 hb (by omega)]
      refine ⟨?_, ?_⟩
      · show (sp_cf o n (sp_step N o i)).1 14 = N 14 + nI ((sp_cf o n (sp_step N o i)).2 + 1)
        rw [k1, h14, nI_succ]; grind
      · show (sp_cf o n (sp_step N o i)).1 15 = N 15 + nI ((sp_cf o n (sp_step N o i)).2 + 1) * _
        rw [k2, h15, nI_succ, hsx _ (by omega) (by omega)]; grind
end CU
section CV
variable {w : rk_W} {l : Launch} {Sh : rk_Sh} {rg : Nat → Nat} {I : rk_Mm} {R : rk_Rm} {y t : Nat} {N : Nat → Int32} {T : Int}
theorem rk_par {k : Nat} (hk : k ≤ 201) : nI k - nI k / 2 * 2 = nI (k % 2) ∧ (nI k - nI k / 2 * 2 = 0 ∨ nI k - nI k / 2 * 2 = 1) := by
  have e : nI k - nI k / 2 * 2 = nI (k % 2) := pk_rem (d := 2) (by omega) (by decide) (by decide)
  refine ⟨e, ?_⟩
  rw [e]
  rcases Nat.mod_two_eq_zero_or_one k with h | h <;> rw [h]
  · exact Or.inl rfl
  · exact Or.inr rfl
theorem cX9_takeOrder_s (hv : sp_iv T N) (h : cl_y rg I R y t N) (f st ft mn tr pr : Int32) : rk_J w l rk_mX9_takeOrder 3 [rk_a 10 y, rk_i f, rk_i st, rk_i ft, rk_i mn, rk_i tr, rk_i pr] Sh I R (cl_Q rg I R y t N (sp_order N f st ft mn tr pr)) := by
  by_cases h9 : 0 ≤ f ∧ f ≤ 2
  · obtain ⟨j, hj, rfl⟩ := rk_in_n (n := 2) rfl (by decide) h9
    have hcl : (nI j).toNatClampNeg = j := nI_clamp (by omega)
    obtain ⟨c, hc2, hc⟩ := hv.c13
    have hcc : sp_c N 13 = c := sp_cN hc (by omega)
    have h3 : I 10 y 3 = N 10 := h.2.2.2.2.1
    have h1 : I 1 (R 10 y 2) 1 = N 13 := h.2.2.2.1.1
    have hbad : ¬ sp_orok st ft mn tr pr → sp_order N (nI j) st ft mn tr pr = (-2, none) := fun z => by unfold sp_order; rw [if_pos h9, if_neg z]
    have hful : sp_orok st ft mn tr pr → N 13 = 16 → sp_order N (nI j) st ft mn tr pr = (-4, none) := fun z z2 => by unfold sp_order; rw [if_pos h9, if_pos z, if_pos z2]
    have hgood : sp_orok st ft mn tr pr → ¬ N 13 = 16 → sp_order N (nI j) st ft mn tr pr = (N 13 + 1 - 1, some (sp_orderN N j c st ft mn tr pr)) := fun z z2 => by unfold sp_order; rw [if_pos h9, if_pos z, if_neg z2, hcl, hcc]
    have h16 : N 13 = 16 ↔ 16 ≤ N 13 := by
      rw [hc]
      refine ⟨fun z => by rw [z]; exact Int32.le_refl _, fun z => ?_⟩
      have : 16 ≤ c := (nI_leI (a := 16) (by decide) (by omega)).mp z
      rw [show c = 16 by omega]; rfl
    have hfull := cX0_isFull_s (w := w) (l := l) (Sh := Sh) (I := I) (R := R) (q := R 10 y 2)
    rw [h1] at hfull
    have hpar : (0 ≤ tr ∧ tr ≤ 201) → (tr - tr / 2 * 2 = 0 ∨ tr - tr / 2 * 2 = 1) := fun z => by
      obtain ⟨k, hk, rfl⟩ := rk_in_n (n := 201) rfl (by decide) z
      exact (rk_par hk).2
    refine rk_bJ (ls := [(0, _), (1, _), (2, _), (3, _), (4, _), (5, _), (6, _)]) (by decide) rfl (Nat.le_of_ble_eq_true rfl) ?_
    refine rk_iload_n 1 dX9_takeOrder_0 rfl rfl ?_
    refine rk_cSNp (cX10_isFibre_s) rk_eX10_isFibre rfl rk_nX9_72 dX9_takeOrder_1 rfl (by decide) (Nat.le_of_ble_eq_true rfl) ⟨Nat.le_refl _, Nat.le_refl _⟩ ?_
    refine rk_if_ne 9 dX9_takeOrder_4 (by decide) (fun qz4 => ?_) (fun qz4 => ?_)
    · skip
      refine rk_iload_n 2 dX9_takeOrder_9 rfl rfl ?_
      refine rk_iconst 1 dX9_takeOrder_10 (by decide) ?_
      refine rk_ldc 50000 dX9_takeOrder_11 (by first | exact rk_inT 606 (by decide +kernel) (by decide +kernel)) ?_
      refine rk_cSNp (cX10_inRange_s _ _ _) rk_eX10_inRange rfl rk_nX9_58 dX9_takeOrder_13 rfl (by decide) (Nat.le_of_ble_eq_true rfl) ⟨Nat.le_refl _, Nat.le_refl _⟩ ?_
      refine rk_pc (pc' := 16) rfl ?_
      refine rk_if_eq 64 dX9_takeOrder_16 (by decide) (fun qz16 => ?_) (fun qz16 => ?_)
      · skip
        refine rk_bipush (-2) dX9_takeOrder_64 (by decide) ?_
        refine rk_iretJ dX9_takeOrder_66 rfl rfl ?_
        first | exact cl_Q0 h (hbad (fun z => sp_bf qz16 z.1)) | exact cl_Q0 h (hbad (fun z => sp_bf qz27 z.2.1)) | exact cl_Q0 h (hbad (fun z => sp_bf qz38 z.2.2.1)) | exact cl_Q0 h (hbad (fun z => sp_bf qz50 z.2.2.2.1)) | exact cl_Q0 h (hbad (fun z => sp_bf qz61 z.2.2.2.2))
      · skip
        refine rk_iload_n 3 dX9_takeOrder_19 rfl rfl ?_
        refine rk_iconst 1 dX9_takeOrder_20 (by decide) ?_
        refine rk_sipush 500 dX9_takeOrder_21 (by decide) ?_
        refine rk_cSNp (cX10_inRange_s _ _ _) rk_eX10_inRange rfl rk_nX9_58 dX9_takeOrder_24 rfl (by decide) (Nat.le_of_ble_eq_true rfl) ⟨Nat.le_refl _, Nat.le_refl _⟩ ?_
        refine rk_if_eq 64 dX9_takeOrder_27 (by decide) (fun qz27 => ?_) (fun qz27 => ?_)
        · skip
          refine rk_bipush (-2) dX9_takeOrder_64 (by decide) ?_
          refine rk_pc (pc' := 66) rfl ?_
          refine rk_iretJ dX9_takeOrder_66 rfl rfl ?_
          first | exact cl_Q0 h (hbad (fun z => sp_bf qz16 z.1)) | exact cl_Q0 h (hbad (fun z => sp_bf qz27 z.2.1)) | exact cl_Q0 h (hbad (fun z => sp_bf qz38 z.2.2.1)) | exact cl_Q0 h (hbad (fun z => sp_bf qz50 z.2.2.2.1)) | exact cl_Q0 h (hbad (fun z => sp_bf qz61 z.2.2.2.2))
        · skip
          refine rk_iload dX9_takeOrder_30 rfl ?_
          refine rk_iconst 1 dX9_takeOrder_32 (by decide) ?_
          refine rk_bipush 20 dX9_takeOrder_33 (by decide) ?_
          refine rk_cSNp (cX10_inRange_s _ _ _) rk_eX10_inRange rfl rk_nX9_58 dX9_takeOrder_35 rfl (by decide) (Nat.le_of_ble_eq_true rfl) ⟨Nat.le_refl _, Nat.le_refl _⟩ ?_
          refine rk_if_eq 64 dX9_takeOrder_38 (by decide) (fun qz38 => ?_) (fun qz38 => ?_)
          · skip
            refine rk_bipush (-2) dX9_takeOrder_64 (by decide) ?_
            refine rk_iretJ dX9_takeOrder_66 rfl rfl ?_
            first | exact cl_Q0 h (hbad (fun z => sp_bf qz16 z.1)) | exact cl_Q0 h (hbad (fun z => sp_bf qz27 z.2.1)) | exact cl_Q0 h (hbad (fun z => sp_bf qz38 z.2.2.1)) | exact cl_Q0 h (hbad (fun z => sp_bf qz50 z.2.2.2.1)) | exact cl_Q0 h (hbad (fun z => sp_bf qz61 z.2.2.2.2))
          · skip
            refine rk_iload dX9_takeOrder_41 rfl ?_
            refine rk_pc (pc' := 43) rfl ?_
            refine rk_iconst 0 dX9_takeOrder_43 (by decide) ?_
            refine rk_sipush 201 dX9_takeOrder_44 (by decide) ?_
            refine rk_cSNp (cX10_inRange_s _ _ _) rk_eX10_inRange rfl rk_nX9_58 dX9_takeOrder_47 rfl (by decide) (Nat.le_of_ble_eq_true rfl) ⟨Nat.le_refl _, Nat.le_refl _⟩ ?_
            refine rk_if_eq 64 dX9_takeOrder_50 (by decide) (fun qz50 => ?_) (fun qz50 => ?_)
            · skip
              refine rk_bipush (-2) dX9_takeOrder_64 (by decide) ?_
              refine rk_iretJ dX9_takeOrder_66 rfl rfl ?_
              first | exact cl_Q0 h (hbad (fun z => sp_bf qz16 z.1)) | exact cl_Q0 h (hbad (fun z => sp_bf qz27 z.2.1)) | exact cl_Q0 h (hbad (fun z => sp_bf qz38 z.2.2.1)) | exact cl_Q0 h (hbad (fun z => sp_bf qz50 z.2.2.2.1)) | exact cl_Q0 h (hbad (fun z => sp_bf qz61 z.2.2.2.2))
            · skip
              refine rk_iload dX9_takeOrder_53 rfl ?_
              refine rk_iconst 0 dX9_takeOrder_55 (by decide) ?_
              refine rk_pc (pc' := 56) rfl ?_
              refine rk_ldc 100000 dX9_takeOrder_56 (by first | exact rk_inT 607 (by decide +kernel) (by decide +kernel)) ?_
              refine rk_cSNp (cX10_inRange_s _ _ _) rk_eX10_inRange rfl rk_nX9_58 dX9_takeOrder_58 rfl (by decide) (Nat.le_of_ble_eq_true rfl) ⟨Nat.le_refl _, Nat.le_refl _⟩ ?_
              refine rk_if_ne 67 dX9_takeOrder_61 (by decide) (fun qz61 => ?_) (fun qz61 => ?_)
              · skip
                refine rk_aload_n 0 dX9_takeOrder_67 rfl rfl ?_
                refine rk_g10_2 rk_kX9_28 dX9_takeOrder_68 ?_
                refine rk_cVp (hfull) rk_eX0_isFull rfl ⟨rfl, rfl⟩ rk_kX9_157 dX9_takeOrder_71 rfl (by decide) (Nat.le_of_ble_eq_true rfl) ⟨Nat.le_refl _, Nat.le_refl _⟩ ?_
                refine rk_if_eq 80 dX9_takeOrder_74 (by decide) (fun qz74 => ?_) (fun qz74 => ?_)
                · skip
                  have hok : sp_orok st ft mn tr pr := ⟨sp_bt qz16, sp_bt qz27, sp_bt qz38, sp_bt qz50, sp_bt qz61⟩
                  have hlt : c < 16 := Nat.lt_of_le_of_ne hc2 (fun z => (sp_bf qz74) (h16.mp (by rw [hc, z]; rfl)))
                  refine rk_aload_n 0 dX9_takeOrder_80 rfl rfl ?_
                  refine rk_pc (pc' := 81) rfl ?_
                  refine rk_g10_2 rk_kX9_28 dX9_takeOrder_81 ?_
                  refine rk_g1_0 rk_kX9_158 dX9_takeOrder_84 ?_
                  refine rk_aload_n 0 dX9_takeOrder_87 rfl rfl ?_
                  refine rk_g10_2 rk_kX9_28 dX9_takeOrder_88 ?_
                  refine rk_g1_1 rk_kX9_162 dX9_takeOrder_91 ?_
                  rw [h1, hc]
                  refine rk_rn13 (c) dX9_takeOrder_94 (by first | rfl | decide | assumption | (simp only [rk_lit, nI_add, pk_mul, nI_1]; done) | (simp only [rk_lit, nI_add, pk_mul, nI_1]; congr 1; omega)) (by first | decide | assumption | omega) ?_
                  refine rk_pc (pc' := 95) rfl ?_
                  refine rk_astore (ls' := [(7, _), (0, _), (1, _), (2, _), (3, _), (4, _), (5, _), (6, _)]) dX9_takeOrder_95 (by decide) rfl ?_
                  refine rk_aload dX9_takeOrder_97 rfl ?_
                  refine rk_iload_n 1 dX9_takeOrder_99 rfl rfl ?_
                  refine rk_p3_0 rk_kX9_165 dX9_takeOrder_100 (fun Iz1 eIz1 => ?_)
                  refine rk_aload dX9_takeOrder_103 rfl ?_
                  refine rk_iload_n 2 dX9_takeOrder_105 rfl rfl ?_
                  refine rk_pc (pc' := 106) rfl ?_
                  refine rk_p3_1 rk_kX9_170 dX9_takeOrder_106 (fun Iz2 eIz2 => ?_)
                  refine rk_aload dX9_takeOrder_109 rfl ?_
                  refine rk_iload_n 3 dX9_takeOrder_111 rfl rfl ?_
                  refine rk_p3_2 rk_kX9_173 dX9_takeOrder_112 (fun Iz3 eIz3 => ?_)
                  refine rk_aload dX9_takeOrder_115 rfl ?_
                  refine rk_iload dX9_takeOrder_117 rfl ?_
                  refine rk_pc (pc' := 119) rfl ?_
                  refine rk_p3_3 rk_kX9_174 dX9_takeOrder_119 (fun Iz4 eIz4 => ?_)
                  refine rk_aload dX9_takeOrder_122 rfl ?_
                  refine rk_iload dX9_takeOrder_124 rfl ?_
                  refine rk_iconst 2 dX9_takeOrder_126 (by decide) ?_
                  refine rk_irem dX9_takeOrder_127 (by decide) ?_
                  refine rk_iconst 1 dX9_takeOrder_128 (by decide) ?_
                  refine rk_pc (pc' := 129) rfl ?_
                  refine rk_icmp_ne 136 dX9_takeOrder_129 (by decide) (fun qz129 => ?_) (fun qz129 => ?_)
                  · skip
                    refine rk_iconst 0 dX9_takeOrder_136 (by decide) ?_
                    refine rk_p3_4 rk_kX9_177 (by decide) dX9_takeOrder_137 (fun Iz5 eIz5 => ?_)
                    refine rk_aload dX9_takeOrder_140 rfl ?_
                    refine rk_aload_n 0 dX9_takeOrder_142 rfl rfl ?_
                    refine rk_g10_3 rk_kX9_42 dX9_takeOrder_143 ?_
                    rw [rk_ufc eIz5 (by decide), rk_ufc eIz4 (by decide), rk_ufc eIz3 (by decide), rk_ufc eIz2 (by decide), rk_ufc eIz1 (by decide), h3]
                    refine rk_iload dX9_takeOrder_146 rfl ?_
                    refine rk_pc (pc' := 148) rfl ?_
                    refine rk_iconst 2 dX9_takeOrder_148 (by decide) ?_
                    refine rk_idiv dX9_takeOrder_149 (by decide) ?_
                    refine rk_iadd dX9_takeOrder_150 ?_
                    refine rk_p3_5 rk_kX9_181 dX9_takeOrder_151 (fun Iz6 eIz6 => ?_)
                    refine rk_aload dX9_takeOrder_154 rfl ?_
                    refine rk_iload dX9_takeOrder_156 rfl ?_
                    refine rk_pc (pc' := 158) rfl ?_
                    refine rk_p3_6 rk_kX9_184 dX9_takeOrder_158 (fun Iz7 eIz7 => ?_)
                    refine rk_aload_n 0 dX9_takeOrder_161 rfl rfl ?_
                    refine rk_g10_2 rk_kX9_28 dX9_takeOrder_162 ?_
                    refine rk_dup dX9_takeOrder_165 rfl ?_
                    refine rk_g1_1 rk_kX9_162 dX9_takeOrder_166 ?_
                    rw [rk_ufc eIz7 (by decide), rk_ufc eIz6 (by decide), rk_ufc eIz5 (by decide), rk_ufc eIz4 (by decide), rk_ufc eIz3 (by decide), rk_ufc eIz2 (by decide), rk_ufc eIz1 (by decide), h1]
                    refine rk_iconst 1 dX9_takeOrder_169 (by decide) ?_
                    refine rk_pc (pc' := 170) rfl ?_
                    refine rk_iadd dX9_takeOrder_170 ?_
                    refine rk_p1_1 rk_kX9_162 dX9_takeOrder_171 (fun Iz8 eIz8 => ?_)
                    refine rk_aload_n 0 dX9_takeOrder_174 rfl rfl ?_
                    refine rk_g10_2 rk_kX9_28 dX9_takeOrder_175 ?_
                    refine rk_g1_1 rk_kX9_162 dX9_takeOrder_178 ?_
                    rw [rk_ufs eIz8]
                    refine rk_iconst 1 dX9_takeOrder_181 (by decide) ?_
                    refine rk_pc (pc' := 182) rfl ?_
                    refine rk_isub dX9_takeOrder_182 ?_
                    refine rk_iretJ dX9_takeOrder_183 rfl rfl ?_
                    have g := cl_order (tr := tr) h.1.2.2.2 h.2.2.2.1 hc hlt (by first | exact qz129.symm | exact ((hpar (sp_bt qz50)).resolve_right qz129).symm) (by first | exact Or.inl rfl | exact Or.inr rfl) eIz1 eIz2 eIz3 eIz4 eIz5 eIz6 eIz7 eIz8
                    refine cl_Q1 (hgood hok (fun z => sp_bf qz74 (h16.mp z))) (g.2.mo (fun z hz => by omega)) (h.bk hv.c12 g.1 h.1.2.2.2 g.2 (fun k hk => sp_ord_x (by omega) (by omega)))
                  · skip
                    refine rk_iconst 1 dX9_takeOrder_132 (by decide) ?_
                    refine rk_goto 137 dX9_takeOrder_133 (by decide) ?_
                    refine rk_p3_4 rk_kX9_177 (by decide) dX9_takeOrder_137 (fun Iz5 eIz5 => ?_)
                    refine rk_aload dX9_takeOrder_140 rfl ?_
                    refine rk_aload_n 0 dX9_takeOrder_142 rfl rfl ?_
                    refine rk_pc (pc' := 143) rfl ?_
                    refine rk_g10_3 rk_kX9_42 dX9_takeOrder_143 ?_
                    rw [rk_ufc eIz5 (by decide), rk_ufc eIz4 (by decide), rk_ufc eIz3 (by decide), rk_ufc eIz2 (by decide), rk_ufc eIz1 (by decide), h3]
                    refine rk_iload dX9_takeOrder_146 rfl ?_
                    refine rk_iconst 2 dX9_takeOrder_148 (by decide) ?_
                    refine rk_idiv dX9_takeOrder_149 (by decide) ?_
                    refine rk_iadd dX9_takeOrder_150 ?_
                    refine rk_p3_5 rk_kX9_181 dX9_takeOrder_151 (fun Iz6 eIz6 => ?_)
                    refine rk_pc (pc' := 154) rfl ?_
                    refine rk_aload dX9_takeOrder_154 rfl ?_
                    refine rk_iload dX9_takeOrder_156 rfl ?_
                    refine rk_p3_6 rk_kX9_184 dX9_takeOrder_158 (fun Iz7 eIz7 => ?_)
                    refine rk_aload_n 0 dX9_takeOrder_161 rfl rfl ?_
                    refine rk_g10_2 rk_kX9_28 dX9_takeOrder_162 ?_
                    refine rk_dup dX9_takeOrder_165 rfl ?_
                    refine rk_pc (pc' := 166) rfl ?_
                    refine rk_g1_1 rk_kX9_162 dX9_takeOrder_166 ?_
                    rw [rk_ufc eIz7 (by decide), rk_ufc eIz6 (by decide), rk_ufc eIz5 (by decide), rk_ufc eIz4 (by decide), rk_ufc eIz3 (by decide), rk_ufc eIz2 (by decide), rk_ufc eIz1 (by decide), h1]
                    refine rk_iconst 1 dX9_takeOrder_169 (by decide) ?_
                    refine rk_iadd dX9_takeOrder_170 ?_
                    refine rk_p1_1 rk_kX9_162 dX9_takeOrder_171 (fun Iz8 eIz8 => ?_)
                    refine rk_aload_n 0 dX9_takeOrder_174 rfl rfl ?_
                    refine rk_g10_2 rk_kX9_28 dX9_takeOrder_175 ?_
                    refine rk_pc (pc' := 178) rfl ?_
                    refine rk_g1_1 rk_kX9_162 dX9_takeOrder_178 ?_
                    rw [rk_ufs eIz8]
                    refine rk_iconst 1 dX9_takeOrder_181 (by decide) ?_
                    refine rk_isub dX9_takeOrder_182 ?_
                    refine rk_iretJ dX9_takeOrder_183 rfl rfl ?_
                    have g := cl_order (tr := tr) h.1.2.2.2 h.2.2.2.1 hc hlt (by first | exact qz129.symm | exact ((hpar (sp_bt qz50)).resolve_right qz129).symm) (by first | exact Or.inl rfl | exact Or.inr rfl) eIz1 eIz2 eIz3 eIz4 eIz5 eIz6 eIz7 eIz8
                    refine cl_Q1 (hgood hok (fun z => sp_bf qz74 (h16.mp z))) (g.2.mo (fun z hz => by omega)) (h.bk hv.c12 g.1 h.1.2.2.2 g.2 (fun k hk => sp_ord_x (by omega) (by omega)))
                · skip
                  refine rk_bipush (-4) dX9_takeOrder_77 (by decide) ?_
                  refine rk_iretJ dX9_takeOrder_79 rfl rfl ?_
                  exact cl_Q0 h (hful ⟨sp_bt qz16, sp_bt qz27, sp_bt qz38, sp_bt qz50, sp_bt qz61⟩ (h16.mpr (sp_bt qz74)))
              · skip
                refine rk_bipush (-2) dX9_takeOrder_64 (by decide) ?_
                refine rk_iretJ dX9_takeOrder_66 rfl rfl ?_
                first | exact cl_Q0 h (hbad (fun z => sp_bf qz16 z.1)) | exact cl_Q0 h (hbad (fun z => sp_bf qz27 z.2.1)) | exact cl_Q0 h (hbad (fun z => sp_bf qz38 z.2.2.1)) | exact cl_Q0 h (hbad (fun z => sp_bf qz50 z.2.2.2.1)) | exact cl_Q0 h (hbad (fun z => sp_bf qz61 z.2.2.2.2))
    · skip
      exact absurd h9 (sp_bf qz4)
  · skip
    refine rk_bJ (ls := [(0, _), (1, _), (2, _), (3, _), (4, _), (5, _), (6, _)]) (by decide) rfl (Nat.le_of_ble_eq_true rfl) ?_
    refine rk_iload_n 1 dX9_takeOrder_0 rfl rfl ?_
    refine rk_cSNp (cX10_isFibre_s) rk_eX10_isFibre rfl rk_nX9_72 dX9_takeOrder_1 rfl (by decide) (Nat.le_of_ble_eq_true rfl) ⟨Nat.le_refl _, Nat.le_refl _⟩ ?_
    refine rk_if_ne 9 dX9_takeOrder_4 (by decide) (fun qz4 => ?_) (fun qz4 => ?_)
    · skip
      exact absurd (sp_bt qz4) h9
    · skip
      refine rk_iconst (-1) dX9_takeOrder_7 (by decide) ?_
      refine rk_iretJ dX9_takeOrder_8 rfl rfl ?_
      exact cl_Q0 h (by unfold sp_order; rw [if_neg h9])
theorem cl_fillY {I1 I2 I3 I4 : rk_Mm} {R1 : rk_Rm} {X M : Nat → Int32} {i c : Nat} (X0 : cl_y rg I1 R1 y t X) (x12 : ∃ c, c ≤ 24 ∧ X 12 = nI c) (x13 : X 13 = nI c) (hc2 : c ≤ 16) (hi : i < c)
    (e2 : I2 = rk_uI I1 10 y 5 (M 14)) (e3 : I3 = rk_uI I2 10 y 6 (M 15)) (e4 : I4 = rk_uI I3 3 (R1 13 (R1 1 (R1 10 y 2) 0) i) 3 (M (220 + 7 * i + 3)))
    (hXM : ∀ j, j < 332 → j ≠ 14 → j ≠ 15 → j ≠ 220 + 7 * i + 3 → M j = X j) : cl_y rg I4 R1 y t M ∧ cl_fr rg (fun z => z / 4 = t) I1 R1 I4 R1 := by
  have y2 := X0.u (j := 5) (m := 14) (v := M 14) x12 ⟨c, hc2, x13⟩ (by omega) (fun z => absurd z (by decide))
  rw [← e2] at y2
  have y3 := y2.u (j := 6) (m := 15) (v := M 15) (by rw [sp_un (by decide)]; exact x12) ⟨c, hc2, by rw [sp_un (by decide)]; exact x13⟩ (by omega) (fun z => absurd z (by decide))
  rw [← e3] at y3
  have b4 := y3.2.2.2.1.up (c := c) (i := i) (k := 3) (v := M (220 + 7 * i + 3)) y3.1.2.2.2 (by rw [sp_un (by decide), sp_un (by decide)]; exact x13) hc2 hi (by decide) (by decide)
  rw [← e4] at b4
  have hr3 : rg (R1 13 (R1 1 (R1 10 y 2) 0) i) = 4 * t + 3 := X0.1.2.2.2.2.2.1 i (by omega)
  have g4 : cl_fr rg (fun z => z = 4 * t + 3) I3 R1 I4 R1 := by rw [e4]; exact cl_fr.ui hr3
  have y4 := y3.bk (by rw [sp_un (by decide), sp_un (by decide)]; exact x12) b4 y3.1.2.2.2 g4 (fun j hj => sp_un (by omega))
  refine ⟨y4.cg (by rw [sp_un (by omega), sp_un (by decide), sp_un (by decide)]; exact x12) ⟨c, hc2, by rw [sp_un (by omega), sp_un (by decide), sp_un (by decide)]; exact x13⟩ (fun j hj => ?_), ?_⟩
  · by_cases j3 : j = 220 + 7 * i + 3
    · subst j3; rw [sp_us]
    · rw [sp_un j3]
      by_cases j15 : j = 15
      · subst j15; rw [sp_us]
      · rw [sp_un j15]
        by_cases j14 : j = 14
        · subst j14; rw [sp_us]
        · rw [sp_un j14]; exact hXM j hj j14 j15 j3
  · have hy : rg y / 4 = t := by rw [X0.1.1]; omega
    have g2 : cl_fr rg (fun z => z / 4 = t) I1 R1 I2 R1 := by rw [e2]; exact cl_fr.ui hy
    have g3 : cl_fr rg (fun z => z / 4 = t) I2 R1 I3 R1 := by rw [e3]; exact cl_fr.ui hy
    exact (g2.tr g3).tr (g4.mo (fun z hz => by omega))
theorem cl_goneO {I4 I5 : rk_Mm} {R1 R5 : rk_Rm} {M : Nat → Int32} {i c : Nat} (Y : cl_y rg I4 R1 y t M) (x12 : ∃ c, c ≤ 24 ∧ M 12 = nI c) (x13 : M 13 = nI c) (hc2 : c ≤ 16) (hi : i < c)
    (e5 : I5 = rk_uI I4 1 (R1 10 y 2) 1 (nI (c - 1))) (eR : R5 = md_r R1 13 (R1 1 (R1 10 y 2) 0) (fun z => R1 13 (R1 1 (R1 10 y 2) 0) (cl_sg i c z))) : cl_y rg I5 R5 y t (sp_gone M 13 220 i) ∧ cl_fr rg (fun z => z / 4 = t) I4 R1 I5 R5 := by
  have b2 := Y.2.2.2.1.rm x13 hc2 hi
  rw [← e5, ← eR] at b2
  have s2 := Y.1.2.2.2.rm hc2 hi
  rw [← eR] at s2
  have g2 : cl_fr rg (fun z => z = 4 * t + 3) I4 R1 I5 R5 := by rw [e5, eR]; exact (cl_fr.ui (S := fun z => z = 4 * t + 3) Y.1.2.2.2.1).tr (cl_fr.mr (S := fun z => z = 4 * t + 3) Y.1.2.2.2.2.1 (Or.inl rfl))
  exact ⟨Y.bk x12 b2 s2 g2 (fun k hk => sp_gone_x x13 (by omega) (by omega) (by omega)), g2.mo (fun z hz => by omega)⟩
theorem cX9_fillOrder_s (hv : sp_iv T N) (h : cl_y rg I R y t N) (x : Int32) : rk_J w l rk_mX9_fillOrder 6 [rk_a 10 y, rk_i x] Sh I R (cl_Q rg I R y t N (sp_fill N x)) := by
  obtain ⟨c, hc2, hc, ho3⟩ := hv.2.1
  obtain ⟨pc, hpv⟩ := hv.1
  have hcc : sp_c N 13 = c := sp_cN hc (by omega)
  have h1 : I 1 (R 10 y 2) 1 = N 13 := h.2.2.2.1.1
  by_cases hp : sp_isor N x
  · obtain ⟨i, hi, rfl⟩ := sp_isor_n hp hc hc2
    have ci : (nI i).toNatClampNeg = i := nI_clamp (by omega)
    have hP := h.2.2.2.1.2.1 i (by omega)
    obtain ⟨hov, ⟨n, hn1, hn2, hn3⟩, -⟩ := ho3 i hi
    have hsn : sp_c N (220 + 7 * i + 3) = n := sp_cN hn3 (by omega)
    have hbad : sp_bq N i < 0 → sp_fill N (nI i) = (-5, none) := fun z => by unfold sp_fill; rw [if_pos hp, ci, if_pos z]
    have hgood : ¬ sp_bq N i < 0 → sp_fill N (nI i) = (nI (sp_cf i n N).2, some (if (sp_cf i n N).1 (220 + 7 * i + 3) = 0 then sp_gone (sp_cf i n N).1 13 220 i else (sp_cf i n N).1)) := fun z => by unfold sp_fill; rw [if_pos hp, ci, if_neg z, hsn]; rfl
    have h6 : 1 ≤ N 6 := (hv.2.2.2.1 6 (by decide)).1
    have hrO : rg (R 13 (R 1 (R 10 y 2) 0) i) = 4 * t + 3 := h.1.2.2.2.2.2.1 i (by omega)
    have hcf := cX7_cutFor_s (w := w) (l := l) (Sh := Sh) (o := R 13 (R 1 (R 10 y 2) 0) i) h.1.2.1 (show 4 * t + 1 ≠ 4 * t + 2 by omega) (by rw [hrO]; omega) (by omega) (by omega) hpv hov hn3 hP (h.2.2.2.1.2.2 i (by omega)) h.2.1 h6 h.2.2.1
    obtain ⟨inv1, ⟨c', hc', inv2⟩, inv3, inv4⟩ := sp_cf_inv (o := i) (by omega) n pc N (by omega) hpv hov hn3
    obtain ⟨m14, m15⟩ := sp_cf_m (o := i) (by omega) n pc N (by omega) hpv hov hn3
    have hz0 : (sp_cf i n N).2 = 0 → sp_bq N i < 0 := by
      intro z
      rcases sp_bq_in (o := i) hpv with hb | ⟨q, hq, hb, -⟩
      · rw [hb]; exact rk_n6
      · exfalso
        obtain ⟨m, rfl⟩ : ∃ m, n = m + 1 := ⟨n - 1, by omega⟩
        rw [sp_cf1 hb (by have := hpv.1; omega)] at z
        exact absurd z (Nat.succ_ne_zero _)
    have hbz : sp_bq N i < 0 → (sp_cf i n N).1 = N ∧ (sp_cf i n N).2 = 0 := fun z => by rw [sp_cf0 z]; exact ⟨rfl, rfl⟩
    generalize hM : (sp_cf i n N).1 = M at *
    generalize hk : (sp_cf i n N).2 = k at *
    have hw : N (220 + 7 * i + 3) - nI k = M (220 + 7 * i + 3) := by rw [hn3, inv4, pk_sub inv3]
    have hM13 : M 13 = nI c := (inv1 13 (by omega)).trans hc
    have hM12 : ∃ c, c ≤ 24 ∧ M 12 = nI c := ⟨c', inv2.1, inv2.2.1⟩
    refine rk_bJ (ls := [(0, _), (1, _)]) (by decide) rfl (Nat.le_of_ble_eq_true rfl) ?_
    refine rk_aload_n 0 dX9_fillOrder_0 rfl rfl ?_
    refine rk_g10_2 rk_kX9_28 dX9_fillOrder_1 ?_
    refine rk_iload_n 1 dX9_fillOrder_4 rfl rfl ?_
    refine rk_cVp (cX0_has_n h1) rk_eX0_has rfl ⟨rfl, rfl⟩ rk_kX9_187 dX9_fillOrder_5 rfl (by decide) (Nat.le_of_ble_eq_true rfl) ⟨Nat.le_refl _, Nat.le_refl _⟩ ?_
    refine rk_if_ne 13 dX9_fillOrder_8 (by decide) (fun qz8 => ?_) (fun qz8 => ?_)
    · skip
      refine rk_aload_n 0 dX9_fillOrder_13 rfl rfl ?_
      refine rk_g10_2 rk_kX9_28 dX9_fillOrder_14 ?_
      refine rk_pc (pc' := 17) rfl ?_
      refine rk_g1_0 rk_kX9_158 dX9_fillOrder_17 ?_
      refine rk_iload_n 1 dX9_fillOrder_20 rfl rfl ?_
      refine rk_rn13 (i) dX9_fillOrder_21 (by first | rfl | decide | assumption | (simp only [rk_lit, nI_add, pk_mul, nI_1]; done) | (simp only [rk_lit, nI_add, pk_mul, nI_1]; congr 1; omega)) (by first | decide | assumption | omega) ?_
      refine rk_astore_n 2 (ls' := [(2, _), (0, _), (1, _)]) dX9_fillOrder_22 rfl (by decide) rfl ?_
      refine rk_aload_n 0 dX9_fillOrder_23 rfl rfl ?_
      refine rk_g10_1 rk_kX9_21 dX9_fillOrder_24 ?_
      refine rk_pc (pc' := 27) rfl ?_
      refine rk_aload_n 2 dX9_fillOrder_27 rfl rfl ?_
      refine rk_aload_n 0 dX9_fillOrder_28 rfl rfl ?_
      refine rk_g10_0 rk_kX9_12 dX9_fillOrder_29 ?_
      refine rk_cVi (hcf) rk_eX7_cutFor rfl ⟨rfl, rfl⟩ rk_kX9_188 dX9_fillOrder_32 rfl (by decide) (Nat.le_of_ble_eq_true rfl) ⟨Nat.le_refl _, Nat.le_refl _⟩ (fun xz1 Iz1 Rz1 hz1 => ?_)
      obtain ⟨rfl, st1, fr1⟩ := hz1
      have j10 : Iz1 10 y = I 10 y := fr1.1 10 y (by rw [h.1.1]; omega)
      have j3 : Iz1 3 (R 13 (R 1 (R 10 y 2) 0) i) = I 3 (R 13 (R 1 (R 10 y 2) 0) i) := fr1.1 3 _ (by rw [hrO]; omega)
      have r10 : Rz1 10 = R 10 := fr1.2.2 10 (by decide) (by decide) (by decide)
      have rO : R 13 (R 1 (R 10 y 2) 0) i = Rz1 13 (Rz1 1 (Rz1 10 y 2) 0) i := by rw [r10, fr1.2.2 1 (by decide) (by decide) (by decide), fr1.2.1 13 _ (by rw [h.1.2.2.2.2.1]; omega)]
      have X0 : cl_y rg Iz1 Rz1 y t (sp_u (sp_u (sp_u M 14 (N 14)) 15 (N 15)) (220 + 7 * i + 3) (N (220 + 7 * i + 3))) := by
        refine h.st hv.c13 (st1.c inv2.2.1 inv2.1 (fun j hj => by rw [sp_un (by omega), sp_un (by omega), sp_un (by omega)])) fr1 (fun j hj => ?_)
        by_cases j14 : j = 14
        · subst j14; rw [sp_un (by omega), sp_un (by decide), sp_us]
        · by_cases j15 : j = 15
          · subst j15; rw [sp_un (by omega), sp_us]
          · by_cases j3' : j = 220 + 7 * i + 3
            · subst j3'; rw [sp_us]
            · rw [sp_un j3', sp_un j15, sp_un j14]; exact inv1 j (by omega)
      have x12 : ∃ c, c ≤ 24 ∧ (sp_u (sp_u (sp_u M 14 (N 14)) 15 (N 15)) (220 + 7 * i + 3) (N (220 + 7 * i + 3))) 12 = nI c := ⟨c', inv2.1, by rw [sp_un (by omega), sp_un (by decide), sp_un (by decide)]; exact inv2.2.1⟩
      have x13 : (sp_u (sp_u (sp_u M 14 (N 14)) 15 (N 15)) (220 + 7 * i + 3) (N (220 + 7 * i + 3))) 13 = nI c := by rw [sp_un (by omega), sp_un (by decide), sp_un (by decide)]; exact hM13
      refine rk_istore_n 3 (ls' := [(3, _), (2, _), (0, _), (1, _)]) dX9_fillOrder_35 rfl (by decide) rfl ?_
      refine rk_iload_n 3 dX9_fillOrder_36 rfl rfl ?_
      refine rk_pc (pc' := 37) rfl ?_
      refine rk_if_ne 43 dX9_fillOrder_37 (by decide) (fun qz37 => ?_) (fun qz37 => ?_)
      · skip
        have hbq : ¬ sp_bq N i < 0 := fun z => qz37 (by rw [(hbz z).2]; rfl)
        refine rk_aload_n 0 dX9_fillOrder_43 rfl rfl ?_
        refine rk_dup dX9_fillOrder_44 rfl ?_
        refine rk_g10_5 rk_kX9_49 dX9_fillOrder_45 ?_
        rw [j10, h.2.2.2.2.2.2.1]
        refine rk_iload_n 3 dX9_fillOrder_48 rfl rfl ?_
        refine rk_iadd dX9_fillOrder_49 ?_
        rw [← m14]
        refine rk_p10_5 rk_kX9_49 dX9_fillOrder_50 (fun Iz2 eIz2 => ?_)
        refine rk_pc (pc' := 53) rfl ?_
        refine rk_aload_n 0 dX9_fillOrder_53 rfl rfl ?_
        refine rk_dup dX9_fillOrder_54 rfl ?_
        refine rk_g10_6 rk_kX9_52 dX9_fillOrder_55 ?_
        rw [rk_ufn eIz2 6 (by decide), j10, h.2.2.2.2.2.2.2.1]
        refine rk_iload_n 3 dX9_fillOrder_58 rfl rfl ?_
        refine rk_aload_n 2 dX9_fillOrder_59 rfl rfl ?_
        refine rk_g3_6 rk_kX9_184 dX9_fillOrder_60 ?_
        rw [rk_ufc eIz2 (by decide), j3, hP 6 (by decide)]
        refine rk_pc (pc' := 63) rfl ?_
        refine rk_imul dX9_fillOrder_63 ?_
        refine rk_iadd dX9_fillOrder_64 ?_
        rw [← m15]
        refine rk_p10_6 rk_kX9_52 dX9_fillOrder_65 (fun Iz3 eIz3 => ?_)
        refine rk_aload_n 2 dX9_fillOrder_68 rfl rfl ?_
        refine rk_dup dX9_fillOrder_69 rfl ?_
        refine rk_g3_3 rk_kX9_174 dX9_fillOrder_70 ?_
        rw [rk_ufc eIz3 (by decide), rk_ufc eIz2 (by decide), j3, hP 3 (by decide)]
        refine rk_pc (pc' := 73) rfl ?_
        refine rk_iload_n 3 dX9_fillOrder_73 rfl rfl ?_
        refine rk_isub dX9_fillOrder_74 ?_
        rw [hw]
        refine rk_p3_3 rk_kX9_174 dX9_fillOrder_75 (fun Iz4 eIz4 => ?_)
        have eIz4' : Iz4 = rk_uI Iz3 3 (Rz1 13 (Rz1 1 (Rz1 10 y 2) 0) i) 3 (M (220 + 7 * i + 3)) := by rw [← rO]; exact eIz4
        have Y4 := cl_fillY X0 x12 x13 hc2 hi eIz2 eIz3 eIz4' (fun j hj j14 j15 j3' => by rw [sp_un j3', sp_un j15, sp_un j14])
        refine rk_aload_n 2 dX9_fillOrder_78 rfl rfl ?_
        refine rk_g3_3 rk_kX9_174 dX9_fillOrder_79 ?_
        rw [rk_ufs eIz4]
        refine rk_if_ne 93 dX9_fillOrder_82 (by decide) (fun qz82 => ?_) (fun qz82 => ?_)
        · skip
          refine rk_iload_n 3 dX9_fillOrder_93 rfl rfl ?_
          refine rk_pc (pc' := 94) rfl ?_
          refine rk_iretJ dX9_fillOrder_94 rfl rfl ?_
          first | (refine cl_Q1 ((hgood hbq).trans (by rw [if_neg qz82])) ((fr1.mo (fun z hz => by omega)).tr Y4.2) Y4.1; done) | (have Y5 := cl_goneO Y4.1 hM12 hM13 hc2 hi eIz5 eRz5; exact cl_Q1 ((hgood hbq).trans (by rw [if_pos qz82])) (((fr1.mo (fun z hz => by omega)).tr Y4.2).tr Y5.2) Y5.1)
        · skip
          refine rk_aload_n 0 dX9_fillOrder_85 rfl rfl ?_
          refine rk_g10_2 rk_kX9_28 dX9_fillOrder_86 ?_
          refine rk_iload_n 1 dX9_fillOrder_89 rfl rfl ?_
          refine rk_cVv (cX0_remove_s (c := c) hc2 hi (Y4.1.2.2.2.1.1.trans hM13)) rk_eX0_remove rfl ⟨rfl, rfl⟩ rk_kX9_192 dX9_fillOrder_90 rfl (by decide) (Nat.le_of_ble_eq_true rfl) ⟨Nat.le_refl _, Nat.le_refl _⟩ (fun Iz5 Rz5 hz5 => ?_)
          obtain ⟨eIz5, eRz5⟩ := hz5
          refine rk_iload_n 3 dX9_fillOrder_93 rfl rfl ?_
          refine rk_iretJ dX9_fillOrder_94 rfl rfl ?_
          first | (refine cl_Q1 ((hgood hbq).trans (by rw [if_neg qz82])) ((fr1.mo (fun z hz => by omega)).tr Y4.2) Y4.1; done) | (have Y5 := cl_goneO Y4.1 hM12 hM13 hc2 hi eIz5 eRz5; exact cl_Q1 ((hgood hbq).trans (by rw [if_pos qz82])) (((fr1.mo (fun z hz => by omega)).tr Y4.2).tr Y5.2) Y5.1)
      · skip
        refine rk_bipush (-5) dX9_fillOrder_40 (by decide) ?_
        refine rk_pc (pc' := 42) rfl ?_
        refine rk_iretJ dX9_fillOrder_42 rfl rfl ?_
        have hk0 : k = 0 := (nI_eq (by omega) (by decide)).mp (qz37.trans nI_0.symm)
        obtain ⟨rfl, -⟩ := hbz (hz0 hk0)
        exact ⟨by rw [hbad (hz0 hk0)], fr1.mo (fun z hz => by omega), by rw [hbad (hz0 hk0)]; exact h.st hv.c13 st1 fr1 (fun j hj => rfl)⟩
    · skip
      exact absurd hp (sp_bf qz8)
  · have hno : sp_fill N x = (-1, none) := by unfold sp_fill; rw [if_neg hp]
    refine rk_bJ (ls := [(0, _), (1, _)]) (by decide) rfl (Nat.le_of_ble_eq_true rfl) ?_
    refine rk_aload_n 0 dX9_fillOrder_0 rfl rfl ?_
    refine rk_g10_2 rk_kX9_28 dX9_fillOrder_1 ?_
    refine rk_iload_n 1 dX9_fillOrder_4 rfl rfl ?_
    refine rk_cVp (cX0_has_n h1) rk_eX0_has rfl ⟨rfl, rfl⟩ rk_kX9_187 dX9_fillOrder_5 rfl (by decide) (Nat.le_of_ble_eq_true rfl) ⟨Nat.le_refl _, Nat.le_refl _⟩ ?_
    refine rk_if_ne 13 dX9_fillOrder_8 (by decide) (fun qz8 => ?_) (fun qz8 => ?_)
    · skip
      exact absurd (sp_bt qz8) hp
    · skip
      refine rk_iconst (-1) dX9_fillOrder_11 (by decide) ?_
      refine rk_iretJ dX9_fillOrder_12 rfl rfl ?_
      exact cl_Q0 h hno
end CV

