section DM
variable {w : rk_W} {l : Launch} {Sh : rk_Sh} {I : rk_Mm} {R : rk_Rm}
def cr_n (q : List Int32) : Nat := q.countP cr_kp
theorem cr_bt : ∀ i, i < 5 → (rk_sbyt.getD i []).length = rk_slen.getD i 0 ∧ cr_n (rk_sbyt.getD i []) ≤ 4 ∧ ∀ k, k < rk_slen.getD i 0 → 1 ≤ cr_n ((rk_sbyt.getD i []).drop k) ∧ ¬ (rk_sbyt.getD i []).getD k 0 = 0 := by decide +kernel
theorem cr_vl {P : Nat → Int32} {L : Nat} : ∀ (cs : List Int32) (s : Nat × Bool), (cr_vs P L cs s).length = cr_n cs := by
  intro cs
  induction cs with
  | nil => intro s; rfl
  | cons c cs ih =>
    intro s
    rw [show cr_n (c :: cs) = cr_n cs + (if cr_kp c = true then 1 else 0) from List.countP_cons]
    simp only [cr_vs]
    split
    · rw [List.length_cons, ih]
    · rw [ih]; rfl
theorem cr_po0 {P : Nat → Int32} {L b : Nat} {kd : Int32} {s : Nat × Bool} {J : Nat → Int32} : (po P L kd s J b).2 b = J b := by
  have n1 : ∀ k v K, b ≠ k → sp_u K k v b = K b := fun k v K h => sp_un h
  unfold po
  split
  · exact (n1 _ _ _ (by omega)).trans (n1 _ _ _ (by omega))
  · split
    · exact (n1 _ _ _ (by omega)).trans ((n1 _ _ _ (by omega)).trans ((n1 _ _ _ (by omega)).trans (n1 _ _ _ (by omega))))
    · split
      · exact (n1 _ _ _ (by omega)).trans (n1 _ _ _ (by omega))
      · exact n1 _ _ _ (by omega)
theorem cX5_nextJob_l {r L i : Nat} {kd : Int32} (hl : I 4 (R 6 r 0) 1 = nI L) (hL : L ≤ 80) (hi : i < 5) {Q : Int32 → rk_Mm → rk_Rm → Prop} (X : (Nat × Bool) × Nat × (Nat → Int32)) (hQ : Q (if X.1.2 = true then 0 else 1) (rd_st I r (R 6 r 3) (nI X.1.1) kd (nI X.2.1) X.2.2) R) : ∀ (n k t fd : Nat) (A : Nat → Int32), k + n = rk_slen.getD i 0 → t ≤ L → fd + cr_n ((rk_sbyt.getD i []).drop k) ≤ 4 → X = cr_run (I 15 (R 4 (R 6 r 0) 0)) L ((rk_sbyt.getD i []).drop k) t fd A → rk_Wp w l rk_mX5_nextJob 5 0 0 (rk_GJ w Sh Q) 60 [(0, rk_a 6 r), (1, rk_t i), (2, rk_i (nI k))] [] (Sh, 0, 0) (rd_st I r (R 6 r 3) (nI t) kd (nI fd) A) R := by
  have h8 := rk_slt hi
  obtain ⟨b1, b2, b3⟩ := cr_bt i hi
  intro n
  induction n with
  | zero =>
    intro k t fd A hk ht hf hX
    obtain rfl : k = rk_slen.getD i 0 := by omega
    rw [List.drop_eq_nil_of_le (by omega)] at hX
    subst hX
    refine rk_iload_n 2 dX5_nextJob_60 rfl rfl ?_
    refine rk_aloadT_n 1 dX5_nextJob_61 rfl rfl ?_
    refine rk_cVT hi rfl (cJ0_length_s hi) rk_eJ0_length_8abf5 rfl (by exact rk_inT 777 (by decide +kernel) (by decide +kernel)) dX5_nextJob_62 rfl (by decide) (Nat.le_of_ble_eq_true rfl) ⟨Nat.le_refl _, Nat.le_refl _⟩ ?_
    refine rk_icmp_ge 88 dX5_nextJob_65 (by decide) (fun qz65 => ?_) (fun qz65 => ?_)
    · skip
      refine rk_iconst 1 dX5_nextJob_88 (by decide) ?_
      refine rk_iretJ dX5_nextJob_89 rfl (by decide) ?_
      exact hQ
    · skip
      exact absurd (Int32.le_refl _) qz65
  | succ n ih =>
    intro k t fd A hk ht hf hX
    obtain ⟨b4, b5⟩ := b3 k (by omega)
    rw [dr_c (x := 0) (by omega)] at hX hf
    have hlt : ¬ nI (rk_slen.getD i 0) ≤ nI k := nI_ge (by omega) (by omega)
    obtain ⟨c, hc⟩ : ∃ c, c = (rk_sbyt.getD i []).getD k 0 := ⟨_, rfl⟩
    rw [← hc] at hX b5 hf
    have hf1 : cr_n (c :: (rk_sbyt.getD i []).drop (k + 1)) = cr_n ((rk_sbyt.getD i []).drop (k + 1)) + (if cr_kp c = true then 1 else 0) := List.countP_cons
    have b6 : 1 ≤ cr_n (c :: (rk_sbyt.getD i []).drop (k + 1)) := by rw [hc, ← dr_c (by omega)]; exact b4
    have hch : rk_P w l rk_mJ0_charAt_5068e 4 [rk_t i, rk_i (nI k)] Sh (rd_st I r (R 6 r 3) (nI t) kd (nI fd) A) R c := by rw [hc]; exact cJ0_charAt_s hi (by omega)
    obtain ⟨Q0, hc0, hq0⟩ := cX5_readPart_r (w := w) (l := l) (Sh := Sh) (kd := kd) (A := A) hl ht hL (show fd ≤ 3 by omega) c
    have hle : (cr_p (I 15 (R 4 (R 6 r 0) 0)) L c (t, false)).1.1 ≤ L := cr_le b5 ht
    have hpt := cr_pt (P := I 15 (R 4 (R 6 r 0) 0)) (L := L) (c := c) (t := t)
    have x1 : (cr_p (I 15 (R 4 (R 6 r 0) 0)) L c (t, false)).1.2 = true → X = ((cr_p (I 15 (R 4 (R 6 r 0) 0)) L c (t, false)).1, fd, A) := fun h => hX.trans (if_pos h)
    have x2 : (cr_p (I 15 (R 4 (R 6 r 0) 0)) L c (t, false)).1.2 = false → X = cr_run (I 15 (R 4 (R 6 r 0) 0)) L ((rk_sbyt.getD i []).drop (k + 1)) (cr_p (I 15 (R 4 (R 6 r 0) 0)) L c (t, false)).1.1 (if cr_kp c = true then fd + 1 else fd) (if cr_kp c = true then sp_u A fd (cr_p (I 15 (R 4 (R 6 r 0) 0)) L c (t, false)).2 else A) := fun h => hX.trans (if_neg (by rw [h]; decide))
    generalize cr_p (I 15 (R 4 (R 6 r 0) 0)) L c (t, false) = p at hq0 hle hpt x1 x2
    refine rk_iload_n 2 dX5_nextJob_60 rfl rfl ?_
    refine rk_aloadT_n 1 dX5_nextJob_61 rfl rfl ?_
    refine rk_cVT hi rfl (cJ0_length_s hi) rk_eJ0_length_8abf5 rfl (by exact rk_inT 777 (by decide +kernel) (by decide +kernel)) dX5_nextJob_62 rfl (by decide) (Nat.le_of_ble_eq_true rfl) ⟨Nat.le_refl _, Nat.le_refl _⟩ ?_
    refine rk_icmp_ge 88 dX5_nextJob_65 (by decide) (fun qz65 => ?_) (fun qz65 => ?_)
    · skip
      exact absurd qz65 hlt
    · skip
      refine rk_aload_n 0 dX5_nextJob_68 rfl rfl ?_
      refine rk_aloadT_n 1 dX5_nextJob_69 rfl rfl ?_
      refine rk_iload_n 2 dX5_nextJob_70 rfl rfl ?_
      refine rk_pc (pc' := 71) rfl ?_
      refine rk_cVT hi rfl hch rk_eJ0_charAt_5068e rfl (by exact rk_inT 787 (by decide +kernel) (by decide +kernel)) dX5_nextJob_71 rfl (by decide) (Nat.le_of_ble_eq_true rfl) ⟨Nat.le_refl _, Nat.le_refl _⟩ ?_
      refine rk_cVi (hc0) rk_eX5_readPart rfl ⟨rfl, rfl⟩ rk_kX5_65 dX5_nextJob_74 rfl (by decide) (Nat.le_of_ble_eq_true rfl) ⟨Nat.le_refl _, Nat.le_refl _⟩ (fun xz1 Iz1 Rz1 hz1 => ?_)
      obtain ⟨qhz1, e1, e2⟩ := hq0 _ _ _ hz1
      obtain rfl := qhz1.symm
      subst e1
      subst e2
      refine rk_if_ne 82 dX5_nextJob_77 (by decide) (fun qz77 => ?_) (fun qz77 => ?_)
      · skip
        refine rk_iinc 1 (ls' := [(2, _), (0, _), (1, _)]) dX5_nextJob_82 (by decide) rfl (by decide) rfl ?_
        refine rk_goto 60 dX5_nextJob_85 (by decide) ?_
        refine rk_ord [0, 1, 2] (ls' := [(0, _), (1, _), (2, _)]) rfl ?_
        have hw : p.1.2 = false := by
          cases hh : p.1.2 with
          | false => rfl
          | true => rw [if_pos hh] at qz77; exact absurd rfl qz77
        rw [nI_1]
        have g := ih (k + 1) p.1.1 (if cr_kp c = true then fd + 1 else fd) (if cr_kp c = true then sp_u A fd p.2 else A) (by omega) hle (by rw [hf1] at hf; split <;> (rename_i z; first | rw [if_pos z] at hf | rw [if_neg z] at hf) <;> omega) (x2 hw)
        by_cases hk2 : cr_kp c = true
        · rw [if_pos hk2, if_pos hk2] at g
          rw [if_pos ⟨hk2, hw⟩, if_pos ⟨hk2, hw⟩]
          exact g
        · rw [if_neg hk2, if_neg hk2] at g
          rw [if_neg (fun z => hk2 z.1), if_neg (fun z => hk2 z.1)]
          exact g
      · skip
        refine rk_iconst 0 dX5_nextJob_80 (by decide) ?_
        refine rk_iretJ dX5_nextJob_81 rfl (by decide) ?_
        have hw : p.1.2 = true := Classical.byContradiction fun z => by rw [if_neg z] at qz77; exact absurd qz77 (by decide)
        rw [if_neg (fun z => by rw [hw] at z; cases z.2), if_neg (fun z => by rw [hw] at z; cases z.2)]
        have e := x1 hw
        subst e
        rw [if_pos hw] at hQ
        exact hQ
theorem cX5_nextJob_m {r t L mn : Nat} {kd fd : Int32} {A J : Nat → Int32} (hl : I 4 (R 6 r 0) 1 = nI L) (hL : L ≤ 80) (ht : t ≤ L) {Q : Int32 → rk_Mm → rk_Rm → Prop} (hQ : ∀ kd' fd' A', ((pr (I 15 (R 4 (R 6 r 0) 0)) L t mn J).1.2 = false → pk6 kd' ∧ (pr (I 15 (R 4 (R 6 r 0) 0)) L t mn J).2.2 (5 * mn) = kd' ∧ ∀ j, j < cr_n (cr_tx kd') → A' j = (pr (I 15 (R 4 (R 6 r 0) 0)) L t mn J).2.2 (5 * mn + 1 + j)) → Q (if (pr (I 15 (R 4 (R 6 r 0) 0)) L t mn J).1.2 = true then 0 else 1) (rd_st I r (R 6 r 3) (nI (pr (I 15 (R 4 (R 6 r 0) 0)) L t mn J).1.1) kd' fd' A') R) : rk_Wp w l rk_mX5_nextJob 5 0 0 (rk_GJ w Sh Q) 18 [(0, rk_a 6 r)] [] (Sh, 0, 0) (rd_st I r (R 6 r 3) (nI t) kd fd A) R := by
  have h4 : rd_st I r (R 6 r 3) (nI t) kd fd A 4 (R 6 r 0) 1 = nI L := by rw [rd_rc (by decide) (by decide)]; exact hl
  have h15 : rd_st I r (R 6 r 3) (nI t) kd fd A 15 (R 4 (R 6 r 0) 0) = I 15 (R 4 (R 6 r 0) 0) := rd_rc (by decide) (by decide)
  refine rk_aload_n 0 dX5_nextJob_18 rfl rfl ?_
  refine rk_aload_n 0 dX5_nextJob_19 rfl rfl ?_
  refine rk_cVp (cX5_here_s rd_r1 h4 ht hL) rk_eX5_here rfl ⟨rfl, rfl⟩ rk_kX5_40 dX5_nextJob_20 rfl (by decide) (Nat.le_of_ble_eq_true rfl) ⟨Nat.le_refl _, Nat.le_refl _⟩ ?_
  rw [h15]
  refine rk_p6_2 rk_kX5_44 dX5_nextJob_23 (fun Iz1 eIz1 => ?_)
  rw [rd_u2] at eIz1
  obtain rfl := eIz1.symm
  refine rk_aload_n 0 dX5_nextJob_26 rfl rfl ?_
  refine rk_g6_2 rk_kX5_44 dX5_nextJob_27 ?_
  rw [rd_r2]
  refine rk_pc (pc' := 30) rfl ?_
  refine rk_cSt (cX5_shapeOf_s _) rk_eX5_shapeOf rfl rk_kX5_47 dX5_nextJob_30 rfl (by decide) (Nat.le_of_ble_eq_true rfl) ⟨Nat.le_refl _, Nat.le_refl _⟩ (fun xz2 hz2 => ?_)
  subst hz2
  refine rk_astoreT_n 1 (ls' := [(1, _), (0, _)]) dX5_nextJob_33 rfl (by decide) rfl ?_
  refine rk_aloadT_n 1 dX5_nextJob_34 rfl rfl ?_
  refine rk_cVT cr_sh5 rfl (cJ0_isEmpty_s cr_sh5) rk_eJ0_isEmpty_aae02 rfl (by exact rk_inT 773 (by decide +kernel) (by decide +kernel)) dX5_nextJob_35 rfl (by decide) (Nat.le_of_ble_eq_true rfl) ⟨Nat.le_refl _, Nat.le_refl _⟩ ?_
  refine rk_if_eq 43 dX5_nextJob_38 (by decide) (fun qz38 => ?_) (fun qz38 => ?_)
  · skip
    refine rk_aload_n 0 dX5_nextJob_43 rfl rfl ?_
    refine rk_dup dX5_nextJob_44 rfl ?_
    refine rk_pc (pc' := 45) rfl ?_
    refine rk_g6_1 rk_kX5_22 dX5_nextJob_45 ?_
    rw [rd_r1]
    refine rk_iconst 1 dX5_nextJob_48 (by decide) ?_
    refine rk_iadd dX5_nextJob_49 ?_
    refine rk_p6_1 rk_kX5_22 dX5_nextJob_50 (fun Iz3 eIz3 => ?_)
    rw [rd_u1, nI_1] at eIz3
    obtain rfl := eIz3.symm
    refine rk_aload_n 0 dX5_nextJob_53 rfl rfl ?_
    refine rk_iconst 0 dX5_nextJob_54 (by decide) ?_
    refine rk_pc (pc' := 55) rfl ?_
    refine rk_p6_4 rk_kX5_56 dX5_nextJob_55 (fun Iz4 eIz4 => ?_)
    rw [rd_u4] at eIz4
    obtain rfl := eIz4.symm
    refine rk_iconst 0 dX5_nextJob_58 (by decide) ?_
    refine rk_istore_n 2 (ls' := [(2, _), (1, _), (0, _)]) dX5_nextJob_59 rfl (by decide) rfl ?_
    refine rk_ord [0, 1, 2] (ls' := [(0, _), (1, _), (2, _)]) rfl ?_
    have hk6 : pk6 (pg (I 15 (R 4 (R 6 r 0) 0)) L t) := Classical.byContradiction fun z => by rw [if_pos (cr_sh0.mpr z)] at qz38; exact absurd qz38 (by decide)
    have hlt : t + 1 ≤ L := pg_in (P := I 15 (R 4 (R 6 r 0) 0)) (fun z => by
      rw [z] at hk6
      rcases hk6 with h | h | h | h | h | h <;> exact absurd h (by decide))
    have e : pr (I 15 (R 4 (R 6 r 0) 0)) L t mn J = _ := if_pos hk6
    obtain ⟨s1, s2⟩ := cr_po (P := I 15 (R 4 (R 6 r 0) 0)) (L := L) (b := 5 * mn) (s := (t + 1, false)) (J := sp_u J (5 * mn) (pg (I 15 (R 4 (R 6 r 0) 0)) L t)) hk6
    obtain ⟨r1, r2⟩ := cr_run_s (P := I 15 (R 4 (R 6 r 0) 0)) (L := L) (cr_tx (pg (I 15 (R 4 (R 6 r 0) 0)) L t)) (t + 1) 0 A
    refine cX5_nextJob_l hl hL cr_sh5 (cr_run (I 15 (R 4 (R 6 r 0) 0)) L (cr_tx (pg (I 15 (R 4 (R 6 r 0) 0)) L t)) (t + 1) 0 A) ?_ (rk_slen.getD (cr_sh (pg (I 15 (R 4 (R 6 r 0) 0)) L t)) 0) 0 (t + 1) 0 A (by omega) hlt (by have := (cr_bt _ (cr_sh5 (kd := pg (I 15 (R 4 (R 6 r 0) 0)) L t))).2.1; rw [List.drop_zero]; omega) rfl
    rw [e] at hQ
    rw [r1, s1]
    exact hQ _ _ _ (fun z => ⟨hk6, cr_po0.trans sp_us, fun j hj => by
      have z2 : (cr_st (I 15 (R 4 (R 6 r 0) 0)) L (cr_tx (pg (I 15 (R 4 (R 6 r 0) 0)) L t)) (t + 1, false)).2 = false := by rw [s1]; exact z
      have hj2 : j < (cr_vs (I 15 (R 4 (R 6 r 0) 0)) L (cr_tx (pg (I 15 (R 4 (R 6 r 0) 0)) L t)) (t + 1, false)).length := by rw [cr_vl]; exact hj
      have g := (r2 z2).2 j hj2
      rw [Nat.zero_add] at g
      exact g.trans (s2 j hj2).symm⟩)
  · skip
    refine rk_iconst 0 dX5_nextJob_41 (by decide) ?_
    refine rk_iretJ dX5_nextJob_42 rfl (by decide) ?_
    have hno : ¬ pk6 (pg (I 15 (R 4 (R 6 r 0) 0)) L t) := cr_sh0.mp (Classical.byContradiction fun z => by rw [if_neg z] at qz38; exact absurd rfl qz38)
    have e : pr (I 15 (R 4 (R 6 r 0) 0)) L t mn J = _ := if_neg hno
    rw [e] at hQ
    exact hQ _ _ _ (fun z => by cases z)
end DM

