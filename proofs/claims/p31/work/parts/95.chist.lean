section DD
variable {w : rk_W} {l : Launch} {Sh : rk_Sh} {rg : Nat → Nat} {I : rk_Mm} {R : rk_Rm} {N : Nat → Int32} {T : Int}
/-- one more state is recorded -/
def hs_n (n : Nat) : Nat := if n = 6 then 6 else n + 1
def hs_p (n : Nat) (Hs : Nat → Nat → Int32) (N : Nat → Int32) : Nat → Nat → Int32 := if n = 6 then fun i => if i = 5 then N else Hs (i + 1) else fun i => if i = n then N else Hs i
/-- the history's cells; g: which region each of its rows is -/
def cl_hs (rg : Nat → Nat) (R : rk_Rm) (hs : Nat) (g : Nat → Nat) : Prop := rg hs = 88 ∧ rg (R 2 hs 0) = 88 ∧ (∀ i, i < 7 → 1 ≤ g i ∧ g i ≤ 7 ∧ cl_ys rg R (R 14 (R 2 hs 0) i) (g i)) ∧ ∀ i j, i < 7 → j < 7 → g i = g j → i = j
def cl_hc (rg : Nat → Nat) (I : rk_Mm) (R : rk_Rm) (hs : Nat) (g : Nat → Nat) (n : Nat) (Hs : Nat → Nat → Int32) : Prop := I 2 hs 1 = nI n ∧ ∀ i, i < n → cl_y rg I R (R 14 (R 2 hs 0) i) (g i) (Hs i)
theorem cX1_prepare_s {y t hs n : Nat} {g : Nat → Nat} (hv : sp_iv T N) (h : cl_y rg I R y t N) (ht : t < 1 ∨ 7 < t) (hh : cl_hs rg R hs g) (hn : I 2 hs 1 = nI n) (hn6 : n ≤ 6) : rk_U w l rk_mX1_prepare 4 [rk_a 2 hs, rk_a 10 y] Sh I R (fun I' R' => R' = R ∧ cl_y rg I' R (R 14 (R 2 hs 0) n) (g n) N ∧ cl_fr rg (fun z => z / 4 = g n) I R I' R) := by
  have hg := hh.2.2.1 n (by omega)
  refine rk_bU (ls := [(0, _), (1, _)]) (by decide) rfl (Nat.le_of_ble_eq_true rfl) ?_
  refine rk_aload_n 0 dX1_prepare_0 rfl rfl ?_
  refine rk_g2_0 rk_kX1_13 dX1_prepare_1 ?_
  refine rk_aload_n 0 dX1_prepare_4 rfl rfl ?_
  refine rk_g2_1 rk_kX1_18 dX1_prepare_5 ?_
  rw [hn]
  refine rk_rn14 (n) dX1_prepare_8 (by first | rfl | decide | assumption | (simp only [rk_lit, nI_add, pk_mul, nI_1]; done) | (simp only [rk_lit, nI_add, pk_mul, nI_1]; congr 1; omega)) (by first | decide | assumption | omega) ?_
  refine rk_aload_n 1 dX1_prepare_9 rfl rfl ?_
  refine rk_pc (pc' := 10) rfl ?_
  refine rk_cVv (cX9_copyFrom_s hv hg.2.2 h (by omega)) rk_eX9_copyFrom rfl ⟨rfl, rfl⟩ rk_kX1_22 dX1_prepare_10 rfl (by decide) (Nat.le_of_ble_eq_true rfl) ⟨Nat.le_refl _, Nat.le_refl _⟩ (fun Iz1 Rz1 hz1 => ?_)
  refine rk_vretU dX1_prepare_13 rfl ?_
  exact hz1
theorem cX1_keep_l {hs : Nat} {Q' : rk_Mm → rk_Rm → Prop} (hQ : Q' I (md_r R 14 (R 2 hs 0) (fun i => R 14 (R 2 hs 0) (cl_sg 0 7 i)))) : ∀ n j : Nat, j + n = 6 → ∀ J : rk_Rm, J = md_r R 14 (R 2 hs 0) (cl_mv (R 14 (R 2 hs 0)) 0 j) → rk_Wp w l rk_mX1_keep 1 0 0 (rk_GU w Sh Q') 29 [(0, rk_a 2 hs), (1, rk_a 10 (R 14 (R 2 hs 0) 0)), (2, rk_i (nI j))] [] (Sh, 0, 0) I J := by
  intro n
  induction n with
  | zero =>
    intro j hj J hJ
    have g2 : J 2 hs 0 = R 2 hs 0 := by rw [hJ, mr_c (by decide)]
    obtain rfl : j = 6 := by omega
    refine rk_iload_n 2 dX1_keep_29 rfl rfl ?_
    refine rk_bipush 6 dX1_keep_30 (by decide) ?_
    refine rk_icmp_ge 55 dX1_keep_32 (by decide) (fun qz32 => ?_) (fun qz32 => ?_)
    · skip
      refine rk_aload_n 0 dX1_keep_55 rfl rfl ?_
      refine rk_g2_0 rk_kX1_13 dX1_keep_56 ?_
      rw [g2]
      refine rk_bipush 6 dX1_keep_59 (by decide) ?_
      refine rk_aload_n 1 dX1_keep_61 rfl rfl ?_
      refine rk_pc (pc' := 62) rfl ?_
      refine rk_sn14 6 dX1_keep_62 rfl (by first | decide | assumption | omega) (fun Rz1 eRz1 => ?_)
      refine rk_vretU dX1_keep_63 rfl ?_
      have e : Rz1 = md_r R 14 (R 2 hs 0) (fun i => R 14 (R 2 hs 0) (cl_sg 0 7 i)) := by rw [eRz1, hJ, mr_u]; exact congrArg _ (cl_mve (p := 0) (c := 7) (by decide))
      rw [e]; exact hQ
    · skip
      exact absurd (by decide) qz32
  | succ n ih =>
    intro j hj J hJ
    have g2 : J 2 hs 0 = R 2 hs 0 := by rw [hJ, mr_c (by decide)]
    have g14 : J 14 (R 2 hs 0) (j + 1) = R 14 (R 2 hs 0) (j + 1) := by rw [hJ, mr_s]; simp only [cl_mv]; rw [if_neg (by omega)]
    have hlt : ¬ (6 : Int32) ≤ nI j := nI_ge (b := 6) (by omega) (by decide)
    refine rk_iload_n 2 dX1_keep_29 rfl rfl ?_
    refine rk_bipush 6 dX1_keep_30 (by decide) ?_
    refine rk_icmp_ge 55 dX1_keep_32 (by decide) (fun qz32 => ?_) (fun qz32 => ?_)
    · skip
      exact absurd qz32 hlt
    · skip
      refine rk_aload_n 0 dX1_keep_35 rfl rfl ?_
      refine rk_g2_0 rk_kX1_13 dX1_keep_36 ?_
      rw [g2]
      refine rk_iload_n 2 dX1_keep_39 rfl rfl ?_
      refine rk_aload_n 0 dX1_keep_40 rfl rfl ?_
      refine rk_pc (pc' := 41) rfl ?_
      refine rk_g2_0 rk_kX1_13 dX1_keep_41 ?_
      rw [g2]
      refine rk_iload_n 2 dX1_keep_44 rfl rfl ?_
      refine rk_iconst 1 dX1_keep_45 (by decide) ?_
      refine rk_iadd dX1_keep_46 ?_
      refine rk_rn14 (j + 1) dX1_keep_47 (by first | rfl | decide | assumption | (simp only [rk_lit, nI_add, pk_mul, nI_1]; done) | (simp only [rk_lit, nI_add, pk_mul, nI_1]; congr 1; omega)) (by first | decide | assumption | omega) ?_
      rw [g14]
      refine rk_sn14 (j) dX1_keep_48 (by first | rfl | decide | assumption | (simp only [rk_lit, nI_add, pk_mul, nI_1]; done) | (simp only [rk_lit, nI_add, pk_mul, nI_1]; congr 1; omega)) (by first | decide | assumption | omega) (fun Rz1 eRz1 => ?_)
      refine rk_pc (pc' := 49) rfl ?_
      refine rk_iinc 1 (ls' := [(2, _), (0, _), (1, _)]) dX1_keep_49 (by decide) rfl (by decide) rfl ?_
      refine rk_goto 29 dX1_keep_52 (by decide) ?_
      refine rk_ord [0, 1, 2] (ls' := [(0, _), (1, _), (2, _)]) rfl ?_
      rw [nI_1]
      exact ih (j + 1) (by omega) _ (by rw [eRz1, hJ, mr_u, cl_mv1 (Nat.zero_le j)])
theorem cX1_keep_s {hs n : Nat} (hn : I 2 hs 1 = nI n) (hn6 : n ≤ 6) : rk_U w l rk_mX1_keep 1 [rk_a 2 hs] Sh I R (fun I' R' => (n < 6 ∧ R' = R ∧ I' = rk_uI I 2 hs 1 (nI (n + 1))) ∨ (n = 6 ∧ I' = I ∧ R' = md_r R 14 (R 2 hs 0) (fun i => R 14 (R 2 hs 0) (cl_sg 0 7 i)))) := by
  by_cases h6 : n = 6
  · subst h6
    refine rk_bU (ls := [(0, _)]) (by decide) rfl (Nat.le_of_ble_eq_true rfl) ?_
    refine rk_aload_n 0 dX1_keep_0 rfl rfl ?_
    refine rk_g2_1 rk_kX1_18 dX1_keep_1 ?_
    rw [hn]
    refine rk_bipush 6 dX1_keep_4 (by decide) ?_
    refine rk_icmp_ge 20 dX1_keep_6 (by decide) (fun qz6 => ?_) (fun qz6 => ?_)
    · skip
      refine rk_aload_n 0 dX1_keep_20 rfl rfl ?_
      refine rk_g2_0 rk_kX1_13 dX1_keep_21 ?_
      refine rk_iconst 0 dX1_keep_24 (by decide) ?_
      refine rk_pc (pc' := 25) rfl ?_
      refine rk_rn14 0 dX1_keep_25 rfl (by first | decide | assumption | omega) ?_
      refine rk_astore_n 1 (ls' := [(1, _), (0, _)]) dX1_keep_26 rfl (by decide) rfl ?_
      refine rk_iconst 0 dX1_keep_27 (by decide) ?_
      refine rk_istore_n 2 (ls' := [(2, _), (1, _), (0, _)]) dX1_keep_28 rfl (by decide) rfl ?_
      refine rk_ord [0, 1, 2] (ls' := [(0, _), (1, _), (2, _)]) rfl ?_
      exact cX1_keep_l (Or.inr ⟨rfl, rfl, rfl⟩) 6 0 (by decide) R (by rw [cl_mv0, mr_self])
    · skip
      exact absurd (show (6 : Int32) ≤ nI 6 by decide) qz6
  · have hlt : ¬ (6 : Int32) ≤ nI n := nI_ge (b := 6) (by omega) (by decide)
    refine rk_bU (ls := [(0, _)]) (by decide) rfl (Nat.le_of_ble_eq_true rfl) ?_
    refine rk_aload_n 0 dX1_keep_0 rfl rfl ?_
    refine rk_g2_1 rk_kX1_18 dX1_keep_1 ?_
    rw [hn]
    refine rk_bipush 6 dX1_keep_4 (by decide) ?_
    refine rk_icmp_ge 20 dX1_keep_6 (by decide) (fun qz6 => ?_) (fun qz6 => ?_)
    · skip
      exact absurd qz6 hlt
    · skip
      refine rk_aload_n 0 dX1_keep_9 rfl rfl ?_
      refine rk_dup dX1_keep_10 rfl ?_
      refine rk_g2_1 rk_kX1_18 dX1_keep_11 ?_
      rw [hn]
      refine rk_pc (pc' := 14) rfl ?_
      refine rk_iconst 1 dX1_keep_14 (by decide) ?_
      refine rk_iadd dX1_keep_15 ?_
      rw [nI_1]
      refine rk_p2_1 rk_kX1_18 dX1_keep_16 (fun Iz1 eIz1 => ?_)
      refine rk_vretU dX1_keep_19 rfl ?_
      exact Or.inl ⟨by omega, rfl, eIz1⟩
theorem cl_y.fr0 {S : Nat → Prop} {I' : rk_Mm} {R' : rk_Rm} {y t : Nat} (h : cl_y rg I R y t N) (g : cl_fr rg S I R I' R') (hS : ∀ z, z / 4 = t → ¬ S z) (hv : sp_iv T N) : cl_y rg I' R' y t N := h.fr g hS hv.c12 hv.c13
theorem cl_keepR {hs n : Nat} {g : Nat → Nat} {Hs : Nat → Nat → Int32} {I1 : rk_Mm} {R1 : rk_Rm} (hh : cl_hs rg R hs g) (hc : cl_hc rg I R hs g n Hs) (hn6 : n ≤ 6) (hvs : ∀ i, i < n → sp_iv T (Hs i)) (hvN : sp_iv T N) (hy : cl_y rg I R (R 14 (R 2 hs 0) n) (g n) N) (hk : (n < 6 ∧ R1 = R ∧ I1 = rk_uI I 2 hs 1 (nI (n + 1))) ∨ (n = 6 ∧ I1 = I ∧ R1 = md_r R 14 (R 2 hs 0) (fun i => R 14 (R 2 hs 0) (cl_sg 0 7 i)))) : (∃ g', cl_hs rg R1 hs g' ∧ cl_hc rg I1 R1 hs g' (hs_n n) (hs_p n Hs N)) ∧ cl_fr rg (fun z => z = 88) I R I1 R1 := by
  have hn := hc.1
  rcases hk with ⟨h6, eR, e⟩ | ⟨h6, eI, e⟩
  · obtain rfl := eR.symm
    have f1 : cl_fr rg (fun z => z = 88) I R I1 R := by rw [e]; exact cl_fr.ui hh.1
    refine ⟨⟨g, hh, by rw [e, rk_uI_s, hs_n, if_neg (by omega)], fun i hi => ?_⟩, f1⟩
    rw [hs_n, if_neg (by omega)] at hi
    rw [hs_p, if_neg (by omega)]
    have hg := hh.2.2.1 i (by omega)
    by_cases hin : i = n
    · subst hin
      show cl_y rg I1 R _ (g i) (if i = i then N else Hs i)
      rw [if_pos rfl]
      exact hy.fr0 f1 (by omega) hvN
    · show cl_y rg I1 R _ (g i) (if i = n then N else Hs i)
      rw [if_neg hin]
      exact (hc.2 i (by omega)).fr0 f1 (by omega) (hvs i (by omega))
  · obtain rfl := eI.symm
    subst h6
    have f1 : cl_fr rg (fun z => z = 88) I R I R1 := by rw [e]; exact cl_fr.mr hh.2.1 (Or.inr (Or.inl rfl))
    have e2 : R1 2 hs 0 = R 2 hs 0 := by rw [e, mr_c (by decide)]
    have e14 : ∀ i, R1 14 (R 2 hs 0) i = R 14 (R 2 hs 0) (cl_sg 0 7 i) := fun i => by rw [e, mr_s]
    refine ⟨⟨fun i => g (cl_sg 0 7 i), ⟨hh.1, by rw [e2]; exact hh.2.1, fun i hi => ?_, fun i j hi hj z => ?_⟩, hn, fun i hi => ?_⟩, f1⟩
    · have hg := hh.2.2.1 _ (cl_sg_lt (p := 0) (c := 7) (n := 7) (by decide) (by decide) hi)
      rw [e2, e14]
      exact ⟨hg.1, hg.2.1, hg.2.2.fr f1 (by omega)⟩
    · exact cl_sg_in (p := 0) (c := 7) (by decide) (hh.2.2.2 _ _ (cl_sg_lt (p := 0) (c := 7) (n := 7) (by decide) (by decide) hi) (cl_sg_lt (p := 0) (c := 7) (n := 7) (by decide) (by decide) hj) z)
    · have hi6 : i < 6 := by rw [hs_n, if_pos rfl] at hi; exact hi
      have hsg : cl_sg 0 7 i = i + 1 := by rw [cl_sg_l (by omega), if_neg (by omega)]
      have hg := hh.2.2.1 (i + 1) (by omega)
      have hg6 := hh.2.2.1 6 (by decide)
      rw [e2, e14, hsg, hs_p, if_pos rfl]
      by_cases hi5 : i = 5
      · subst hi5
        show cl_y rg I R1 _ (g (cl_sg 0 7 5)) (if 5 = 5 then N else Hs 6)
        rw [if_pos rfl, hsg]
        exact hy.fr0 f1 (by omega) hvN
      · show cl_y rg I R1 _ (g (cl_sg 0 7 i)) (if i = 5 then N else Hs (i + 1))
        rw [if_neg hi5, hsg]
        exact (hc.2 (i + 1) (by omega)).fr0 f1 (by omega) (hvs (i + 1) (by omega))
theorem cX1_settle_s {hs n : Nat} {g : Nat → Nat} {Hs : Nat → Nat → Int32} {x : Int32} (hh : cl_hs rg R hs g) (hc : cl_hc rg I R hs g n Hs) (hn6 : n ≤ 6) (hvs : ∀ i, i < n → sp_iv T (Hs i)) (hp : 0 ≤ x → sp_iv T N ∧ cl_y rg I R (R 14 (R 2 hs 0) n) (g n) N) : rk_J w l rk_mX1_settle 2 [rk_a 2 hs, rk_i x] Sh I R (fun r I' R' => r = x ∧ (x < 0 → I' = I ∧ R' = R) ∧ (0 ≤ x → ∃ g', cl_hs rg R' hs g' ∧ cl_hc rg I' R' hs g' (hs_n n) (hs_p n Hs N)) ∧ cl_fr rg (fun z => z = 88) I R I' R') := by
  have hn := hc.1
  refine rk_bJ (ls := [(0, _), (1, _)]) (by decide) rfl (Nat.le_of_ble_eq_true rfl) ?_
  refine rk_iload_n 1 dX1_settle_0 rfl rfl ?_
  refine rk_if_lt 8 dX1_settle_1 (by decide) (fun qz1 => ?_) (fun qz1 => ?_)
  · skip
    refine rk_iload_n 1 dX1_settle_8 rfl rfl ?_
    refine rk_iretJ dX1_settle_9 rfl rfl ?_
    first | exact ⟨rfl, fun _ => ⟨rfl, rfl⟩, fun z => absurd qz1 (Int32.not_lt.mpr z), cl_fr.rf⟩ | (obtain ⟨hvN, hy⟩ := hp (Int32.not_lt.mp qz1); have k := cl_keepR hh hc hn6 hvs hvN hy hz1; exact ⟨rfl, fun z => absurd z qz1, fun _ => k.1, k.2⟩)
  · skip
    refine rk_aload_n 0 dX1_settle_4 rfl rfl ?_
    refine rk_cVv (cX1_keep_s hn hn6) rk_eX1_keep rfl ⟨rfl, rfl⟩ rk_kX1_26 dX1_settle_5 rfl (by decide) (Nat.le_of_ble_eq_true rfl) ⟨Nat.le_refl _, Nat.le_refl _⟩ (fun Iz1 Rz1 hz1 => ?_)
    refine rk_iload_n 1 dX1_settle_8 rfl rfl ?_
    refine rk_iretJ dX1_settle_9 rfl rfl ?_
    first | exact ⟨rfl, fun _ => ⟨rfl, rfl⟩, fun z => absurd qz1 (Int32.not_lt.mpr z), cl_fr.rf⟩ | (obtain ⟨hvN, hy⟩ := hp (Int32.not_lt.mp qz1); have k := cl_keepR hh hc hn6 hvs hvN hy hz1; exact ⟨rfl, fun z => absurd z qz1, fun _ => k.1, k.2⟩)
end DD

