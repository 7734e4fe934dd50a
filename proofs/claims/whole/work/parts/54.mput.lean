section MQ
variable {w : rk_W} {l : Launch} {Sh : rk_Sh} {I : rk_Mm} {R : rk_Rm}
/-- a number shifted by one character -/
def lsh (x : Int64) : Int64 := (x.toUInt64 >>> ((8 : Int32).toInt64.toUInt64 &&& Int64.toUInt64 63)).toInt64
def lk (x : Int64) : Nat → Int64
  | 0 => x
  | n + 1 => lsh (lk x n)
def lb (x : Int64) (i : Nat) : Int32 := (lk x i &&& 255).toInt32
theorem lsh_n (x : Int64) : (lsh x).toUInt64.toNat = x.toUInt64.toNat / 256 := by
  unfold lsh
  rw [UInt64.toUInt64_toInt64, show ((8 : Int32).toInt64.toUInt64 &&& Int64.toUInt64 63) = 8 from by decide, UInt64.toNat_shiftRight, show (8 : UInt64).toNat % 64 = 8 from rfl, Nat.shiftRight_eq_div_pow]
theorem lk_n (x : Int64) : ∀ n, (lk x n).toUInt64.toNat = x.toUInt64.toNat / 256 ^ n := by
  intro n
  induction n with
  | zero => rw [Nat.pow_zero, Nat.div_one]; rfl
  | succ n ih => rw [show lk x (n + 1) = lsh (lk x n) from rfl, lsh_n, ih, Nat.div_div_eq_div_mul, Nat.pow_succ]
theorem l_n0 {x : Int64} (h : x.toUInt64.toNat = 0) : x = 0 := by
  have e : x.toUInt64 = 0 := UInt64.toNat_inj.mp (by rw [h]; rfl)
  rw [← Int64.toInt64_toUInt64 x, e]
  rfl
theorem lk_8 (x : Int64) : lk x 8 = 0 := l_n0 (by
  rw [lk_n]
  exact Nat.div_eq_of_lt (UInt64.toNat_lt _))
theorem lg_0 {a b : Int64} : lg_cmp a b = 0 ↔ a = b := by
  constructor
  · intro h
    unfold lg_cmp at h
    split at h
    · cases h
    · split at h
      · next h2 => exact h2
      · cases h
  · intro h
    subst h
    unfold lg_cmp
    rw [if_neg (show ¬ a > a from Int64.lt_irrefl), if_pos rfl]
noncomputable def sp_cnt (x : Int64) : Nat → Nat → Option Nat
  | 0, n => some n
  | f + 1, n => if lk x n &&& 255 = 0 then some n else @ite _ (33 ≤ lb x n ∧ lb x n ≤ 126) (Classical.propDecidable _) (sp_cnt x f (n + 1)) none
noncomputable def sp_many (x : Int64) : Nat := match sp_cnt x 8 0 with
  | none => 0
  | some n => if lk x n = 0 then n else 0
noncomputable def sp_put (x : Int64) (L : Nat) : Int32 := if sp_many x = 0 then -2 else if 80 < L + sp_many x then -4 else nI (L + sp_many x)
theorem cX11_put_l {m : Nat} {x : Int64} {G : List Frame → Array Value → State → State → Prop} (c : Option Nat) (hbad : c = none → rk_Wp w l rk_mX11_put 3 0 0 G 33 [(0, rk_a 12 m), (1, rk_l x)] [] (Sh, 0, 0) I R) (hok : ∀ n, c = some n → n ≤ 8 → rk_Wp w l rk_mX11_put 3 0 0 G 49 [(0, rk_a 12 m), (1, rk_l x), (3, rk_i (nI n)), (4, rk_l (lk x n))] [] (Sh, 0, 0) I R) : ∀ f n : Nat, n + f = 8 → sp_cnt x f n = c → rk_Wp w l rk_mX11_put 3 0 0 G 5 [(0, rk_a 12 m), (1, rk_l x), (3, rk_i (nI n)), (4, rk_l (lk x n))] [] (Sh, 0, 0) I R := by
  intro f
  induction f with
  | zero =>
    intro n hn hc
    obtain rfl : n = 8 := by omega
    have h0 : lk x 8 &&& 255 = 0 := by rw [lk_8]; decide
    refine rk_lload dX11_put_5 rfl ?_
    refine rk_ldc2 255 dX11_put_7 (by exact rk_inT 1124 (by decide +kernel) (by decide +kernel)) ?_
    refine rk_land dX11_put_10 ?_
    refine rk_lconst 0 dX11_put_11 (by decide) ?_
    refine rk_lcmp dX11_put_12 ?_
    refine rk_if_eq 49 dX11_put_13 (by decide) (fun qz13 => ?_) (fun qz13 => ?_)
    · skip
      exact hok 8 hc.symm (by decide)
    · skip
      exact absurd (lg_0.mpr h0) qz13
  | succ f ih =>
    intro n hn hc
    have e0 : lk x n &&& 255 = 0 → c = some n := fun h => hc.symm.trans (if_pos h)
    have e1 : ¬ lk x n &&& 255 = 0 → (33 ≤ lb x n ∧ lb x n ≤ 126) → sp_cnt x f (n + 1) = c := fun h h2 => ((if_neg h).trans (if_pos h2)).symm.trans hc
    have e2 : ¬ lk x n &&& 255 = 0 → ¬ (33 ≤ lb x n ∧ lb x n ≤ 126) → c = none := fun h h2 => hc.symm.trans ((if_neg h).trans (if_neg h2))
    refine rk_lload dX11_put_5 rfl ?_
    refine rk_ldc2 255 dX11_put_7 (by exact rk_inT 1124 (by decide +kernel) (by decide +kernel)) ?_
    refine rk_land dX11_put_10 ?_
    refine rk_lconst 0 dX11_put_11 (by decide) ?_
    refine rk_lcmp dX11_put_12 ?_
    refine rk_if_eq 49 dX11_put_13 (by decide) (fun qz13 => ?_) (fun qz13 => ?_)
    · skip
      exact hok n (e0 (lg_0.mp qz13)) (by omega)
    · skip
      refine rk_lload dX11_put_16 rfl ?_
      refine rk_pc (pc' := 18) rfl ?_
      refine rk_ldc2 255 dX11_put_18 (by exact rk_inT 1124 (by decide +kernel) (by decide +kernel)) ?_
      refine rk_land dX11_put_21 ?_
      refine rk_l2i dX11_put_22 ?_
      refine rk_bipush 33 dX11_put_23 (by decide) ?_
      refine rk_bipush 126 dX11_put_25 (by decide) ?_
      refine rk_cSp (cX11_in_s _ _ _) rk_eX11_in rfl rk_kX11_43 dX11_put_27 rfl (by decide) (Nat.le_of_ble_eq_true rfl) ⟨Nat.le_refl _, Nat.le_refl _⟩ ?_
      refine rk_pc (pc' := 30) rfl ?_
      refine rk_if_ne 36 dX11_put_30 (by decide) (fun qz30 => ?_) (fun qz30 => ?_)
      · skip
        refine rk_iinc 1 (ls' := [(3, _), (0, _), (1, _), (4, _)]) dX11_put_36 (by decide) rfl (by decide) rfl ?_
        refine rk_lload dX11_put_39 rfl ?_
        refine rk_bipush 8 dX11_put_41 (by decide) ?_
        refine rk_lushr dX11_put_43 ?_
        refine rk_lstore (ls' := [(4, _), (3, _), (0, _), (1, _)]) dX11_put_44 (by decide) rfl ?_
        refine rk_goto 5 dX11_put_46 (by decide) ?_
        refine rk_pc (pc' := 5) rfl ?_
        refine rk_ord [0, 1, 3, 4] (ls' := [(0, _), (1, _), (3, _), (4, _)]) rfl ?_
        rw [nI_1]
        exact ih (n + 1) (by omega) (e1 (fun z => qz13 (lg_0.mpr z)) (sp_bt qz30))
      · skip
        refine rk_ord [0, 1] (ls' := [(0, _), (1, _)]) rfl ?_
        exact hbad (e2 (fun z => qz13 (lg_0.mpr z)) (sp_bf qz30))
theorem cX11_put_l2 {m n L : Nat} {x : Int64} {G : List Frame → Array Value → State → State → Prop} (h7 : I 12 m 7 = nI L) (hL : L + n ≤ 80) (hn : n ≤ 8) (hk : ∀ (J : rk_Mm) (F : Nat → Int32), J = md_a I 31 (R 12 m 6) F → (∀ j, F j = if L ≤ j ∧ j < L + n then lb x (n - 1 - (j - L)) else I 31 (R 12 m 6) j) → rk_Wp w l rk_mX11_put 3 0 0 G 122 [(0, rk_a 12 m), (3, rk_i (nI n))] [] (Sh, 0, 0) J R) : ∀ (k : Nat) (F : Nat → Int32) (J : rk_Mm), k ≤ n → J = md_a I 31 (R 12 m 6) F → (∀ j, F j = if L + k ≤ j ∧ j < L + n then lb x (n - 1 - (j - L)) else I 31 (R 12 m 6) j) → rk_Wp w l rk_mX11_put 3 0 0 G 85 [(0, rk_a 12 m), (3, rk_i (nI n)), (4, rk_l (lk x (n - k))), (6, rk_i (nI k - 1))] [] (Sh, 0, 0) J R := by
  intro k
  induction k with
  | zero =>
    intro F J hkn hJ hF
    refine rk_iload dX11_put_85 rfl ?_
    refine rk_if_lt 122 dX11_put_87 (by decide) (fun qz87 => ?_) (fun qz87 => ?_)
    · skip
      refine rk_ord [0, 3] (ls' := [(0, _), (3, _)]) rfl ?_
      exact hk J F hJ hF
    · skip
      exact absurd (by decide) qz87
  | succ k ih =>
    intro F J hkn hJ hF
    have hJ7 : J 12 m 7 = nI L := by rw [hJ, md_ac (by decide)]; exact h7
    rw [nI_pred]
    refine rk_iload dX11_put_85 rfl ?_
    refine rk_if_lt 122 dX11_put_87 (by decide) (fun qz87 => ?_) (fun qz87 => ?_)
    · skip
      exact absurd qz87 (nI_pos (by omega))
    · skip
      refine rk_aload_n 0 dX11_put_90 rfl rfl ?_
      refine rk_g12_6 rk_kX11_26 dX11_put_91 ?_
      refine rk_aload_n 0 dX11_put_94 rfl rfl ?_
      refine rk_g12_7 rk_kX11_133 dX11_put_95 ?_
      rw [hJ7]
      refine rk_iload dX11_put_98 rfl ?_
      refine rk_pc (pc' := 100) rfl ?_
      refine rk_iadd dX11_put_100 ?_
      refine rk_lload dX11_put_101 rfl ?_
      refine rk_ldc2 255 dX11_put_103 (by exact rk_inT 1124 (by decide +kernel) (by decide +kernel)) ?_
      refine rk_land dX11_put_106 ?_
      refine rk_l2i dX11_put_107 ?_
      refine rk_sn31 (L + k) dX11_put_108 (by first | rfl | decide | assumption | (simp only [rk_lit, nI_add, pk_mul, nI_1]; done) | (simp only [rk_lit, nI_add, pk_mul, nI_1]; congr 1; omega)) (by first | decide | assumption | omega) (fun Iz1 eIz1 => ?_)
      refine rk_pc (pc' := 109) rfl ?_
      refine rk_lload dX11_put_109 rfl ?_
      refine rk_bipush 8 dX11_put_111 (by decide) ?_
      refine rk_lushr dX11_put_113 ?_
      refine rk_lstore (ls' := [(4, _), (0, _), (3, _), (6, _)]) dX11_put_114 (by decide) rfl ?_
      refine rk_iinc (-1) (ls' := [(6, _), (4, _), (0, _), (3, _)]) dX11_put_116 (by decide) rfl (by decide) rfl ?_
      refine rk_goto 85 dX11_put_119 (by decide) ?_
      refine rk_pc (pc' := 85) rfl ?_
      refine rk_ord [0, 3, 4, 6] (ls' := [(0, _), (3, _), (4, _), (6, _)]) rfl ?_
      rw [show nI k + -1 = nI k - 1 from (Int32.sub_eq_add_neg _ _).symm]
      have e1 : lsh (lk x (n - (k + 1))) = lk x (n - k) := by rw [show n - k = n - (k + 1) + 1 by omega]; rfl
      have g := ih (sp_u F (L + k) (lb x (n - (k + 1)))) Iz1 (by omega) (by rw [eIz1, hJ, md_u]; rfl) (fun j => by
        simp only [sp_u]
        by_cases hj : j = L + k
        · subst hj; rw [if_pos rfl, if_pos (by omega)]; congr 1; omega
        · rw [if_neg hj, hF j]
          by_cases h2 : L + (k + 1) ≤ j ∧ j < L + n
          · rw [if_pos h2, if_pos (by omega)]
          · rw [if_neg h2, if_neg (by omega)])
      rw [← e1] at g
      exact g
theorem cX11_put_v {m L n : Nat} {x : Int64} (h7 : I 12 m 7 = nI L) (hL : L + n ≤ 80) (hn : n ≤ 8) (hm : sp_many x = n) (hg : sp_put x L = nI (L + sp_many x)) (hne : ¬ sp_many x = 0) : rk_Wp w l rk_mX11_put 3 0 0 (rk_GJ w Sh (fun r I' R' => r = sp_put x L ∧ R' = R ∧ ((sp_many x = 0 ∨ 80 < L + sp_many x) ∧ I' = I ∨ (0 < sp_many x ∧ L + sp_many x ≤ 80 ∧ ∃ F, (∀ j, F j = if L ≤ j ∧ j < L + sp_many x then lb x (sp_many x - 1 - (j - L)) else I 31 (R 12 m 6) j) ∧ I' = rk_uI (md_a I 31 (R 12 m 6) F) 12 m 7 (nI (L + sp_many x)))))) 85 [(0, rk_a 12 m), (3, rk_i (nI n)), (4, rk_l x), (6, rk_i (nI n - 1))] [] (Sh, 0, 0) I R := by
  have g := cX11_put_l2 (w := w) (l := l) (Sh := Sh) (x := x) (G := rk_GJ w Sh (fun r I' R' => r = sp_put x L ∧ R' = R ∧ ((sp_many x = 0 ∨ 80 < L + sp_many x) ∧ I' = I ∨ (0 < sp_many x ∧ L + sp_many x ≤ 80 ∧ ∃ F, (∀ j, F j = if L ≤ j ∧ j < L + sp_many x then lb x (sp_many x - 1 - (j - L)) else I 31 (R 12 m 6) j) ∧ I' = rk_uI (md_a I 31 (R 12 m 6) F) 12 m 7 (nI (L + sp_many x)))))) h7 hL hn (fun J F hJ hF => ?_) n (I 31 (R 12 m 6)) I (Nat.le_refl n) md_self.symm (fun j => by rw [if_neg (by omega)])
  · rw [Nat.sub_self] at g
    exact g
  · have hJ7 : J 12 m 7 = nI L := by rw [hJ, md_ac (by decide)]; exact h7
    refine rk_aload_n 0 dX11_put_122 rfl rfl ?_
    refine rk_dup dX11_put_123 rfl ?_
    refine rk_g12_7 rk_kX11_133 dX11_put_124 ?_
    rw [hJ7]
    refine rk_iload_n 3 dX11_put_127 rfl rfl ?_
    refine rk_iadd dX11_put_128 ?_
    rw [nI_add]
    refine rk_p12_7 rk_kX11_133 dX11_put_129 (fun Iz1 eIz1 => ?_)
    refine rk_pc (pc' := 132) rfl ?_
    refine rk_aload_n 0 dX11_put_132 rfl rfl ?_
    refine rk_g12_7 rk_kX11_133 dX11_put_133 ?_
    rw [eIz1, md_u1, md_as, sp_us]
    refine rk_iretJ dX11_put_136 rfl rfl ?_
    rw [hm]
    exact ⟨by rw [hg, hm], rfl, Or.inr ⟨by omega, hL, F, hF, by rw [hJ]; exact md_u1.symm⟩⟩
theorem cX11_put_b {m L : Nat} {x : Int64} (h : sp_put x L = -2) (h0 : sp_many x = 0) : rk_Wp w l rk_mX11_put 3 0 0 (rk_GJ w Sh (fun r I' R' => r = sp_put x L ∧ R' = R ∧ ((sp_many x = 0 ∨ 80 < L + sp_many x) ∧ I' = I ∨ (0 < sp_many x ∧ L + sp_many x ≤ 80 ∧ ∃ F, (∀ j, F j = if L ≤ j ∧ j < L + sp_many x then lb x (sp_many x - 1 - (j - L)) else I 31 (R 12 m 6) j) ∧ I' = rk_uI (md_a I 31 (R 12 m 6) F) 12 m 7 (nI (L + sp_many x)))))) 33 [(0, rk_a 12 m), (1, rk_l x)] [] (Sh, 0, 0) I R := by
  refine rk_bipush (-2) dX11_put_33 (by decide) ?_
  refine rk_iretJ dX11_put_35 rfl rfl ?_
  exact ⟨h.symm, rfl, Or.inl ⟨Or.inl h0, rfl⟩⟩
theorem cX11_put_t {m L n : Nat} {x : Int64} (h7 : I 12 m 7 = nI L) (hL : L ≤ 80) (hn : n ≤ 8) (hm : sp_many x = if lk x n = 0 then n else 0) (hbad : sp_many x = 0 → sp_put x L = -2) (hmany : ¬ sp_many x = 0 → 80 < L + sp_many x → sp_put x L = -4) (hgood : ¬ sp_many x = 0 → ¬ 80 < L + sp_many x → sp_put x L = nI (L + sp_many x)) : rk_Wp w l rk_mX11_put 3 0 0 (rk_GJ w Sh (fun r I' R' => r = sp_put x L ∧ R' = R ∧ ((sp_many x = 0 ∨ 80 < L + sp_many x) ∧ I' = I ∨ (0 < sp_many x ∧ L + sp_many x ≤ 80 ∧ ∃ F, (∀ j, F j = if L ≤ j ∧ j < L + sp_many x then lb x (sp_many x - 1 - (j - L)) else I 31 (R 12 m 6) j) ∧ I' = rk_uI (md_a I 31 (R 12 m 6) F) 12 m 7 (nI (L + sp_many x)))))) 49 [(0, rk_a 12 m), (1, rk_l x), (3, rk_i (nI n)), (4, rk_l (lk x n))] [] (Sh, 0, 0) I R := by
  by_cases hl : lk x n = 0
  · rw [if_pos hl] at hm
    by_cases hn0 : n = 0
    · have h0 : sp_many x = 0 := by rw [hm, hn0]
      subst hn0
      refine rk_lload dX11_put_49 rfl ?_
      refine rk_lconst 0 dX11_put_51 (by decide) ?_
      refine rk_lcmp dX11_put_52 ?_
      refine rk_if_ne 60 dX11_put_53 (by decide) (fun qz53 => ?_) (fun qz53 => ?_)
      · skip
        exact absurd (lg_0.mpr hl) qz53
      · skip
        refine rk_iload_n 3 dX11_put_56 rfl rfl ?_
        refine rk_if_ne 63 dX11_put_57 (by decide) (fun qz57 => ?_) (fun qz57 => ?_)
        · skip
          exact absurd qz57 (by decide)
        · skip
          refine rk_bipush (-2) dX11_put_60 (by decide) ?_
          refine rk_iretJ dX11_put_62 rfl rfl ?_
          exact ⟨(hbad h0).symm, rfl, Or.inl ⟨Or.inl h0, rfl⟩⟩
    · have hne : ¬ sp_many x = 0 := by rw [hm]; exact hn0
      refine rk_lload dX11_put_49 rfl ?_
      refine rk_lconst 0 dX11_put_51 (by decide) ?_
      refine rk_lcmp dX11_put_52 ?_
      refine rk_if_ne 60 dX11_put_53 (by decide) (fun qz53 => ?_) (fun qz53 => ?_)
      · skip
        exact absurd (lg_0.mpr hl) qz53
      · skip
        refine rk_iload_n 3 dX11_put_56 rfl rfl ?_
        refine rk_if_ne 63 dX11_put_57 (by decide) (fun qz57 => ?_) (fun qz57 => ?_)
        · skip
          refine rk_aload_n 0 dX11_put_63 rfl rfl ?_
          refine rk_g12_7 rk_kX11_133 dX11_put_64 ?_
          rw [h7]
          refine rk_pc (pc' := 67) rfl ?_
          refine rk_iload_n 3 dX11_put_67 rfl rfl ?_
          refine rk_iadd dX11_put_68 ?_
          rw [nI_add]
          refine rk_bipush 80 dX11_put_69 (by decide) ?_
          refine rk_icmp_le 77 dX11_put_71 (by decide) (fun qz71 => ?_) (fun qz71 => ?_)
          · skip
            refine rk_lload_n 1 dX11_put_77 rfl rfl ?_
            refine rk_lstore (ls' := [(4, _), (0, _), (1, _), (3, _)]) dX11_put_78 (by decide) rfl ?_
            refine rk_iload_n 3 dX11_put_80 rfl rfl ?_
            refine rk_pc (pc' := 81) rfl ?_
            refine rk_iconst 1 dX11_put_81 (by decide) ?_
            refine rk_isub dX11_put_82 ?_
            refine rk_istore (ls' := [(6, _), (4, _), (0, _), (1, _), (3, _)]) dX11_put_83 (by decide) rfl ?_
            refine rk_ord [0, 3, 4, 6] (ls' := [(0, _), (3, _), (4, _), (6, _)]) rfl ?_
            have h2 : L + n ≤ 80 := (nI_leI (b := 80) (by omega) (by decide)).mp qz71
            exact cX11_put_v h7 h2 hn hm (hgood hne (by omega)) hne
          · skip
            refine rk_bipush (-4) dX11_put_74 (by decide) ?_
            refine rk_iretJ dX11_put_76 rfl rfl ?_
            have h2 : 80 < L + n := Nat.lt_of_not_le (fun z => qz71 (nI_le (b := 80) z (by decide)))
            exact ⟨(hmany hne (by rw [hm]; exact h2)).symm, rfl, Or.inl ⟨Or.inr (by rw [hm]; exact h2), rfl⟩⟩
        · skip
          exact absurd qz57 (nI_ne0 (by omega) (by omega))
  · rw [if_neg hl] at hm
    refine rk_lload dX11_put_49 rfl ?_
    refine rk_lconst 0 dX11_put_51 (by decide) ?_
    refine rk_lcmp dX11_put_52 ?_
    refine rk_if_ne 60 dX11_put_53 (by decide) (fun qz53 => ?_) (fun qz53 => ?_)
    · skip
      refine rk_bipush (-2) dX11_put_60 (by decide) ?_
      refine rk_iretJ dX11_put_62 rfl rfl ?_
      exact ⟨(hbad hm).symm, rfl, Or.inl ⟨Or.inl hm, rfl⟩⟩
    · skip
      exact absurd (lg_0.mp qz53) hl
theorem cX11_put_s {m L : Nat} (h7 : I 12 m 7 = nI L) (hL : L ≤ 80) (x : Int64) : rk_J w l rk_mX11_put 3 [rk_a 12 m, rk_l x] Sh I R (fun r I' R' => r = sp_put x L ∧ R' = R ∧ ((sp_many x = 0 ∨ 80 < L + sp_many x) ∧ I' = I ∨ (0 < sp_many x ∧ L + sp_many x ≤ 80 ∧ ∃ F, (∀ j, F j = if L ≤ j ∧ j < L + sp_many x then lb x (sp_many x - 1 - (j - L)) else I 31 (R 12 m 6) j) ∧ I' = rk_uI (md_a I 31 (R 12 m 6) F) 12 m 7 (nI (L + sp_many x))))) := by
  have hbad : sp_many x = 0 → sp_put x L = -2 := fun h => if_pos h
  have hmany : ¬ sp_many x = 0 → 80 < L + sp_many x → sp_put x L = -4 := fun h h2 => (if_neg h).trans (if_pos h2)
  have hgood : ¬ sp_many x = 0 → ¬ 80 < L + sp_many x → sp_put x L = nI (L + sp_many x) := fun h h2 => (if_neg h).trans (if_neg h2)
  have hnone : sp_cnt x 8 0 = none → sp_many x = 0 := fun h => by rw [sp_many, h]
  have hsome : ∀ n, sp_cnt x 8 0 = some n → sp_many x = if lk x n = 0 then n else 0 := fun n h => by rw [sp_many, h]
  refine rk_bJ (ls := [(0, _), (1, _)]) (by decide) rfl (Nat.le_of_ble_eq_true rfl) ?_
  refine rk_iconst 0 dX11_put_0 (by decide) ?_
  refine rk_istore_n 3 (ls' := [(3, _), (0, _), (1, _)]) dX11_put_1 rfl (by decide) rfl ?_
  refine rk_lload_n 1 dX11_put_2 rfl rfl ?_
  refine rk_lstore (ls' := [(4, _), (3, _), (0, _), (1, _)]) dX11_put_3 (by decide) rfl ?_
  refine rk_ord [0, 1, 3, 4] (ls' := [(0, _), (1, _), (3, _), (4, _)]) rfl ?_
  refine cX11_put_l (sp_cnt x 8 0) (fun h => ?_) (fun n h hn => ?_) 8 0 (by decide) rfl
  · exact cX11_put_b (hbad (hnone h)) (hnone h)
  · exact cX11_put_t h7 hL hn (hsome n h) hbad hmany hgood
end MQ

