section CQ
variable {w : rk_W} {l : Launch} {Sh : rk_Sh} {I : rk_Mm} {R : rk_Rm}
theorem lb_k1 : ∀ c, c < 256 → (Int64.ofNat c).toUInt64.toNat = c ∧ (Int64.ofNat c).toInt32 = nI c ∧ vp_nar .char ((nI c).toUInt32 % 65536).toInt32 = nI c := by decide +kernel
theorem lb_n {x : Int64} {i : Nat} : ∃ c, c < 256 ∧ lb x i = nI c := by
  have hc : (lk x i).toUInt64.toNat % 256 < 256 := Nat.mod_lt _ (by decide)
  refine ⟨(lk x i).toUInt64.toNat % 256, hc, ?_⟩
  have e : lk x i &&& 255 = Int64.ofNat ((lk x i).toUInt64.toNat % 256) := l_inj (by
    rw [(lb_k1 _ hc).1, show (lk x i &&& 255).toUInt64 = (lk x i).toUInt64 &&& 255 from rfl, UInt64.toNat_and, show (255 : UInt64).toNat = 2 ^ 8 - 1 from rfl, Nat.and_two_pow_sub_one_eq_mod])
  rw [lb, e]
  exact (lb_k1 _ hc).2.1
theorem lb_c {x : Int64} {i : Nat} : vp_nar .char ((lb x i).toUInt32 % 65536).toInt32 = lb x i := by
  obtain ⟨c, hc, e⟩ := lb_n (x := x) (i := i)
  rw [e]
  exact (lb_k1 c hc).2.2
/-- the pad of the class: its signs and its length -/
def cp_st (I : rk_Mm) (p a : Nat) (F : Nat → Int32) (v : Int32) : rk_Mm := md_a (md_a I 15 a F) 4 p (sp_u (I 4 p) 1 v)
theorem cp_l {p a : Nat} {F : Nat → Int32} {v : Int32} : cp_st I p a F v 4 p 1 = v := by rw [cp_st, md_as, sp_us]
theorem cp_ul {p a : Nat} {F : Nat → Int32} {v x : Int32} : rk_uI (cp_st I p a F v) 4 p 1 x = cp_st I p a F x := by
  simp only [cp_st]
  rw [md_u]
  congr 1
  funext j
  simp only [sp_u]
  split <;> rfl
theorem cp_ua {p a j : Nat} {F : Nat → Int32} {v x : Int32} : rk_uI (cp_st I p a F v) 15 a j x = cp_st I p a (sp_u F j x) v := by
  simp only [cp_st]
  rw [md_u1]
  funext c b i
  simp only [md_a, sp_u]
  by_cases h1 : c = 4 ∧ b = p
  · obtain ⟨rfl, rfl⟩ := h1; simp
  · by_cases h2 : c = 15 ∧ b = a
    · obtain ⟨rfl, rfl⟩ := h2; simp
    · simp [h1, h2]
theorem cp_id {p a : Nat} : cp_st I p a (I 15 a) (I 4 p 1) = I := by
  have e : sp_u (I 4 p) 1 (I 4 p 1) = I 4 p := by
    funext j
    simp only [sp_u]
    by_cases h : j = 1
    · simp [h]
    · simp [h]
  rw [cp_st, md_self, e, md_self]
theorem cX3_append_l {p n L : Nat} {x : Int64} {Q : Int32 → rk_Mm → rk_Rm → Prop} (hL : L + n ≤ 80) (hn : n ≤ 8) (hk : ∀ F : Nat → Int32, (∀ j, F j = if L ≤ j ∧ j < L + n then lb x (n - 1 - (j - L)) else I 15 (R 4 p 0) j) → Q (nI (L + n)) (cp_st I p (R 4 p 0) F (nI (L + n))) R) : ∀ (k : Nat) (F : Nat → Int32), k ≤ n → (∀ j, F j = if L ≤ j ∧ j < L + (n - k) then lb x (n - 1 - (j - L)) else I 15 (R 4 p 0) j) → rk_Wp w l rk_mX3_append 3 0 0 (rk_GJ w Sh Q) 31 [(0, rk_a 4 p), (1, rk_l x), (3, rk_i (nI n)), (4, rk_i (nI k - 1))] [] (Sh, 0, 0) (cp_st I p (R 4 p 0) F (nI (L + (n - k)))) R := by
  intro k
  induction k with
  | zero =>
    intro F hkn hF
    refine rk_iload dX3_append_31 rfl ?_
    refine rk_if_lt 68 dX3_append_33 (by decide) (fun qz33 => ?_) (fun qz33 => ?_)
    · skip
      refine rk_aload_n 0 dX3_append_68 rfl rfl ?_
      refine rk_g4_1 rk_kX3_19 dX3_append_69 ?_
      rw [cp_l]
      refine rk_iretJ dX3_append_72 rfl rfl ?_
      exact hk F hF
    · skip
      exact absurd (by decide) qz33
  | succ k ih =>
    intro F hkn hF
    rw [nI_pred]
    refine rk_iload dX3_append_31 rfl ?_
    refine rk_if_lt 68 dX3_append_33 (by decide) (fun qz33 => ?_) (fun qz33 => ?_)
    · skip
      exact absurd qz33 (nI_pos (by omega))
    · skip
      refine rk_aload_n 0 dX3_append_36 rfl rfl ?_
      refine rk_g4_0 rk_kX3_11 dX3_append_37 ?_
      refine rk_aload_n 0 dX3_append_40 rfl rfl ?_
      refine rk_g4_1 rk_kX3_19 dX3_append_41 ?_
      rw [cp_l]
      refine rk_lload_n 1 dX3_append_44 rfl rfl ?_
      refine rk_pc (pc' := 45) rfl ?_
      refine rk_iload dX3_append_45 rfl ?_
      refine rk_cSp (cX3_codeAt_s (by omega)) rk_eX3_codeAt rfl rk_kX3_23 dX3_append_47 rfl (by decide) (Nat.le_of_ble_eq_true rfl) ⟨Nat.le_refl _, Nat.le_refl _⟩ ?_
      refine rk_i2c dX3_append_50 ?_
      refine rk_sn15 (L + (n - (k + 1))) dX3_append_51 (by first | rfl | decide | assumption | (simp only [rk_lit, nI_add, pk_mul, nI_1]; done) | (simp only [rk_lit, nI_add, pk_mul, nI_1]; congr 1; omega)) (by first | decide | assumption | omega) (fun Iz1 eIz1 => ?_)
      rw [lb_c, cp_ua] at eIz1
      obtain rfl := eIz1.symm
      refine rk_aload_n 0 dX3_append_52 rfl rfl ?_
      refine rk_dup dX3_append_53 rfl ?_
      refine rk_pc (pc' := 54) rfl ?_
      refine rk_g4_1 rk_kX3_19 dX3_append_54 ?_
      rw [cp_l]
      refine rk_iconst 1 dX3_append_57 (by decide) ?_
      refine rk_iadd dX3_append_58 ?_
      refine rk_p4_1 rk_kX3_19 dX3_append_59 (fun Iz2 eIz2 => ?_)
      rw [cp_ul, nI_1, show L + (n - (k + 1)) + 1 = L + (n - k) by omega] at eIz2
      obtain rfl := eIz2.symm
      refine rk_iinc (-1) (ls' := [(4, _), (0, _), (1, _), (3, _)]) dX3_append_62 (by decide) rfl (by decide) rfl ?_
      refine rk_goto 31 dX3_append_65 (by decide) ?_
      refine rk_pc (pc' := 31) rfl ?_
      refine rk_ord [0, 1, 3, 4] (ls' := [(0, _), (1, _), (3, _), (4, _)]) rfl ?_
      rw [show nI k + -1 = nI k - 1 from (Int32.sub_eq_add_neg _ _).symm]
      refine ih (sp_u F (L + (n - (k + 1))) (lb x k)) (by omega) (fun j => ?_)
      simp only [sp_u]
      by_cases hj : j = L + (n - (k + 1))
      · rw [if_pos hj, if_pos (by omega)]; congr 1; omega
      · rw [if_neg hj, hF j]
        by_cases h2 : L ≤ j ∧ j < L + (n - (k + 1))
        · rw [if_pos h2, if_pos (by omega)]
        · rw [if_neg h2, if_neg (by omega)]
theorem cX3_append_s {p L : Nat} (h1 : I 4 p 1 = nI L) (hL : L ≤ 80) (x : Int64) : rk_J w l rk_mX3_append 3 [rk_a 4 p, rk_l x] Sh I R (fun r I' R' => r = sp_put x L ∧ R' = R ∧ ((sp_many x = 0 ∨ 80 < L + sp_many x) ∧ I' = I ∨ (0 < sp_many x ∧ L + sp_many x ≤ 80 ∧ ∃ F, (∀ j, F j = if L ≤ j ∧ j < L + sp_many x then lb x (sp_many x - 1 - (j - L)) else I 15 (R 4 p 0) j) ∧ I' = cp_st I p (R 4 p 0) F (nI (L + sp_many x))))) := by
  have hm8 : sp_many x ≤ 8 := by
    have h : ∀ f n, n + f = 8 → ck x f n ≤ 8 := by
      intro f
      induction f with
      | zero => intro n hn; simp only [ck]; omega
      | succ f ih =>
        intro n hn
        simp only [ck]
        split
        · omega
        · split
          · exact ih (n + 1) (by omega)
          · omega
    rw [← ck_many]
    exact h 8 0 (by decide)
  have hbad : sp_many x = 0 → sp_put x L = -2 := fun h => if_pos h
  have hmany : ¬ sp_many x = 0 → 80 < L + sp_many x → sp_put x L = -4 := fun h h2 => (if_neg h).trans (if_pos h2)
  have hgood : ¬ sp_many x = 0 → ¬ 80 < L + sp_many x → sp_put x L = nI (L + sp_many x) := fun h h2 => (if_neg h).trans (if_neg h2)
  generalize hgn : sp_many x = n at *
  refine rk_bJ (ls := [(0, _), (1, _)]) (by decide) rfl (Nat.le_of_ble_eq_true rfl) ?_
  refine rk_lload_n 1 dX3_append_0 rfl rfl ?_
  refine rk_cSp (cX3_countOf_s) rk_eX3_countOf rfl rk_kX3_15 dX3_append_1 rfl (by decide) (Nat.le_of_ble_eq_true rfl) ⟨Nat.le_refl _, Nat.le_refl _⟩ ?_
  rw [hgn]
  refine rk_istore_n 3 (ls' := [(3, _), (0, _), (1, _)]) dX3_append_4 rfl (by decide) rfl ?_
  refine rk_iload_n 3 dX3_append_5 rfl rfl ?_
  refine rk_if_ne 12 dX3_append_6 (by decide) (fun qz6 => ?_) (fun qz6 => ?_)
  · skip
    refine rk_aload_n 0 dX3_append_12 rfl rfl ?_
    refine rk_g4_1 rk_kX3_19 dX3_append_13 ?_
    rw [h1]
    refine rk_pc (pc' := 16) rfl ?_
    refine rk_iload_n 3 dX3_append_16 rfl rfl ?_
    refine rk_iadd dX3_append_17 ?_
    rw [nI_add]
    refine rk_bipush 80 dX3_append_18 (by decide) ?_
    refine rk_icmp_le 26 dX3_append_20 (by decide) (fun qz20 => ?_) (fun qz20 => ?_)
    · skip
      refine rk_iload_n 3 dX3_append_26 rfl rfl ?_
      refine rk_iconst 1 dX3_append_27 (by decide) ?_
      refine rk_isub dX3_append_28 ?_
      refine rk_pc (pc' := 29) rfl ?_
      refine rk_istore (ls' := [(4, _), (3, _), (0, _), (1, _)]) dX3_append_29 (by decide) rfl ?_
      refine rk_ord [0, 1, 3, 4] (ls' := [(0, _), (1, _), (3, _), (4, _)]) rfl ?_
      have hn0 : ¬ n = 0 := fun z => qz6 (by rw [z]; rfl)
      have h2 : L + n ≤ 80 := (nI_leI (b := 80) (by omega) (by decide)).mp qz20
      have g := cX3_append_l (w := w) (l := l) (Sh := Sh) (I := I) (R := R) (p := p) (n := n) (L := L) (x := x) (Q := fun r I' R' => r = sp_put x L ∧ R' = R ∧ ((n = 0 ∨ 80 < L + n) ∧ I' = I ∨ (0 < n ∧ L + n ≤ 80 ∧ ∃ F, (∀ j, F j = if L ≤ j ∧ j < L + n then lb x (n - 1 - (j - L)) else I 15 (R 4 p 0) j) ∧ I' = cp_st I p (R 4 p 0) F (nI (L + n))))) h2 hm8 (fun F hF => ⟨(hgood hn0 (by omega)).symm, rfl, Or.inr ⟨by omega, h2, F, hF, rfl⟩⟩) n (I 15 (R 4 p 0)) (Nat.le_refl n) (fun j => by rw [if_neg (by omega)])
      rw [Nat.sub_self, Nat.add_zero, ← h1, cp_id] at g
      exact g
    · skip
      have h2 : 80 < L + n := Nat.lt_of_not_le (fun z => qz20 (nI_le (b := 80) z (by decide)))
      refine rk_bipush (-4) dX3_append_23 (by decide) ?_
      refine rk_iretJ dX3_append_25 rfl rfl ?_
      exact ⟨(hmany (fun z => qz6 (by rw [z]; rfl)) h2).symm, rfl, Or.inl ⟨Or.inr h2, rfl⟩⟩
  · skip
    obtain rfl : n = 0 := Classical.byContradiction fun z => nI_ne0 (Nat.pos_of_ne_zero z) (by omega) qz6
    refine rk_bipush (-2) dX3_append_9 (by decide) ?_
    refine rk_iretJ dX3_append_11 rfl rfl ?_
    exact ⟨(hbad rfl).symm, rfl, Or.inl ⟨Or.inl rfl, rfl⟩⟩
end CQ

