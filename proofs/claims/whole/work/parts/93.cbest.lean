section DB
variable {N : Nat → Int32} {T : Int}
theorem rk_sm31 : ∀ o, o < 31 → ((nI o &&& 31).toBitVec.smod 32).toNat = o := by decide +kernel
theorem sp_bit_t {s o : Nat} (hs : s < 1024) (ho : o < 10) : sp_bit s o ↔ s.testBit o = true := by
  unfold sp_bit
  have hd : s / 2 ^ o ≤ s := Nat.div_le_self _ _
  rw [pk_shrN (by omega) _ o (rk_sm31 o (by omega)), show (1 : Int32) = nI 1 from rfl, nI_and, Nat.and_one_is_mod, nI_eq (by omega) (by decide), Nat.testBit_eq_decide_div_mod_eq, decide_eq_true_iff]
theorem sp_tr_s {s n o : Nat} {Q : Nat → Int32} (hs : s < 1024) (ho : o < 10) : sp_tr s (n + 1) o Q = if s.testBit o = true then sp_tr s n (o + 1) (sp_cf o (sp_c Q (220 + 7 * o + 3)) Q).1 else sp_tr s n (o + 1) Q := by
  simp only [sp_tr]
  by_cases h : s.testBit o = true
  · rw [if_pos h, if_pos ((sp_bit_t hs ho).mpr h)]
  · rw [if_neg h, if_neg (fun z => h ((sp_bit_t hs ho).mp z))]
theorem sp_nb_s {s n o : Nat} (hs : s < 1024) (ho : o < 10) : sp_nb s (n + 1) o = sp_nb s n (o + 1) + if s.testBit o = true then 1 else 0 := by
  simp only [sp_nb]
  by_cases h : s.testBit o = true
  · rw [if_pos h, if_pos ((sp_bit_t hs ho).mpr h)]
  · rw [if_neg h, if_neg (fun z => h ((sp_bit_t hs ho).mp z))]
theorem sp_tr_c {s s' : Nat} (hs : s < 1024) (hs' : s' < 1024) : ∀ (n o : Nat) (Q : Nat → Int32), o + n ≤ 10 → (∀ j, o ≤ j → j < o + n → s'.testBit j = s.testBit j) → sp_tr s' n o Q = sp_tr s n o Q ∧ sp_nb s' n o = sp_nb s n o := by
  intro n
  induction n with
  | zero => intro o Q _ _; exact ⟨rfl, rfl⟩
  | succ n ih =>
    intro o Q ho h
    have ho1 : o < 10 := by omega
    rw [sp_tr_s hs ho1, sp_tr_s hs' ho1, sp_nb_s hs ho1, sp_nb_s hs' ho1, h o (Nat.le_refl _) (by omega)]
    refine ⟨?_, by rw [(ih (o + 1) Q (by omega) (fun j h1 h2 => h j (by omega) (by omega))).2]⟩
    rw [(ih (o + 1) Q (by omega) (fun j h1 h2 => h j (by omega) (by omega))).1, (ih (o + 1) _ (by omega) (fun j h1 h2 => h j (by omega) (by omega))).1]
theorem sp_nb_p {s : Nat} (hs : s < 1024) : ∀ n o, o + n ≤ 10 → sp_nb s n o = sp_pop n (s / 2 ^ o) := by
  intro n
  induction n with
  | zero => intro o _; rfl
  | succ n ih =>
    intro o ho
    rw [sp_nb_s hs (by omega), ih (o + 1) (by omega)]
    simp only [sp_pop]
    rw [Nat.div_div_eq_div_mul, ← Nat.pow_succ, Nat.testBit_eq_decide_div_mod_eq]
    rcases Nat.mod_two_eq_zero_or_one (s / 2 ^ o) with h | h <;> rw [h] <;> simp <;> omega
theorem sp_pop_0 : ∀ f, sp_pop f 0 = 0 := by
  intro f
  induction f with
  | zero => rfl
  | succ f ih => simp only [sp_pop]; rw [Nat.zero_div, ih]
theorem sp_pop_x {k : Nat} : ∀ f s, s < 2 ^ f → sp_pop (f + k) s = sp_pop f s := by
  intro f
  induction f with
  | zero =>
    intro s hs
    have : s = 0 := by omega
    subst this
    rw [sp_pop_0, sp_pop_0]
  | succ f ih =>
    intro s hs
    rw [Nat.succ_add]
    simp only [sp_pop]
    rw [ih (s / 2) (by rw [Nat.pow_succ] at hs; omega)]
theorem sp_nb_10 {s m : Nat} (hm : m ≤ 10) (hs : s < 2 ^ m) : sp_nb s m 0 = sp_pop 10 s := by
  have h := sp_pop_x (k := 10 - m) m s hs
  rw [show m + (10 - m) = 10 by omega] at h
  rw [sp_nb_p (rk_p10 hs hm) m 0 (by omega), Nat.pow_zero, Nat.div_one, h]
theorem sp_bet_n {x y : Nat × Int32} : sp_bet x y ↔ y.2.toInt < x.2.toInt ∨ (x.2.toInt = y.2.toInt ∧ (sp_pop 10 x.1 < sp_pop 10 y.1 ∨ (sp_pop 10 x.1 = sp_pop 10 y.1 ∧ x.1 < y.1))) := by
  unfold sp_bet
  rw [Int32.lt_iff_toInt_lt, ← Int32.toInt_inj]
theorem sp_bet_tr {x y z : Nat × Int32} (h : sp_bet x y) (g : sp_bet y z) : sp_bet x z := by
  rw [sp_bet_n] at *
  omega
theorem sp_bet_ir {x : Nat × Int32} : ¬ sp_bet x x := by
  rw [sp_bet_n]
  omega
theorem sp_bet_3 {x y : Nat × Int32} : sp_bet x y ∨ sp_bet y x ∨ x = y := by
  rw [sp_bet_n, sp_bet_n]
  by_cases h : x.2.toInt = y.2.toInt
  · by_cases h1 : x.1 = y.1
    · exact Or.inr (Or.inr (Prod.ext h1 (Int32.toInt_inj.mp h)))
    · have h2 : sp_pop 10 x.1 < sp_pop 10 y.1 ∨ sp_pop 10 x.1 = sp_pop 10 y.1 ∨ sp_pop 10 y.1 < sp_pop 10 x.1 := Nat.lt_trichotomy _ _
      omega
  · omega
theorem sp_cf_0 {o n : Nat} {Q : Nat → Int32} (h : (sp_cf o n Q).2 = 0) : (sp_cf o n Q).1 = Q := by
  cases n with
  | zero => rfl
  | succ n =>
    by_cases hb : sp_bq Q o < 0
    · rw [sp_cf0 hb]
    · have e : sp_cf o (n + 1) Q = ((sp_cf o n (sp_step Q o (sp_bq Q o).toNatClampNeg)).1, (sp_cf o n (sp_step Q o (sp_bq Q o).toNatClampNeg)).2 + 1) := if_neg hb
      rw [e] at h
      exact absurd h (Nat.succ_ne_zero _)
/-- each order of the set gets a rope -/
def sp_pr (S : Nat) : Nat → Nat → (Nat → Int32) → Prop
  | 0, _, _ => True
  | n + 1, o, Q => if S.testBit o = true then 0 < (sp_cf o (sp_c Q (220 + 7 * o + 3)) Q).2 ∧ sp_pr S n (o + 1) (sp_cf o (sp_c Q (220 + 7 * o + 3)) Q).1 else sp_pr S n (o + 1) Q
theorem sp_impr {S m : Nat} (hS : S < 2 ^ m) (hm : m ≤ 10) : ∀ (n o : Nat) (Q : Nat → Int32), o + n ≤ m → ¬ sp_pr S n o Q → ∃ S', S' < 2 ^ m ∧ (∀ j, j < o → S'.testBit j = S.testBit j) ∧ sp_tr S' n o Q = sp_tr S n o Q ∧ sp_nb S' n o < sp_nb S n o := by
  have hS10 := rk_p10 hS hm
  intro n
  induction n with
  | zero => intro o Q _ h; exact absurd trivial h
  | succ n ih =>
    intro o Q ho h
    have ho1 : o < 10 := by omega
    simp only [sp_pr] at h
    by_cases hb : S.testBit o = true
    · rw [if_pos hb] at h
      by_cases hk : 0 < (sp_cf o (sp_c Q (220 + 7 * o + 3)) Q).2
      · obtain ⟨S', g1, g2, g3, g4⟩ := ih (o + 1) (sp_cf o (sp_c Q (220 + 7 * o + 3)) Q).1 (by omega) (fun z => h ⟨hk, z⟩)
        have hbit : S'.testBit o = true := by rw [g2 o (by omega)]; exact hb
        refine ⟨S', g1, fun j hj => g2 j (by omega), ?_, ?_⟩
        · rw [sp_tr_s hS10 ho1, sp_tr_s (rk_p10 g1 hm) ho1, if_pos hb, if_pos hbit, g3]
        · rw [sp_nb_s hS10 ho1, sp_nb_s (rk_p10 g1 hm) ho1, if_pos hb, if_pos hbit]; omega
      · have hx : S ^^^ 2 ^ o < 2 ^ m := Nat.xor_lt_two_pow hS (Nat.pow_lt_pow_right (by decide) (by omega))
        have hbj : ∀ j, j ≠ o → (S ^^^ 2 ^ o).testBit j = S.testBit j := fun j hj => by rw [Nat.testBit_xor, Nat.testBit_two_pow_of_ne (fun z => hj z.symm), Bool.xor_false]
        have hbo : ¬ (S ^^^ 2 ^ o).testBit o = true := by rw [Nat.testBit_xor, Nat.testBit_two_pow_self, hb]; decide
        have hc := fun Q => sp_tr_c hS10 (rk_p10 hx hm) n (o + 1) Q (by omega) (fun j h1 h2 => hbj j (by omega))
        refine ⟨S ^^^ 2 ^ o, hx, fun j hj => hbj j (by omega), ?_, ?_⟩
        · rw [sp_tr_s hS10 ho1, sp_tr_s (rk_p10 hx hm) ho1, if_pos hb, if_neg hbo, (hc Q).1, sp_cf_0 (by omega)]
        · rw [sp_nb_s hS10 ho1, sp_nb_s (rk_p10 hx hm) ho1, if_pos hb, if_neg hbo, (hc Q).2]; omega
    · rw [if_neg hb] at h
      obtain ⟨S', g1, g2, g3, g4⟩ := ih (o + 1) Q (by omega) h
      have hbit : ¬ S'.testBit o = true := by rw [g2 o (by omega)]; exact hb
      refine ⟨S', g1, fun j hj => g2 j (by omega), ?_, ?_⟩
      · rw [sp_tr_s hS10 ho1, sp_tr_s (rk_p10 g1 hm) ho1, if_neg hb, if_neg hbit, g3]
      · rw [sp_nb_s hS10 ho1, sp_nb_s (rk_p10 g1 hm) ho1, if_neg hb, if_neg hbit]; omega
theorem sp_bits_eq {S s o : Nat} (hS : S < 2 ^ o) (hs : s < 2 ^ o) (h : ∀ j, j < o → S.testBit j = s.testBit j) : S = s := by
  apply Nat.eq_of_testBit_eq
  intro j
  by_cases hj : j < o
  · exact h j hj
  · rw [Nat.testBit_lt_two_pow (Nat.lt_of_lt_of_le hS (Nat.pow_le_pow_right (by decide) (by omega))), Nat.testBit_lt_two_pow (Nat.lt_of_lt_of_le hs (Nat.pow_le_pow_right (by decide) (by omega)))]
theorem sp_ch_sp : ∀ (n o s : Nat) (v : Int32) (Q : Nat → Int32) (b : Nat × Int32), o + n ≤ 10 → s < 2 ^ o → sp_ow T Q o n →
    (sp_ch n o s v Q b = b ∨ sp_bet (sp_ch n o s v Q b) b) ∧ (sp_ch n o s v Q b = b ∨ ∃ S, S < 2 ^ (o + n) ∧ (∀ j, j < o → S.testBit j = s.testBit j) ∧ sp_ch n o s v Q b = (S, v + (sp_tr S n o Q 15 - Q 15))) ∧
    ∀ S, S < 2 ^ (o + n) → (∀ j, j < o → S.testBit j = s.testBit j) → sp_pr S n o Q → ¬ sp_bet (S, v + (sp_tr S n o Q 15 - Q 15)) (sp_ch n o s v Q b) := by
  intro n
  induction n with
  | zero =>
    intro o s v Q b ho hs how
    have hv : v + (Q 15 - Q 15) = v := by grind
    refine ⟨?_, ?_, ?_⟩
    · by_cases h : sp_bet (s, v) b
      · right; show sp_bet (sp_cmp (s, v) b) b; rw [sp_cmp_y h]; exact h
      · left; exact sp_cmp_n h
    · by_cases h : sp_bet (s, v) b
      · refine Or.inr ⟨s, hs, fun j _ => rfl, ?_⟩
        show sp_cmp (s, v) b = (s, v + (Q 15 - Q 15))
        rw [sp_cmp_y h, hv]
      · exact Or.inl (sp_cmp_n h)
    · intro S hS hb _
      obtain rfl := sp_bits_eq (o := o) hS hs hb
      show ¬ sp_bet (S, v + (Q 15 - Q 15)) (sp_cmp (S, v) b)
      rw [hv]
      by_cases h : sp_bet (S, v) b
      · rw [sp_cmp_y h]; exact sp_bet_ir
      · rw [sp_cmp_n h]; exact h
  | succ n ih =>
    intro o s v Q b ho hs how
    have ho1 : o < 10 := by omega
    have hs2 : s < 2 ^ (o + 1) := Nat.lt_trans hs (Nat.pow_lt_pow_right (by decide) (by omega))
    have hor := sp_or_lt hs (n := 10) ho1 (by decide)
    obtain ⟨hov, kq, hkq, hkn⟩ := how.2 o (Nat.le_refl _) (by omega)
    obtain ⟨pcq, hpq⟩ := how.1
    have hsq : sp_c Q (220 + 7 * o + 3) = kq := sp_cN hkn (by omega)
    obtain ⟨how2, -⟩ := sp_ow_cf how (by omega) hkq hkn
    obtain ⟨-, m15⟩ := sp_cf_m (o := o) (by omega) kq pcq Q hkq hpq hov hkn
    have hsb : s.testBit o = false := Nat.testBit_lt_two_pow hs
    obtain ⟨a1, a2, a3⟩ := ih (o + 1) s v Q b (by omega) hs2 (sp_ow_s how)
    have hch : sp_ch (n + 1) o s v Q b = @ite _ (0 < (sp_cf o kq Q).2) (Classical.propDecidable _) (sp_ch n (o + 1) (s ||| 2 ^ o) (v + nI (sp_cf o kq Q).2 * Q (220 + 7 * o + 6)) (sp_cf o kq Q).1 (sp_ch n (o + 1) s v Q b)) (sp_ch n (o + 1) s v Q b) := by
      simp only [sp_ch]
      rw [hsq]
    rw [show o + (n + 1) = o + 1 + n by omega]
    -- sets without o
    have l1 : (sp_ch n (o + 1) s v Q b = b ∨ ∃ S, S < 2 ^ (o + 1 + n) ∧ (∀ j, j < o → S.testBit j = s.testBit j) ∧ sp_ch n (o + 1) s v Q b = (S, v + (sp_tr S (n + 1) o Q 15 - Q 15))) := by
      rcases a2 with h | ⟨S, h1, h2, h3⟩
      · exact Or.inl h
      · refine Or.inr ⟨S, h1, fun j hj => h2 j (by omega), ?_⟩
        have hb : ¬ S.testBit o = true := by rw [h2 o (by omega), hsb]; decide
        rw [sp_tr_s (rk_p10 h1 (by omega)) ho1, if_neg hb]
        exact h3
    have l3 : ∀ S, S < 2 ^ (o + 1 + n) → (∀ j, j < o → S.testBit j = s.testBit j) → ¬ S.testBit o = true → sp_pr S (n + 1) o Q → ¬ sp_bet (S, v + (sp_tr S (n + 1) o Q 15 - Q 15)) (sp_ch n (o + 1) s v Q b) := by
      intro S h1 h2 hb hp
      simp only [sp_pr] at hp
      rw [if_neg hb] at hp
      rw [sp_tr_s (rk_p10 h1 (by omega)) ho1, if_neg hb]
      refine a3 S h1 (fun j hj => ?_) hp
      by_cases hjo : j = o
      · subst hjo
        rw [hsb]
        exact Bool.eq_false_iff.mpr hb
      · exact h2 j (by omega)
    by_cases hk : 0 < (sp_cf o kq Q).2
    · rw [hch, if_pos hk]
      generalize hb1 : sp_ch n (o + 1) s v Q b = b1 at *
      obtain ⟨c1, c2, c3⟩ := ih (o + 1) (s ||| 2 ^ o) (v + nI (sp_cf o kq Q).2 * Q (220 + 7 * o + 6)) (sp_cf o kq Q).1 b1 (by omega) hor.1 how2
      have hval : ∀ X : Int32, v + nI (sp_cf o kq Q).2 * Q (220 + 7 * o + 6) + (X - (sp_cf o kq Q).1 15) = v + (X - Q 15) := fun X => by rw [m15]; grind
      have hso : ∀ j, j < o → (s ||| 2 ^ o).testBit j = s.testBit j := fun j hj => by rw [Nat.testBit_or, Nat.testBit_two_pow_of_ne (by omega), Bool.or_false]
      have hsoo : (s ||| 2 ^ o).testBit o = true := by rw [Nat.testBit_or, Nat.testBit_two_pow_self, Bool.or_true]
      generalize hr : sp_ch n (o + 1) (s ||| 2 ^ o) (v + nI (sp_cf o kq Q).2 * Q (220 + 7 * o + 6)) (sp_cf o kq Q).1 b1 = r at *
      refine ⟨?_, ?_, ?_⟩
      · rcases c1 with h | h
        · rw [h]; exact a1
        · rcases a1 with g | g
          · rw [g] at h; exact Or.inr h
          · exact Or.inr (sp_bet_tr h g)
      · rcases c2 with h | ⟨S, h1, h2, h3⟩
        · rw [h]; exact l1
        · refine Or.inr ⟨S, h1, fun j hj => (h2 j (by omega)).trans (hso j hj), ?_⟩
          have hb : S.testBit o = true := by rw [h2 o (by omega)]; exact hsoo
          rw [sp_tr_s (rk_p10 h1 (by omega)) ho1, if_pos hb, hsq, h3, hval]
      · intro S h1 h2 hp
        by_cases hb : S.testBit o = true
        · have hp2 := hp
          simp only [sp_pr] at hp2
          rw [if_pos hb, hsq] at hp2
          have g := c3 S h1 (fun j hj => by
            by_cases hjo : j = o
            · subst hjo; rw [hb, hsoo]
            · rw [hso j (by omega)]; exact h2 j (by omega)) hp2.2
          rw [hval] at g
          rw [sp_tr_s (rk_p10 h1 (by omega)) ho1, if_pos hb, hsq]
          exact g
        · intro z
          have g := l3 S h1 h2 hb hp
          rcases c1 with h | h
          · rw [h] at z; exact g z
          · exact g (sp_bet_tr z h)
    · rw [hch, if_neg hk]
      refine ⟨a1, l1, fun S h1 h2 hp => ?_⟩
      by_cases hb : S.testBit o = true
      · simp only [sp_pr] at hp
        rw [if_pos hb, hsq] at hp
        exact absurd hp.1 hk
      · exact l3 S h1 h2 hb hp
theorem sp_bs_sp {many : Nat} (hm : many ≤ 10) : ∀ (n s : Nat) (t : Nat × Int32 × Nat), s + n = 2 ^ many → t.1 < s → t.2.1 = sp_tr t.1 many 0 N 15 - N 15 → t.2.2 = sp_pop 10 t.1 → (∀ S, S < s → ¬ sp_bet (S, sp_tr S many 0 N 15 - N 15) (t.1, t.2.1)) → (sp_bs N many n s t).1 < 2 ^ many ∧ (sp_bs N many n s t).2.1 = sp_tr (sp_bs N many n s t).1 many 0 N 15 - N 15 ∧ ∀ S, S < 2 ^ many → ¬ sp_bet (S, sp_tr S many 0 N 15 - N 15) ((sp_bs N many n s t).1, (sp_bs N many n s t).2.1) := by
  intro n
  induction n with
  | zero =>
    intro s t hs h1 h2 h3 h4
    obtain rfl : s = 2 ^ many := by omega
    exact ⟨h1, h2, h4⟩
  | succ n ih =>
    intro s t hs h1 h2 h3 h4
    have hsm : s < 2 ^ many := by omega
    have hn := sp_nb_10 hm hsm
    have e0 : sp_bs N many (n + 1) s t = sp_bs N many n (s + 1) (sp_bst N many s t) := rfl
    rw [e0]
    by_cases hc : t.2.1 < sp_tr s many 0 N 15 - N 15 ∨ (sp_tr s many 0 N 15 - N 15 = t.2.1 ∧ sp_nb s many 0 < t.2.2)
    · have e : sp_bst N many s t = (s, sp_tr s many 0 N 15 - N 15, sp_nb s many 0) := if_pos hc
      rw [e]
      have hbet : sp_bet (s, sp_tr s many 0 N 15 - N 15) (t.1, t.2.1) := by
        rcases hc with hc | ⟨c1, c2⟩
        · exact Or.inl hc
        · exact Or.inr ⟨c1, Or.inl (by rw [hn, h3] at c2; exact c2)⟩
      refine ih (s + 1) (s, sp_tr s many 0 N 15 - N 15, sp_nb s many 0) (by omega) (by show s < s + 1; omega) rfl hn (fun S hS => ?_)
      by_cases hSs : S = s
      · subst hSs; exact sp_bet_ir
      · intro z
        exact h4 S (by omega) (sp_bet_tr z hbet)
    · have e : sp_bst N many s t = t := if_neg hc
      rw [e]
      refine ih (s + 1) t (by omega) (by omega) h2 h3 (fun S hS => ?_)
      by_cases hSs : S = s
      · subst hSs
        intro z
        rcases z with z | ⟨z1, z2 | ⟨z2, z3⟩⟩
        · exact hc (Or.inl z)
        · exact hc (Or.inr ⟨z1, by rw [hn, h3]; exact z2⟩)
        · exact absurd z3 (by show ¬ S < t.1; omega)
      · exact h4 S (by omega)
theorem sp_tr_0 : ∀ (n o : Nat) (Q : Nat → Int32), o + n ≤ 10 → sp_tr 0 n o Q = Q := by
  intro n
  induction n with
  | zero => intro o Q _; rfl
  | succ n ih =>
    intro o Q ho
    rw [sp_tr_s (by decide) (by omega), if_neg (by rw [Nat.zero_testBit]; decide)]
    exact ih (o + 1) Q (by omega)
/-- the tree finds what all sets, one after the other, find -/
theorem sp_ch_bs {many : Nat} (hm : many ≤ 10) (how : sp_ow T N 0 many) : sp_ch many 0 0 0 N (0, 0) = ((sp_bs N many (2 ^ many - 1) 1 (0, 0, 0)).1, (sp_bs N many (2 ^ many - 1) 1 (0, 0, 0)).2.1) := by
  have hpos : 0 < 2 ^ many := Nat.two_pow_pos _
  have hz : sp_tr 0 many 0 N 15 - N 15 = 0 := by rw [sp_tr_0 many 0 N (by omega)]; grind
  obtain ⟨b1, b2, b3⟩ := sp_bs_sp (N := N) hm (2 ^ many - 1) 1 (0, 0, 0) (by omega) (by decide) hz.symm (sp_pop_0 10).symm (fun S hS => by
    obtain rfl : S = 0 := by omega
    rw [hz]; exact sp_bet_ir)
  generalize sp_bs N many (2 ^ many - 1) 1 (0, 0, 0) = t at *
  obtain ⟨-, r2, r3⟩ := sp_ch_sp (T := T) many 0 0 0 N (0, 0) (by omega) (by decide) how
  rw [Nat.zero_add] at r2 r3
  have e0 : ∀ X : Int32, (0 : Int32) + X = X := fun X => by grind
  have hr : ∃ S, S < 2 ^ many ∧ sp_ch many 0 0 0 N (0, 0) = (S, sp_tr S many 0 N 15 - N 15) := by
    rcases r2 with h | ⟨S, h1, -, h3⟩
    · exact ⟨0, hpos, by rw [h, hz]⟩
    · exact ⟨S, h1, by rw [h3, e0]⟩
  obtain ⟨S, hS, hr⟩ := hr
  rcases sp_bet_3 (x := (t.1, t.2.1)) (y := sp_ch many 0 0 0 N (0, 0)) with h | h | h
  · exfalso
    by_cases hp : sp_pr t.1 many 0 N
    · have g := r3 t.1 b1 (fun j hj => absurd hj (Nat.not_lt_zero j)) hp
      rw [e0, ← b2] at g
      exact g h
    · obtain ⟨S', g1, -, g3, g4⟩ := sp_impr b1 hm many 0 N (by omega) hp
      refine b3 S' g1 (Or.inr ⟨by rw [g3]; exact b2.symm, Or.inl ?_⟩)
      rw [sp_nb_10 hm g1, sp_nb_10 hm b1] at g4
      exact g4
  · exfalso
    rw [hr] at h
    exact b3 S hS h
  · exact h.symm
end DB

