section CC
variable {rg : Nat → Nat} {I : rk_Mm} {R : rk_Rm} {q r c i f : Nat} {N : Nat → Int32}
theorem cl_sa.md {A : Nat → Nat → Int32} {G : Nat → Int32} (h : cl_sa I R q A) (hs : cl_ss rg R q r) (hf : f < 3) : cl_sa (md_a I 22 (R 21 (R 8 q 2) f) G) R q (fun g k => if g = f then G k else A g k) := by
  intro g hg k hk
  show _ = if g = f then G k else A g k
  by_cases hgf : g = f
  · subst hgf; rw [md_as, if_pos rfl]
  · rw [md_an (fun z => hgf (hs.2.2.2.2.2.2 g f hg hf z.2)), if_neg hgf]; exact h g hg k hk
theorem cl_sa.u {A : Nat → Nat → Int32} {k a j : Nat} {v : Int32} (h : cl_sa I R q A) (hk : 22 ≠ k) : cl_sa (rk_uI I k a j v) R q A := by
  intro g hg i hi
  rw [rk_uI_n (fun z => hk z.1)]
  exact h g hg i hi
theorem cl_sa.mr {A : Nat → Nat → Int32} {F : Nat → Nat} {b : Nat} (h : cl_sa I R q A) : cl_sa I (md_r R 20 b F) q A := by
  intro g hg i hi
  rw [mr_c (by decide), mr_c (by decide)]
  exact h g hg i hi
theorem cl_sa.cg {A B : Nat → Nat → Int32} (h : cl_sa I R q A) (e : ∀ g, g < 3 → ∀ k, k < 6 → A g k = B g k) : cl_sa I R q B := fun g hg k hk => (h g hg k hk).trans (e g hg k hk)
theorem cl_sp.cg {M : Nat → Int32} (h : cl_sp I R q N) (hc : N 12 = nI c) (hc2 : c ≤ 24) (e : ∀ j, j = 12 ∨ (50 ≤ j ∧ j < 218) → M j = N j) : cl_sp I R q M := by
  have e12 : sp_c M 12 = c := by rw [sp_c, e 12 (Or.inl rfl)]; exact sp_cN hc (by omega)
  refine ⟨by rw [e 12 (Or.inl rfl)]; exact h.1, fun p hp k hk => ?_⟩
  rw [e12] at hp
  rw [e _ (Or.inr (by omega))]
  exact h.2 p (by rw [sp_cN hc (by omega)]; exact hp) k hk
theorem cl_sp.up {k : Nat} {v : Int32} (h : cl_sp I R q N) (hs : cl_ss rg R q r) (hc : N 12 = nI c) (hc2 : c ≤ 24) (hi : i < c) (hk : k < 7) : cl_sp (rk_uI I 5 (R 20 (R 8 q 0) i) k v) R q (sp_u N (50 + 7 * i + k) v) := by
  have e12 : sp_c (sp_u N (50 + 7 * i + k) v) 12 = c := by rw [sp_c, sp_un (by omega)]; exact sp_cN hc (by omega)
  refine ⟨by rw [rk_uI_n (fun z => absurd z.1 (by decide)), sp_un (by omega)]; exact h.1, fun p hp j hj => ?_⟩
  rw [e12] at hp
  by_cases hpi : p = i
  · subst hpi
    by_cases hjk : j = k
    · subst hjk; rw [rk_uI_s, sp_us]
    · rw [rk_uI_n (fun z => hjk z.2.2), sp_un (by omega)]
      exact h.2 p (by rw [sp_cN hc (by omega)]; exact hp) j hj
  · rw [rk_uI_n (fun z => hpi (hs.2.2.2.2.2.1 p i (by omega) (by omega) z.2.1)), sp_un (by omega)]
    exact h.2 p (by rw [sp_cN hc (by omega)]; exact hp) j hj
theorem cl_sp.md {b : Nat} {F : Nat → Int32} (h : cl_sp I R q N) : cl_sp (md_a I 22 b F) R q N := by
  refine ⟨by rw [md_cc (by decide)]; exact h.1, fun p hp j hj => ?_⟩
  rw [md_cc (by decide)]; exact h.2 p hp j hj
theorem cl_sp.rm (h : cl_sp I R q N) (hc : N 12 = nI c) (hc2 : c ≤ 24) (hi : i < c) : cl_sp (rk_uI I 8 q 1 (nI (c - 1))) (md_r R 20 (R 8 q 0) (fun z => R 20 (R 8 q 0) (cl_sg i c z))) q (sp_gone N 12 50 i) := by
  have e12 : sp_c (sp_gone N 12 50 i) 12 = c - 1 := sp_cN (sp_gone_n hc (by omega)) (by omega)
  refine ⟨by rw [rk_uI_s, sp_gone_n hc (by omega)], fun p hp j hj => ?_⟩
  rw [e12] at hp
  have e8 : md_r R 20 (R 8 q 0) (fun z => R 20 (R 8 q 0) (cl_sg i c z)) 8 = R 8 := mr_c (by decide)
  rw [rk_uI_n (fun z => absurd z.1 (by decide)), e8, mr_s, sp_gone_p hc (by omega) (by decide) hp hj]
  show I 5 (R 20 (R 8 q 0) (cl_sg i c p)) j = _
  rw [cl_sg_l hp]
  exact h.2 _ (by rw [sp_cN hc (by omega)]; split <;> omega) j hj
theorem cl_ss.rm (hs : cl_ss rg R q r) (hc2 : c ≤ 24) (hi : i < c) : cl_ss rg (md_r R 20 (R 8 q 0) (fun z => R 20 (R 8 q 0) (cl_sg i c z))) q r := by
  have e8 : md_r R 20 (R 8 q 0) (fun z => R 20 (R 8 q 0) (cl_sg i c z)) 8 = R 8 := mr_c (by decide)
  have e21 : md_r R 20 (R 8 q 0) (fun z => R 20 (R 8 q 0) (cl_sg i c z)) 21 = R 21 := mr_c (by decide)
  unfold cl_ss
  rw [e8, e21, mr_s]
  exact ⟨hs.1, hs.2.1, hs.2.2.1, fun p hp => hs.2.2.2.1 _ (cl_sg_lt hi hc2 hp), hs.2.2.2.2.1, fun a b ha hb z => cl_sg_in hi (hs.2.2.2.2.2.1 _ _ (cl_sg_lt hi hc2 ha) (cl_sg_lt hi hc2 hb) z), hs.2.2.2.2.2.2⟩
theorem sp_uu {N : Nat → Int32} {j k : Nat} {x y : Int32} (h : j ≠ k) : sp_u (sp_u N j x) k y = sp_u (sp_u N k y) j x := by
  funext i
  simp only [sp_u]
  by_cases h1 : i = k
  · rw [if_pos h1, if_neg (by omega), if_pos h1]
  · rw [if_neg h1]
    by_cases h2 : i = j
    · rw [if_pos h2, if_pos h2]
    · rw [if_neg h2, if_neg h2, if_neg h1]
theorem sp_id {N : Nat → Int32} {j : Nat} : sp_u N j (N j) = N := by
  funext i
  simp only [sp_u]
  split
  · rename_i h; rw [h]
  · rfl
theorem sp_yin_all {y x : Int32} (hx : 0 < x) : sp_yin y x x = y := by
  have h0 := Int32.lt_iff_toInt_lt.mp hx
  have h1 := Int32.le_toInt y
  have h2 := Int32.toInt_lt y
  have h4 := Int32.toInt_lt x
  have hz : (0 : Int32).toInt = 0 := by decide
  rw [hz] at h0
  apply Int32.toInt_inj.mp
  have hm1 : y.toInt * x.toInt ≤ 2 ^ 31 * 2 ^ 31 := by
    rcases Int.le_total 0 y.toInt with h | h
    · exact Int.mul_le_mul (by omega) (by omega) (by omega) (by decide)
    · have := Int.mul_nonpos_of_nonpos_of_nonneg h (by omega : 0 ≤ x.toInt); omega
  have hm2 : - (2 ^ 31 * 2 ^ 31) ≤ y.toInt * x.toInt := by
    rcases Int.le_total 0 y.toInt with h | h
    · have := Int.mul_nonneg h (by omega : 0 ≤ x.toInt); omega
    · have := Int.mul_le_mul (a := - y.toInt) (b := x.toInt) (c := 2 ^ 31) (d := 2 ^ 31) (by omega) (by omega) (by omega) (by decide)
      rw [Int.neg_mul] at this
      omega
  rw [sp_yin, Int64.toInt_toInt32, Int64.toInt_div, Int64.toInt_mul, Int32.toInt_toInt64, Int32.toInt_toInt64]
  have hb : (y.toInt * x.toInt).bmod (2 ^ 64) = y.toInt * x.toInt := Int.bmod_eq_of_le (by omega) (by omega)
  have hb2 : y.toInt.bmod (2 ^ 64) = y.toInt := Int.bmod_eq_of_le (by omega) (by omega)
  have hb3 : y.toInt.bmod (2 ^ 32) = y.toInt := Int.bmod_eq_of_le (by omega) (by omega)
  rw [hb, Int.mul_tdiv_cancel _ (by omega), hb2, hb3]
theorem rk_sb0 {a b : Int32} (h : a - b = 0) : b = a := by grind
theorem sp_cut_lt {feet : Int32} (h6 : 1 ≤ N 6) (hL : 0 < N (50 + 7 * i + 3)) (h0 : N (50 + 7 * i) = nI f) (hf : f < 3) (hlt : N (50 + 7 * i + 3) - feet < N 6) : sp_cut N i feet = sp_gone (sp_cut2 N i feet) 12 50 i := by
  unfold sp_cut
  by_cases hz : N (50 + 7 * i + 3) - feet = 0
  · rw [if_pos hz]
    have e := rk_sb0 hz
    congr 1
    have e2 : sp_c N (50 + 7 * i) = f := sp_cN h0 (by omega)
    unfold sp_cut2
    rw [e2, e, sp_yin_all hL]
    have e3 : N (30 + 4 * f + 3) + (N (50 + 7 * i + 4) - N (50 + 7 * i + 4)) = sp_cut1 N i (N (50 + 7 * i + 3)) (30 + 4 * f + 3) := by
      rw [sp_cut1, sp_un (by omega), sp_un (by omega)]; grind
    rw [e3, sp_id]
  · rw [if_neg hz, if_pos hlt]
theorem sp_cut_ge {feet : Int32} (h6 : 1 ≤ N 6) (hge : N 6 ≤ N (50 + 7 * i + 3) - feet) : sp_cut N i feet = sp_cut1 N i feet := by
  unfold sp_cut
  rw [if_neg (fun z => absurd (Int32.le_trans h6 (z ▸ hge)) (by decide)), if_neg (Int32.not_lt.mpr hge)]
end CC

