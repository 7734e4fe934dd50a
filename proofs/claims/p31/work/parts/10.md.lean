/-! rows of numbers that change -/
def sp_u (N : Nat → Int32) (k : Nat) (v : Int32) : Nat → Int32 := fun j => if j = k then v else N j
theorem sp_us {N : Nat → Int32} {k : Nat} {v : Int32} : sp_u N k v k = v := if_pos rfl
theorem sp_un {N : Nat → Int32} {k j : Nat} {v : Int32} (h : j ≠ k) : sp_u N k v j = N j := if_neg h
def md_a (I : rk_Mm) (c a : Nat) (F : Nat → Int32) : rk_Mm := fun c' b j => if c' = c ∧ b = a then F j else I c' b j
theorem md_self {I : rk_Mm} {c a : Nat} : md_a I c a (I c a) = I := by
  funext c' b j
  unfold md_a
  split
  · rename_i h; rw [h.1, h.2]
  · rfl
theorem md_u {I : rk_Mm} {c a j : Nat} {F : Nat → Int32} {v : Int32} : rk_uI (md_a I c a F) c a j v = md_a I c a (sp_u F j v) := by
  funext c' b i
  unfold md_a rk_uI sp_u
  by_cases h1 : c' = c <;> by_cases h2 : b = a <;> by_cases h3 : i = j <;> simp [h1, h2, h3]
theorem md_u1 {I : rk_Mm} {c a j : Nat} {v : Int32} : rk_uI I c a j v = md_a I c a (sp_u (I c a) j v) := by
  have h := md_u (I := I) (c := c) (a := a) (j := j) (F := I c a) (v := v)
  rw [md_self] at h
  exact h
theorem md_as {I : rk_Mm} {c a : Nat} {F : Nat → Int32} : md_a I c a F c a = F := by
  funext j; simp [md_a]
theorem md_an {I : rk_Mm} {c a c' b : Nat} {F : Nat → Int32} (h : ¬ (c' = c ∧ b = a)) : md_a I c a F c' b = I c' b := by
  funext j; simp [md_a, h]
theorem md_ac {I : rk_Mm} {c a c' b : Nat} {F : Nat → Int32} (h : c' ≠ c) : md_a I c a F c' b = I c' b := md_an (fun z => h z.1)
theorem md_aa {I : rk_Mm} {c a : Nat} {F F' : Nat → Int32} : md_a (md_a I c a F) c a F' = md_a I c a F' := by
  funext c' b j
  unfold md_a
  split <;> rfl
theorem md_uc {I : rk_Mm} {c a j c' b : Nat} {v : Int32} (h : c' ≠ c) : rk_uI I c a j v c' b = I c' b := by
  funext i; exact rk_uI_n (fun z => h z.1)
/-- how many: a number of the row as a natural number -/
def sp_c (N : Nat → Int32) (k : Nat) : Nat := (N k).toNatClampNeg
theorem sp_cN {N : Nat → Int32} {k c : Nat} (h : N k = nI c) (hc : c < 2 ^ 31) : sp_c N k = c := by rw [sp_c, h]; exact nI_clamp hc
/-- what is behind moves up when a piece (an order) is gone -/
def sp_gone (N : Nat → Int32) (cnt base p : Nat) : Nat → Int32 := fun j => if j = cnt then N cnt - 1 else if base + 7 * p ≤ j ∧ j < base + 7 * (sp_c N cnt - 1) then N (j + 7) else N j
abbrev sp_P (N : Nat → Int32) (p : Nat) : Nat → Int32 := fun k => N (50 + 7 * p + k)
abbrev sp_O (N : Nat → Int32) (o : Nat) : Nat → Int32 := fun k => N (220 + 7 * o + k)
theorem sp_b1i {p : Prop} : (1 = sp_b p) = p := propext ⟨fun h => Classical.byContradiction fun g => by (rw [← sp_b0 g] at h; cases h), sp_b1⟩
theorem sp_b0j {p : Prop} : (0 = sp_b p) = ¬ p := propext ⟨fun h g => by (rw [← sp_b1 g] at h; cases h), sp_b0⟩
theorem sp_b0i {p : Prop} : (sp_b p = 0) = ¬ p := propext ⟨sp_bf, fun g => (sp_b0 g).symm⟩
theorem rk_ufs {I I' : rk_Mm} {c a j : Nat} {v : Int32} (h : I' = rk_uI I c a j v) : I' c a j = v := by rw [h]; exact rk_uI_s
theorem rk_ufn {I I' : rk_Mm} {c a j : Nat} {v : Int32} (h : I' = rk_uI I c a j v) (i : Nat) (hi : i ≠ j) : I' c a i = I c a i := by rw [h]; exact rk_uI_n (fun z => hi z.2.2)
theorem rk_ufc {I I' : rk_Mm} {c a j c' : Nat} {v : Int32} (h : I' = rk_uI I c a j v) (hc : c' ≠ c) : I' c' = I c' := by rw [h]; funext b i; exact rk_uI_n (fun z => hc z.1)
theorem md_c1 {I I1 : rk_Mm} {c a j : Nat} {v : Int32} (e : I1 = rk_uI I c a j v) : I1 = md_a I c a (sp_u (I c a) j v) := e.trans md_u1
theorem md_ch {I I1 I2 : rk_Mm} {c a j : Nat} {v : Int32} {F : Nat → Int32} (h : I1 = md_a I c a F) (e : I2 = rk_uI I1 c a j v) : I2 = md_a I c a (sp_u F j v) := by rw [e, h, md_u]
theorem md_cg {I I1 I2 : rk_Mm} {c a : Nat} {F G : Nat → Int32} (h : I1 = md_a I c a F) (e : I2 = md_a I1 c a G) : I2 = md_a I c a G := by rw [e, h, md_aa]
