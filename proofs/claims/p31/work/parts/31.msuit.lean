/-- of the first n pieces the shortest that suits, the first of several; -6: none -/
noncomputable def sp_bp (N : Nat → Int32) (P : Nat → Nat → Int32) (O : Nat → Int32) : Nat → Int32
  | 0 => -6
  | n + 1 => @ite _ (sp_su N (P n) O ∧ (sp_bp N P O n < 0 ∨ P n 3 < P (sp_bp N P O n).toNatClampNeg 3)) (Classical.propDecidable _) (nI n) (sp_bp N P O n)
theorem sp_bp_in (N : Nat → Int32) (P : Nat → Nat → Int32) (O : Nat → Int32) : ∀ n : Nat, n ≤ 24 → sp_bp N P O n = -6 ∨ ∃ q, q < n ∧ sp_bp N P O n = nI q ∧ sp_su N (P q) O
  | 0, _ => Or.inl rfl
  | n + 1, hn => by
    simp only [sp_bp]
    split
    · rename_i h; exact Or.inr ⟨n, by omega, rfl, h.1⟩
    · rcases sp_bp_in N P O n (by omega) with h | ⟨q, h1, h2, h3⟩
      · exact Or.inl h
      · exact Or.inr ⟨q, by omega, h2, h3⟩
theorem sp_bp1 {N : Nat → Int32} {P : Nat → Nat → Int32} {O : Nat → Int32} {n : Nat} (h : sp_su N (P n) O ∧ (sp_bp N P O n < 0 ∨ P n 3 < P (sp_bp N P O n).toNatClampNeg 3)) : sp_bp N P O (n + 1) = nI n := if_pos h
theorem sp_bp0 {N : Nat → Int32} {P : Nat → Nat → Int32} {O : Nat → Int32} {n : Nat} (h : ¬ (sp_su N (P n) O ∧ (sp_bp N P O n < 0 ∨ P n 3 < P (sp_bp N P O n).toNatClampNeg 3))) : sp_bp N P O (n + 1) = sp_bp N P O n := if_neg h
/-- how many of the first n pieces suit -/
noncomputable def sp_ns (N : Nat → Int32) (P : Nat → Nat → Int32) (O : Nat → Int32) : Nat → Int32
  | 0 => 0
  | n + 1 => sp_ns N P O n + sp_b (sp_su N (P n) O)
def sp_fi (N : Nat → Int32) (c : Nat) : Prop := ∀ p, p < c → ∃ f, f < 3 ∧ N (50 + 7 * p + 0) = nI f
theorem rk_n6 : ((-6 : Int32) < 0) := by decide
section MS
variable {w : rk_W} {l : Launch} {Sh : rk_Sh} {I : rk_Mm} {R : rk_Rm}
end MS

