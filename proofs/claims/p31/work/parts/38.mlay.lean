section MP
variable {w : rk_W} {l : Launch} {Sh : rk_Sh} {I : rk_Mm} {R : rk_Rm}
def sp_layN (N : Nat → Int32) (k c : Nat) (s y ft : Int32) : Nat → Int32 := sp_u (sp_u (sp_u (sp_u (sp_u (sp_u (sp_u (sp_u (sp_u (sp_u N (20 + 3 * k + 2) (N (20 + 3 * k + 2) - s * y * sp_yarn N ft)) 11 (N 11 + sp_hours N s ft)) (50 + 7 * c) (nI k)) (50 + 7 * c + 1) s) (50 + 7 * c + 2) y) (50 + 7 * c + 3) ft) (50 + 7 * c + 4) (s * y * sp_yarn N ft)) (50 + 7 * c + 5) (sp_qual N k)) (50 + 7 * c + 6) 0) 12 (N 12 + 1)
def sp_can (N : Nat → Int32) (k : Nat) (s y f : Int32) : Prop := sp_strand N f ≤ N 0 ∧ s * y * sp_yarn N f ≤ N (20 + 3 * k + 2) ∧ sp_hours N s f ≤ sp_left N
noncomputable def sp_lay (N : Nat → Int32) (f s y ft : Int32) : sp_R := @ite _ (0 ≤ f ∧ f ≤ 2) (Classical.propDecidable _) (@ite _ (((3 ≤ s ∧ s ≤ 4) ∧ (1 ≤ y ∧ y ≤ 40)) ∧ 1 ≤ ft ∧ ft ≤ 2000) (Classical.propDecidable _) (@ite _ (N 12 = 24) (Classical.propDecidable _) (-4, none) (@ite _ (sp_can N f.toNatClampNeg s y ft) (Classical.propDecidable _) (N 12 + 1 - 1, some (sp_layN N f.toNatClampNeg (sp_c N 12) s y ft)) (-5, none))) (-2, none)) (-1, none)
end MP

