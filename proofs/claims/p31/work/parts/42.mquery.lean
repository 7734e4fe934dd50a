section MU
variable {w : rk_W} {l : Launch} {Sh : rk_Sh} {I : rk_Mm} {R : rk_Rm}
noncomputable def sp_piece (N : Nat → Int32) (p k : Int32) : Int32 := @ite _ (sp_ispc N p) (Classical.propDecidable _) (@ite _ (0 ≤ k ∧ k ≤ 6) (Classical.propDecidable _) (N (50 + 7 * p.toNatClampNeg + k.toNatClampNeg)) (if k = 7 then sp_st N (sp_P N p.toNatClampNeg) else -2)) (-1)
noncomputable def sp_ofOrder (N : Nat → Int32) (p k : Int32) : Int32 := @ite _ (sp_isor N p) (Classical.propDecidable _) (@ite _ (0 ≤ k ∧ k ≤ 6) (Classical.propDecidable _) (N (220 + 7 * p.toNatClampNeg + k.toNatClampNeg)) (if k = 7 then sp_ns N (sp_P N) (sp_O N p.toNatClampNeg) (sp_c N 12) else -2)) (-1)
noncomputable def sp_takes (N : Nat → Int32) (f s y ft k : Int32) : Int32 := @ite _ (0 ≤ f ∧ f ≤ 2) (Classical.propDecidable _) (@ite _ (((3 ≤ s ∧ s ≤ 4) ∧ (1 ≤ y ∧ y ≤ 40)) ∧ 1 ≤ ft ∧ ft ≤ 2000) (Classical.propDecidable _) (sp_take N f.toNatClampNeg s y ft k) (-2)) (-1)
noncomputable def sp_longest (N : Nat → Int32) (f s y : Int32) : Int32 := @ite _ (0 ≤ f ∧ f ≤ 2) (Classical.propDecidable _) (@ite _ ((3 ≤ s ∧ s ≤ 4) ∧ (1 ≤ y ∧ y ≤ 40)) (Classical.propDecidable _) (sp_last (fun ft => sp_can N f.toNatClampNeg s y (nI ft)) 2000) (-2)) (-1)
end MU

