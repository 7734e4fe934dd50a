section MT
variable {w : rk_W} {l : Launch} {Sh : rk_Sh} {I : rk_Mm} {R : rk_Rm}
def sp_testN (N : Nat → Int32) (p : Nat) : Nat → Int32 := sp_u (sp_cut N p (N 5)) (30 + 4 * sp_c N (50 + 7 * p + 0) + 2) (N (30 + 4 * sp_c N (50 + 7 * p + 0) + 2) + sp_yin (N (50 + 7 * p + 4)) (N 5) (N (50 + 7 * p + 3)))
noncomputable def sp_test (N : Nat → Int32) (p : Int32) : sp_R := @ite _ (sp_ispc N p) (Classical.propDecidable _) (if N 5 ≤ N (50 + 7 * p.toNatClampNeg + 3) then (sp_st N (sp_P N p.toNatClampNeg), some (sp_testN N p.toNatClampNeg)) else (-5, none)) (-1, none)
def sp_orderN (N : Nat → Int32) (k c : Nat) (st ft mn tr pr : Int32) : Nat → Int32 := sp_u (sp_u (sp_u (sp_u (sp_u (sp_u (sp_u (sp_u N (220 + 7 * c) (nI k)) (220 + 7 * c + 1) st) (220 + 7 * c + 2) ft) (220 + 7 * c + 3) mn) (220 + 7 * c + 4) (tr - tr / 2 * 2)) (220 + 7 * c + 5) (N 10 + tr / 2)) (220 + 7 * c + 6) pr) 13 (N 13 + 1)
def sp_orok (st ft mn tr pr : Int32) : Prop := (1 ≤ st ∧ st ≤ 50000) ∧ (1 ≤ ft ∧ ft ≤ 500) ∧ (1 ≤ mn ∧ mn ≤ 20) ∧ (0 ≤ tr ∧ tr ≤ 201) ∧ (0 ≤ pr ∧ pr ≤ 100000)
noncomputable def sp_order (N : Nat → Int32) (f st ft mn tr pr : Int32) : sp_R := @ite _ (0 ≤ f ∧ f ≤ 2) (Classical.propDecidable _) (@ite _ (sp_orok st ft mn tr pr) (Classical.propDecidable _) (@ite _ (N 13 = 16) (Classical.propDecidable _) (-4, none) (N 13 + 1 - 1, some (sp_orderN N f.toNatClampNeg (sp_c N 13) st ft mn tr pr))) (-2, none)) (-1, none)
end MT

