section MV
variable {w : rk_W} {l : Launch} {Sh : rk_Sh} {I : rk_Mm} {R : rk_Rm}
noncomputable def sp_least (N : Nat → Int32) (f s st : Int32) : Int32 := @ite _ (0 ≤ f ∧ f ≤ 2) (Classical.propDecidable _) (@ite _ ((3 ≤ s ∧ s ≤ 4) ∧ (1 ≤ st ∧ st ≤ 50000)) (Classical.propDecidable _) (sp_first (fun y => st ≤ sp_news N f.toNatClampNeg s (nI y)) 40 1) (-2)) (-1)
noncomputable def sp_finesIn (N : Nat → Int32) (d : Int32) : Int32 := @ite _ (1 ≤ d ∧ d ≤ 200) (Classical.propDecidable _) (sp_fines N d.toNatClampNeg (sp_c N 13)) (-2)
/-- the yarn in the pieces of a fibre -/
noncomputable def sp_yp (N : Nat → Int32) (fi : Nat) : Nat → Int32 := sp_sI (fun p => @ite _ (N (50 + 7 * p + 0) = nI fi) (Classical.propDecidable _) (N (50 + 7 * p + 4)) 0)
noncomputable def sp_acc (N : Nat → Int32) (fi k : Nat) : Int32 := if k = 0 then N (30 + 4 * fi) else if k = 1 then N (20 + 3 * fi + 2) else if k = 2 then sp_yp N fi (sp_c N 12) else N (30 + 4 * fi + (k - 2))
noncomputable def sp_account (N : Nat → Int32) (f k : Int32) : Int32 := @ite _ (0 ≤ f ∧ f ≤ 2) (Classical.propDecidable _) (@ite _ (0 ≤ k ∧ k ≤ 5) (Classical.propDecidable _) (sp_acc N f.toNatClampNeg k.toNatClampNeg) (-2)) (-1)
noncomputable def sp_count (N : Nat → Int32) (sg un k : Int32) : Int32 := @ite _ (9 ≤ k ∧ k ≤ 18) (Classical.propDecidable _) (N (k.toNatClampNeg - 9)) (@ite _ (19 ≤ k ∧ k ≤ 24) (Classical.propDecidable _) (N (20 + 3 * ((k.toNatClampNeg - 19) % 3) + (k.toNatClampNeg - 19) / 3)) (if k = 0 then N 10 else if k = 1 then N 12 else if k = 2 then N 13 else if k = 3 then sp_left N else if k = 4 then N 14 else if k = 5 then N 15 else if k = 6 then N 16 else if k = 7 then sg else if k = 8 then un else -2))
end MV

