section MF
variable {w : rk_W} {l : Launch} {Sh : rk_Sh} {I : rk_Mm} {R : rk_Rm}
/-- of days days from t on, how many a due day du is not after -/
def sp_late (t days du : Nat) : Nat := t + days - (if t ≤ du then du else t)
def sp_fines (N : Nat → Int32) (days oc : Nat) : Int32 := sp_sI (fun o => N 9 * N (220 + 7 * o + 3) * nI (sp_late (sp_c N 10) days (sp_c N (220 + 7 * o + 5)))) oc
theorem rk_x0 {S X : Int32} : S + X * nI 0 = S := by rw [nI_0]; grind
noncomputable def sp_pass (N : Nat → Int32) (d : Int32) : sp_R := @ite _ (1 ≤ d ∧ d ≤ 60) (Classical.propDecidable _) (if N 10 + d ≤ 3000 then (N 10 + d, some (sp_u (sp_u (sp_u N 16 (N 16 + sp_fines N d.toNatClampNeg (sp_c N 13))) 10 (N 10 + d)) 11 0)) else (-5, none)) (-2, none)
noncomputable def sp_drop (N : Nat → Int32) (o : Int32) : sp_R := @ite _ (sp_isor N o) (Classical.propDecidable _) (N 9 * N (220 + 7 * o.toNatClampNeg + 3), some (sp_gone (sp_u N 16 (N 16 + N 9 * N (220 + 7 * o.toNatClampNeg + 3))) 13 220 o.toNatClampNeg)) (-1, none)
end MF

