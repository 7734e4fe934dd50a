section MD
variable {w : rk_W} {l : Launch} {Sh : rk_Sh} {I : rk_Mm} {R : rk_Rm}
/-- the row behind a cut of a part of a piece, but for where the part's yarn counts -/
def sp_cut1 (N : Nat → Int32) (p : Nat) (feet : Int32) : Nat → Int32 := sp_u (sp_u N (50 + 7 * p + 3) (N (50 + 7 * p + 3) - feet)) (50 + 7 * p + 4) (N (50 + 7 * p + 4) - sp_yin (N (50 + 7 * p + 4)) feet (N (50 + 7 * p + 3)))
def sp_cut2 (N : Nat → Int32) (p : Nat) (feet : Int32) : Nat → Int32 := sp_u (sp_cut1 N p feet) (30 + 4 * sp_c N (50 + 7 * p) + 3) (N (30 + 4 * sp_c N (50 + 7 * p) + 3) + (N (50 + 7 * p + 4) - sp_yin (N (50 + 7 * p + 4)) feet (N (50 + 7 * p + 3))))
def sp_cut (N : Nat → Int32) (p : Nat) (feet : Int32) : Nat → Int32 := if N (50 + 7 * p + 3) - feet = 0 then sp_gone (sp_cut1 N p feet) 12 50 p else if N (50 + 7 * p + 3) - feet < N 6 then sp_gone (sp_cut2 N p feet) 12 50 p else sp_cut1 N p feet
end MD

