section EN
variable {w : rk_W} {l : Launch} {Sh : rk_Sh} {I : rk_Mm} {R : rk_Rm}
/-- the row as the model makes it: its settings, then fibre after fibre -/
def md_N0 : Nat → Nat → Int32
  | 0 => (sp_u (sp_u (sp_u (sp_u (sp_u (sp_u (sp_u (sp_u (sp_u (sp_u (fun _ => 0) 0 1000) 1 30) 2 12) 3 15) 4 6) 5 5) 6 10) 7 12) 8 100) 9 50)
  | k + 1 => sp_u (sp_u (md_N0 k) (20 + 3 * k) (60 - 15 * nI k)) (20 + 3 * k + 1) (32 - 4 * nI k)
end EN

