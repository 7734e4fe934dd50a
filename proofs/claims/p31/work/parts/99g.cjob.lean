section DO
variable {P P2 : Nat → Int32} {L : Nat}
end DO
section DP
variable {rg : Nat → Nat} {I : rk_Mm} {R : rk_Rm} {N N' : Nat → Int32} {T T' : Int} {x n L : Nat} {Hs Sv : Nat → Nat → Int32} {F P : Nat → Int32}
/-- what changes the reader alone -/
theorem cl_X.rf {I' : rk_Mm} (X : cl_X rg I R x N n Hs F Sv P L) (V : va_ok T N n Hs F Sv P L) (f : cl_fr rg (fun z => z = 92) I R I' R) : cl_X rg I' R x N n Hs F Sv P L := by
  obtain ⟨X1, X2, ⟨g, hh, hc⟩, X4, X5, X6⟩ := X
  refine ⟨X1, X2.fr0 f (by omega) V.1.1, ⟨g, hh, hc.fr hh f (fun z hz => by
    rcases hz with hz | ⟨i, hi, hz⟩
    · omega
    · have := V.2.1; have := hh.2.2.1 i (by omega); omega) V.2.1 V.2.2.1⟩, fun b hb => ?_, ?_, fun j hj => ?_⟩
  · obtain ⟨k1, k2, k3⟩ := X4 b hb
    refine ⟨by rw [f.1 25 _ (by rw [X1.2.2.1]; omega)]; exact k1, k2, fun h => ?_⟩
    exact (k3 h).fr0 f (fun z hz => by omega) (V.2.2.2.1 b hb h).1
  · rw [f.1 4 _ (by rw [X1.2.2.2.2.2.2.2.2.2.1]; omega)]; exact X5
  · rw [f.1 15 _ (by rw [X1.2.2.2.2.2.2.2.2.2.2]; omega)]; exact X6 j hj
theorem vs_ok.mo (h : vs_ok T N) (e : T ≤ T') : vs_ok T' N := ⟨sp_iv_T h.1 e, h.2⟩
theorem va_ok.mo (V : va_ok T N n Hs F Sv P L) (e : T ≤ T') : va_ok T' N n Hs F Sv P L := ⟨V.1.mo e, V.2.1, fun i hi => (V.2.2.1 i hi).mo e, fun b hb h => (V.2.2.2.1 b hb h).mo e, V.2.2.2.2⟩
end DP
section DQ
variable {w : rk_W} {l : Launch} {Sh : rk_Sh} {rg : Nat → Nat} {I : rk_Mm} {R : rk_Rm} {N : Nat → Int32} {T : Int} {x n L : Nat} {Hs Sv : Nat → Nat → Int32} {F P : Nat → Int32}
end DQ

