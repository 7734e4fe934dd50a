section ER
variable {rg : Nat → Nat} {I I1 I2 : rk_Mm} {R R1 R2 : rk_Rm} {N : Nat → Int32} {T T' : Int} {x m n L : Nat} {Hs Sv : Nat → Nat → Int32} {F P : Nat → Int32} {a : sp_R} {r r2 : Int32}
/-- class and model stand alike -/
def cm_at (rg : Nat → Nat) (I : rk_Mm) (R : rk_Rm) (x m : Nat) (T : Int) (N : Nat → Int32) (n : Nat) (Hs : Nat → Nat → Int32) (F : Nat → Int32) (Sv : Nat → Nat → Int32) (P : Nat → Int32) (L : Nat) : Prop := cl_X rg I R x N n Hs F Sv P L ∧ mo_X I R m N n Hs F Sv P L ∧ va_ok T N n Hs F Sv P L ∧ mo_s rg R m
def cm (rg : Nat → Nat) (I : rk_Mm) (R : rk_Rm) (x m : Nat) (T : Int) : Prop := ∃ N n Hs F Sv P L, cm_at rg I R x m T N n Hs F Sv P L
theorem cm_at.mo (h : cm_at rg I R x m T N n Hs F Sv P L) (e : T ≤ T') : cm rg I R x m T' := ⟨N, n, Hs, F, Sv, P, L, h.1, h.2.1, h.2.2.1.mo e, h.2.2.2⟩
theorem hs_ok (V : va_ok T N n Hs F Sv P L) : hs_n n ≤ 6 ∧ ∀ i, i < hs_n n → vs_ok T (hs_p n Hs N i) := by
  obtain ⟨v1, v2, v3, -⟩ := V
  unfold hs_n hs_p
  by_cases h : n = 6
  · rw [if_pos h, if_pos h]
    refine ⟨by decide, fun i hi => ?_⟩
    show vs_ok T (if i = 5 then N else Hs (i + 1))
    split
    · exact v1
    · exact v3 _ (by omega)
  · rw [if_neg h, if_neg h]
    refine ⟨by omega, fun i hi => ?_⟩
    show vs_ok T (if i = n then N else Hs i)
    split
    · exact v1
    · exact v3 _ (by omega)
theorem va_ok.act (V : va_ok T N n Hs F Sv P L) (ok : sp_ok a) (iv : ∀ r M, a = (r, some M) → sp_iv (T + 1) M) : va_ok (T + 1) (a.2.getD N) (a.2.elim n (fun _ => hs_n n)) (a.2.elim Hs (fun _ => hs_p n Hs N)) F Sv P L := by
  have V1 := V.mo (T' := T + 1) (by omega)
  cases ha : a.2 with
  | none => exact V1
  | some M =>
    obtain ⟨h1, h2⟩ := hs_ok V1
    exact ⟨⟨iv a.1 M (Prod.ext rfl ha), (ok.2 M ha).2⟩, h1, h2, V1.2.2.2⟩
/-- an act on both sides -/
theorem cm_act (C : cm_at rg I R x m T N n Hs F Sv P L) (ok : sp_ok a) (iv : ∀ r M, a = (r, some M) → sp_iv (T + 1) M) (q : cl_A rg I R x a N n Hs F Sv P L r I1 R1) (p : md_Q I1 R1 m a r2 I2 R2) : r = r2 ∧ cm rg I2 R2 x m (T + 1) := by
  obtain ⟨X, M, V, s⟩ := C
  obtain ⟨q1, q2, q3⟩ := q
  have s1 := s.fr q3
  have M1 := M.fr s q3
  obtain ⟨p1, p2, p3, p4⟩ := mo_act M1 V.2.1 s1 p
  subst p2
  have V2 := V.act ok iv
  exact ⟨q1.trans p1.symm, _, _, _, F, Sv, P, L, q2.mf V2 p4, p3, V2, s1⟩
/-- a question on both sides -/
theorem cm_ask (C : cm_at rg I R x m T N n Hs F Sv P L) (q : cl_X rg I1 R1 x N n Hs F Sv P L ∧ cl_fr rg (fun z => z < 104) I R I1 R1) : cm_at rg I1 R1 x m T N n Hs F Sv P L := ⟨q.1, C.2.1.fr C.2.2.2 q.2, C.2.2.1, C.2.2.2.fr q.2⟩
/-- what the model changes in cells that do not matter -/
theorem cm_oth {c : Nat} {K : Nat → Int32} {b : Nat} (C : cm_at rg I R x m T N n Hs F Sv P L) (hc : c ≠ 12 ∧ c ≠ 26 ∧ c ≠ 28 ∧ c ≠ 29 ∧ c ≠ 30 ∧ c ≠ 31) (hb : rg b = 104) : cm_at rg (md_a I c b K) R x m T N n Hs F Sv P L := by
  obtain ⟨g1, g2⟩ := mo_oth (K := K) C.2.1 hc hb
  exact ⟨C.1.mf C.2.2.1 g2, g1, C.2.2.1, C.2.2.2⟩
end ER

