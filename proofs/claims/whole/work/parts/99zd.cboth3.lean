section ET
variable {rg : Nat → Nat} {I I1 I2 : rk_Mm} {R R1 R2 : rk_Rm} {N : Nat → Int32} {T : Int} {x m n L : Nat} {Hs Sv : Nat → Nat → Int32} {F P : Nat → Int32} {r r2 : Int32}
theorem sp_ro_ok {J : Nat → Int32} : ∀ (f k : Nat) (N : Nat → Int32) (T : Int), T + f ≤ 1000000 → vs_ok T N → vs_ok (T + f) (sp_ro J f k N).1 := by
  intro f
  induction f with
  | zero => intro k N T _ h; exact h.mo (by omega)
  | succ f ih =>
    intro k N T hT h
    have h1 := vs_ca (by omega) h J k
    simp only [sp_ro]
    split
    · exact h1.mo (by omega)
    · exact (ih (k + 1) _ (T + 1) (by omega) h1).mo (by omega)
theorem cm_carry (hT : T + 39 ≤ 1000000) (C : cm_at rg I R x m T N n Hs F Sv P L) (q : ((pfo P L (I 33 (R 12 m 10))).1.2 = true → cl_A rg I R x (-3, none) N n Hs F Sv P L r I1 R1) ∧ ((pfo P L (I 33 (R 12 m 10))).1.2 = false → cl_A rg I R x (nI (sp_ro (pfo P L (I 33 (R 12 m 10))).2.2 (pfo P L (I 33 (R 12 m 10))).2.1 0 N).2, some (sp_ro (pfo P L (I 33 (R 12 m 10))).2.2 (pfo P L (I 33 (R 12 m 10))).2.1 0 N).1) N n Hs F Sv P 0 r I1 R1)) (hfr : cl_fr rg (fun z => z < 104) I R I1 R1) (p : R2 = R1 ∧ ∃ S, S = pfo (I1 31 (R1 12 m 6)) L (I1 33 (R1 12 m 10)) ∧ ((S.1.2 = true ∧ r2 = -3 ∧ I2 = pm_st I1 m (R1 12 m 10) (nI S.1.1) (wi S.1.2) (nI S.2.1) S.2.2) ∨ (S.1.2 = false ∧ r2 = nI (sp_ro S.2.2 S.2.1 0 (I1 26 (R1 12 m 0))).2 ∧ I2 = md_co (pm_st I1 m (R1 12 m 10) (nI S.1.1) (wi S.1.2) (nI S.2.1) S.2.2) R1 m S.2.1 S.2.2))) : r = r2 ∧ cm rg I2 R2 x m (T + 39) := by
  obtain ⟨X, M, V, s⟩ := C
  obtain ⟨p2, S, hS, p3⟩ := p
  subst p2
  have s1 := s.fr hfr
  have M1 := M.fr s hfr
  have eJ : I1 33 (R2 12 m 10) = I 33 (R 12 m 10) := by
    rw [hfr.2.2 12 (by decide) (by decide) (by decide)]
    exact hfr.1 33 _ (by rw [s.2.2.2.2.2.2.2.2]; omega)
  rw [eJ, show pfo (I1 31 (R2 12 m 6)) L = pfo P L from pfo_cg M1.2.2.2.2.1] at hS
  rw [← hS] at q
  have hin := pfo_in (P := P) (L := L) (J := I 33 (R 12 m 10))
  rw [← hS] at hin
  have hL := V.2.2.2.2.1
  rcases p3 with ⟨h1, h2, h3⟩ | ⟨h1, h2, h3⟩
  · obtain ⟨g1, g2, -⟩ := q.1 h1
    obtain ⟨k1, k2⟩ := mo_pm (t := nI S.1.1) (wr := wi S.1.2) (mn := nI S.2.1) (J := S.2.2) M1 s1
    rw [h3]
    have g2' : cl_X rg I1 R2 x N n Hs F Sv P L := g2
    exact ⟨g1.trans h2.symm, N, n, Hs, F, Sv, P, L, g2'.mf V k2, k1, V.mo (by omega), s1⟩
  · obtain ⟨g1, g2, -⟩ := q.2 h1
    obtain ⟨k1, k2⟩ := mo_pm (t := nI S.1.1) (wr := wi S.1.2) (mn := nI S.2.1) (J := S.2.2) M1 s1
    obtain ⟨k3, k4⟩ := mo_co (mn := S.2.1) (J := S.2.2) k1 V.2.1 s1
    have h3n := hin.2 h1
    obtain ⟨o1, o2⟩ := hs_ok V
    have vr : vs_ok (T + 39) (sp_ro S.2.2 S.2.1 0 N).1 := (sp_ro_ok S.2.1 0 N T (by omega) V.1).mo (by omega)
    have V2 : va_ok (T + 39) (sp_ro S.2.2 S.2.1 0 N).1 (hs_n n) (hs_p n Hs N) F Sv P 0 := ⟨vr, o1, fun i hi => (o2 i hi).mo (by omega), fun b hb hF => (V.2.2.2.1 b hb hF).mo (by omega), Nat.zero_le _, trivial⟩
    have g2' : cl_X rg I1 R2 x (sp_ro S.2.2 S.2.1 0 N).1 (hs_n n) (hs_p n Hs N) F Sv P 0 := g2
    rw [h3]
    exact ⟨by rw [g1, h2, M1.1], _, _, _, F, Sv, P, 0, g2'.mf V2 (k2.tr k4), k3, V2, s1⟩
end ET

