section ES
variable {rg : Nat → Nat} {I I1 I2 : rk_Mm} {R R1 R2 : rk_Rm} {N : Nat → Int32} {T : Int} {x m n L : Nat} {Hs Sv : Nat → Nat → Int32} {F P : Nat → Int32} {r r2 : Int32}
theorem cm_undo (C : cm_at rg I R x m T N n Hs F Sv P L) (q : (n = 0 → r = -5 ∧ cl_X rg I1 R1 x N n Hs F Sv P L) ∧ (0 < n → r = nI (n - 1) ∧ cl_X rg I1 R1 x (Hs (n - 1)) (n - 1) Hs F Sv P L) ∧ cl_fr rg (fun z => z < 104) I R I1 R1) (p : r2 = (if n = 0 then -5 else nI (n - 1)) ∧ R2 = R1 ∧ I2 = md_undo I1 R1 m n) : r = r2 ∧ cm rg I2 R2 x m T := by
  obtain ⟨X, M, V, s⟩ := C
  obtain ⟨q1, q2, q3⟩ := q
  obtain ⟨p1, p2, p3⟩ := p
  subst p2
  have s1 := s.fr q3
  have M1 := M.fr s q3
  cases n with
  | zero =>
    obtain ⟨g1, g2⟩ := q1 rfl
    rw [p3]
    exact ⟨by rw [g1, p1, if_pos rfl], N, 0, Hs, F, Sv, P, L, g2, M1, V, s1⟩
  | succ u =>
    obtain ⟨g1, g2⟩ := q2 (Nat.succ_pos u)
    rw [if_neg (Nat.succ_ne_zero u)] at p1
    obtain ⟨K, k1, k2, k3⟩ := mo_undo M1 s1
    have V1 : va_ok T (Hs u) u Hs F Sv P L := ⟨V.2.2.1 u (Nat.lt_succ_self u), by have := V.2.1; omega, fun i hi => V.2.2.1 i (by omega), V.2.2.2⟩
    have V2 : va_ok T K u Hs F Sv P L := V1.nx (V1.1.cg (fun j hj => k1 j (by omega)))
    rw [p3]
    exact ⟨g1.trans p1.symm, K, u, Hs, F, Sv, P, L, (cl_X.cg g2 V1 (fun j hj => k1 j (by omega))).mf V2 k3, k2, V2, s1⟩
theorem cm_save {k : Int32} (C : cm_at rg I R x m T N n Hs F Sv P L) (q : ((¬ (0 ≤ k ∧ k ≤ 1) ∧ r = -2 ∧ cl_X rg I1 R1 x N n Hs F Sv P L) ∨ ∃ b, b < 2 ∧ k = nI b ∧ r = N 10 ∧ cl_X rg I1 R1 x N n Hs (sp_u F b 1) (fun b' => if b' = b then N else Sv b') P L) ∧ cl_fr rg (fun z => z < 104) I R I1 R1) (p : R2 = R1 ∧ ((¬ (0 ≤ k ∧ k ≤ 1) ∧ r2 = -2 ∧ I2 = I1) ∨ ∃ b, b < 2 ∧ k = nI b ∧ r2 = I1 26 (R1 12 m 0) 10 ∧ I2 = rk_uI (md_a I1 29 (R1 12 m 4) (sp_cp (I1 29 (R1 12 m 4)) (I1 26 (R1 12 m 0)) (b * 340) 0 340)) 30 (R1 12 m 5) b 1)) : r = r2 ∧ cm rg I2 R2 x m T := by
  obtain ⟨X, M, V, s⟩ := C
  obtain ⟨q1, q3⟩ := q
  obtain ⟨p2, p1⟩ := p
  subst p2
  have s1 := s.fr q3
  have M1 := M.fr s q3
  have rng : ∀ b, b < 2 → k = nI b → 0 ≤ k ∧ k ≤ 1 := fun b hb e => by rw [e]; exact ⟨nI_pos' (by omega), nI_le (b := 1) (by omega) (by decide)⟩
  rcases q1 with ⟨g0, g1, g2⟩ | ⟨b, hb, hk, g1, g2⟩
  · rcases p1 with ⟨h0, h1, h2⟩ | ⟨b, hb, hk, h1, h2⟩
    · rw [h2]; exact ⟨g1.trans h1.symm, N, n, Hs, F, Sv, P, L, g2, M1, V, s1⟩
    · exact absurd (rng b hb hk) g0
  · rcases p1 with ⟨h0, h1, h2⟩ | ⟨b2, hb2, hk2, h1, h2⟩
    · exact absurd (rng b hb hk) h0
    · obtain rfl : b2 = b := (nI_eq (by omega) (by omega)).mp (hk2.symm.trans hk)
      obtain ⟨k1, k2⟩ := mo_save hb M1 s1
      rw [h2]
      have V2 : va_ok T N n Hs (sp_u F b2 1) (fun b' => if b' = b2 then N else Sv b') P L := ⟨V.1, V.2.1, V.2.2.1, fun b' hb' hF => by
        show vs_ok T (if b' = b2 then N else Sv b')
        by_cases e : b' = b2
        · rw [if_pos e]; exact V.1
        · rw [if_neg e]; rw [sp_un e] at hF; exact V.2.2.2.1 b' hb' hF, V.2.2.2.2⟩
      exact ⟨by rw [g1, h1, M1.1], N, n, Hs, _, _, P, L, g2.mf V2 k2, k1, V2, s1⟩
theorem cm_restore {k : Int32} (C : cm_at rg I R x m T N n Hs F Sv P L) (q : (¬ (0 ≤ k ∧ k ≤ 1) → cl_A rg I R x (-2, none) N n Hs F Sv P L r I1 R1) ∧ ∀ b, b < 2 → k = nI b → (F b = 0 → cl_A rg I R x (-5, none) N n Hs F Sv P L r I1 R1) ∧ (F b ≠ 0 → cl_A rg I R x (Sv b 10, some (Sv b)) N n Hs F Sv P L r I1 R1)) (p : R2 = R1 ∧ ((¬ (0 ≤ k ∧ k ≤ 1) ∧ r2 = -2 ∧ I2 = I1) ∨ ∃ b, b < 2 ∧ k = nI b ∧ ((I1 30 (R1 12 m 5) b = 0 ∧ r2 = -5 ∧ I2 = I1) ∨ (¬ I1 30 (R1 12 m 5) b = 0 ∧ r2 = I2 26 (R1 12 m 0) 10 ∧ I2 = md_a (md_rec I1 R1 m) 26 (R1 12 m 0) (sp_cp (I1 26 (R1 12 m 0)) (I1 29 (R1 12 m 4)) 0 (b * 340) 340))))) (hfr : cl_fr rg (fun z => z < 104) I R I1 R1) : r = r2 ∧ cm rg I2 R2 x m T := by
  obtain ⟨X, M, V, s⟩ := C
  obtain ⟨q1, q2⟩ := q
  obtain ⟨p2, p1⟩ := p
  subst p2
  have s1 := s.fr hfr
  have M1 := M.fr s hfr
  rcases p1 with ⟨h0, h1, h2⟩ | ⟨b, hb, hk, h⟩
  · obtain ⟨g1, g2, -⟩ := q1 h0
    rw [h2]
    exact ⟨g1.trans h1.symm, N, n, Hs, F, Sv, P, L, g2, M1, V, s1⟩
  · obtain ⟨f1, f2⟩ := M1.2.2.2.1 b hb
    rcases h with ⟨h0, h1, h2⟩ | ⟨h0, h1, h2⟩
    · obtain ⟨g1, g2, -⟩ := (q2 b hb hk).1 (f1.symm.trans h0)
      rw [h2]
      exact ⟨g1.trans h1.symm, N, n, Hs, F, Sv, P, L, g2, M1, V, s1⟩
    · have hF : F b ≠ 0 := fun z => h0 (f1.trans z)
      obtain ⟨g1, g2, -⟩ := (q2 b hb hk).2 hF
      obtain ⟨K, k1, k2, k3⟩ := mo_restore hb hF V.2.1 M1 s1
      rw [← h2] at k2 k3
      have g2' : cl_X rg I1 R2 x (Sv b) (hs_n n) (hs_p n Hs N) F Sv P L := g2
      obtain ⟨o1, o2⟩ := hs_ok V
      have V1 : va_ok T (Sv b) (hs_n n) (hs_p n Hs N) F Sv P L := ⟨V.2.2.2.1 b hb hF, o1, o2, V.2.2.2⟩
      have V2 := V1.nx (V1.1.cg (fun j hj => k1 j (by omega)))
      have e10 : I2 26 (R2 12 m 0) 10 = Sv b 10 := by rw [k2.1]; exact k1 10 (by decide)
      exact ⟨by rw [g1, h1, e10], K, _, _, F, Sv, P, L, (cl_X.cg g2' V1 (fun j hj => k1 j (by omega))).mf V2 k3, k2, V2, s1⟩
theorem cm_wipe (C : cm_at rg I R x m T N n Hs F Sv P L) (q : r = nI L ∧ cl_X rg I1 R1 x N n Hs F Sv P 0 ∧ cl_fr rg (fun z => z < 104) I R I1 R1) (p : r2 = I1 12 m 7 ∧ R2 = R1 ∧ I2 = rk_uI I1 12 m 7 0) : r = r2 ∧ cm rg I2 R2 x m T := by
  obtain ⟨X, M, V, s⟩ := C
  obtain ⟨q1, q2, q3⟩ := q
  obtain ⟨p1, p2, p3⟩ := p
  subst p2
  have s1 := s.fr q3
  have M1 := M.fr s q3
  obtain ⟨k1, k2⟩ := mo_wipe M1 s1
  rw [p3]
  exact ⟨by rw [q1, p1, M1.2.2.2.2.2.1], N, n, Hs, F, Sv, P, 0, q2.mf V.L0 k2, k1, V.L0, s1⟩
theorem cm_put {v : Int64} (C : cm_at rg I R x m T N n Hs F Sv P L) (q : r = sp_put v L ∧ cl_X rg I1 R1 x N n Hs F Sv (sp_pp P L v) (sp_pl L v) ∧ cl_fr rg (fun z => z < 104) I R I1 R1) (p : r2 = sp_put v L ∧ R2 = R1 ∧ ((sp_many v = 0 ∨ 80 < L + sp_many v) ∧ I2 = I1 ∨ (0 < sp_many v ∧ L + sp_many v ≤ 80 ∧ ∃ G, (∀ j, G j = if L ≤ j ∧ j < L + sp_many v then lb v (sp_many v - 1 - (j - L)) else I1 31 (R1 12 m 6) j) ∧ I2 = rk_uI (md_a I1 31 (R1 12 m 6) G) 12 m 7 (nI (L + sp_many v))))) : r = r2 ∧ cm rg I2 R2 x m T := by
  obtain ⟨X, M, V, s⟩ := C
  obtain ⟨q1, q2, q3⟩ := q
  obtain ⟨p1, p2, p3⟩ := p
  subst p2
  have s1 := s.fr q3
  have M1 := M.fr s q3
  rcases p3 with ⟨h1, h2⟩ | ⟨h0, h1, G, hG, h2⟩
  · have e : sp_pl L v = L := if_pos h1
    rw [e] at q2
    rw [h2]
    refine ⟨q1.trans p1.symm, N, n, Hs, F, Sv, sp_pp P L v, L, q2, ?_, V, s1⟩
    obtain ⟨x1, x2, x3, x4, x5, x6, x7⟩ := M1
    refine ⟨x1, x2, x3, x4, fun j hj => ?_, x6, x7⟩
    unfold sp_pp
    rw [if_neg (by omega)]
    exact x5 j hj
  · have e : sp_pl L v = L + sp_many v := if_neg (by omega)
    rw [e] at q2
    obtain ⟨k1, k2⟩ := mo_put hG M1 s1
    rw [h2]
    have V2 : va_ok T N n Hs F Sv (sp_pp P L v) (L + sp_many v) := ⟨V.1, V.2.1, V.2.2.1, V.2.2.2.1, h1, trivial⟩
    exact ⟨q1.trans p1.symm, N, n, Hs, F, Sv, _, _, q2.mf V2 k2, k1, V2, s1⟩
theorem cm_fault (C : cm_at rg I R x m T N n Hs F Sv P L) {J : Nat → Int32} {t wr mn : Int32} {K : Nat → Int32} (q : cl_X rg I1 R1 x N n Hs F Sv P L ∧ cl_fr rg (fun z => z < 104) I R I1 R1) (p : R2 = R1 ∧ I2 = pm_st I1 m (R1 12 m 10) t wr mn K) : cm rg I2 R2 x m T := by
  obtain ⟨X, M, V, s⟩ := C
  obtain ⟨p2, p3⟩ := p
  subst p2
  have s1 := s.fr q.2
  obtain ⟨k1, k2⟩ := mo_pm (t := t) (wr := wr) (mn := mn) (J := K) (M.fr s q.2) s1
  rw [p3]
  exact ⟨N, n, Hs, F, Sv, P, L, q.1.mf V k2, k1, V, s1⟩
end ES

