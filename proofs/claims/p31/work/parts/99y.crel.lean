section EO
variable {rg : Nat → Nat} {I I' : rk_Mm} {R R' : rk_Rm} {N M : Nat → Int32} {T : Int} {x n L : Nat} {Hs Sv : Nat → Nat → Int32} {F P : Nat → Int32}
theorem sp_iv.cg (h : sp_iv T N) (e : ∀ j, j < 332 → M j = N j) : sp_iv T M := by
  obtain ⟨⟨c, hp⟩, ⟨oc, h1, h2, h3⟩, ⟨t, t1, t2⟩, r1, r2⟩ := h
  refine ⟨⟨c, sp_pv_fr hp (fun j hj => e j (by omega))⟩, ⟨oc, h1, by rw [e 13 (by decide)]; exact h2, fun o ho => ?_⟩, ⟨t, t1, by rw [e 10 (by decide)]; exact t2⟩, fun s hs => by rw [e s (by omega)]; exact r1 s hs, fun f hf => by rw [e _ (by omega), e _ (by omega)]; exact r2 f hf⟩
  obtain ⟨⟨g1, g2⟩, g3, g4⟩ := h3 o ho
  refine ⟨⟨by rw [e _ (by omega)]; exact g1, by rw [e _ (by omega)]; exact g2⟩, by rw [e _ (by omega)]; exact g3, by rw [e _ (by omega)]; exact g4⟩
theorem sp_jv.cg (hv : sp_iv T N) (h : sp_jv N) (e : ∀ j, j < 332 → M j = N j) : sp_jv M := by
  obtain ⟨c, hc, h12⟩ := hv.c12
  have ec : sp_c M 12 = sp_c N 12 := by unfold sp_c; rw [e 12 (by decide)]
  have hcc : sp_c N 12 ≤ 24 := by unfold sp_c; rw [h12, nI_clamp (by omega)]; exact hc
  refine ⟨fun f hf => by rw [e _ (by omega)]; exact h.1 f hf, fun p hp => ?_⟩
  rw [ec] at hp
  rw [e _ (by omega), e _ (by omega), e _ (by omega)]
  exact h.2 p hp
theorem vs_ok.cg (h : vs_ok T N) (e : ∀ j, j < 332 → M j = N j) : vs_ok T M := ⟨h.1.cg e, sp_jv.cg h.1 h.2 e⟩
theorem cl_X.cg (X : cl_X rg I R x N n Hs F Sv P L) (V : va_ok T N n Hs F Sv P L) (e : ∀ j, j < 332 → M j = N j) : cl_X rg I R x M n Hs F Sv P L := ⟨X.1, X.2.1.cg V.1.1.c12 V.1.1.c13 e, X.2.2⟩
/-- what changes nothing of the class -/
theorem cl_X.mf (X : cl_X rg I R x N n Hs F Sv P L) (V : va_ok T N n Hs F Sv P L) (f : cl_fr rg (fun z => z = 104) I R I' R) : cl_X rg I' R x N n Hs F Sv P L := by
  obtain ⟨X1, X2, ⟨g, hh, hc⟩, X4, X5, X6⟩ := X
  refine ⟨X1, X2.fr0 f (by omega) V.1.1, ⟨g, hh, hc.fr hh f (fun z hz => by
    rcases hz with hz | ⟨i, hi, hz⟩
    · omega
    · have := V.2.1; have := hh.2.2.1 i (by omega); omega) V.2.1 V.2.2.1⟩, fun b hb => ?_, ?_, fun j hj => ?_⟩
  · obtain ⟨k1, k2, k3⟩ := X4 b hb
    refine ⟨by rw [f.1 25 _ (by rw [X1.2.2.1]; omega)]; exact k1, k2, fun h => ?_⟩
    exact (k3 h).fr0 f (fun z hz => by omega) (V.2.2.2.1 b hb h).1
  · rw [f.1 4 _ (by rw [X1.2.2.2.2.2.2.2.2.2.1]; omega)]; exact X5
  · rw [f.1 15 _ (by rw [X1.2.2.2.2.2.2.2.2.2.2]; omega)]; exact X6 j hj
/-- the model's cells -/
def mo_s (rg : Nat → Nat) (R : rk_Rm) (m : Nat) : Prop := rg m = 104 ∧ rg (R 12 m 0) = 104 ∧ rg (R 12 m 1) = 104 ∧ rg (R 12 m 2) = 104 ∧ rg (R 12 m 4) = 104 ∧ rg (R 12 m 5) = 104 ∧ rg (R 12 m 6) = 104 ∧ rg (R 12 m 9) = 104 ∧ rg (R 12 m 10) = 104
/-- the model at a state -/
def mo_X (I : rk_Mm) (R : rk_Rm) (m : Nat) (N : Nat → Int32) (n : Nat) (Hs : Nat → Nat → Int32) (F : Nat → Int32) (Sv : Nat → Nat → Int32) (P : Nat → Int32) (L : Nat) : Prop := I 26 (R 12 m 0) = N ∧ I 12 m 3 = nI n ∧ (∀ i, i < n → ∀ j, j < 340 → I 28 (R 12 m 2) (i * 340 + j) = Hs i j) ∧ (∀ b, b < 2 → I 30 (R 12 m 5) b = F b ∧ (F b ≠ 0 → ∀ j, j < 340 → I 29 (R 12 m 4) (b * 340 + j) = Sv b j)) ∧ (∀ j, j < L → I 31 (R 12 m 6) j = P j) ∧ I 12 m 7 = nI L ∧ I 12 m 8 = 0
theorem mo_s.fr {S : Nat → Prop} {m : Nat} (h : mo_s rg R m) (f : cl_fr rg S I R I' R') : mo_s rg R' m := by
  unfold mo_s
  rw [f.2.2 12 (by decide) (by decide) (by decide)]
  exact h
theorem mo_X.fr {m : Nat} (X : mo_X I R m N n Hs F Sv P L) (h : mo_s rg R m) (f : cl_fr rg (fun z => z < 104) I R I' R') : mo_X I' R' m N n Hs F Sv P L := by
  have k : ∀ c a, rg a = 104 → I' c a = I c a := fun c a z => f.1 c a (by rw [z]; omega)
  obtain ⟨h1, h2, h3, h4, h5, h6, h7, h8, h9⟩ := h
  unfold mo_X
  rw [f.2.2 12 (by decide) (by decide) (by decide), k _ _ h1, k _ _ h2, k _ _ h4, k _ _ h5, k _ _ h6, k _ _ h7]
  exact X
end EO

