section CD
/-! the class's cells: references of one array replaced; regions; frames; the stock -/
def md_r (R : rk_Rm) (c a : Nat) (F : Nat → Nat) : rk_Rm := fun c' b j => if c' = c ∧ b = a then F j else R c' b j
def sr_u (F : Nat → Nat) (k v : Nat) : Nat → Nat := fun j => if j = k then v else F j
theorem mr_self {R : rk_Rm} {c a : Nat} : md_r R c a (R c a) = R := by
  funext c' b j
  unfold md_r
  split
  · rename_i h; rw [h.1, h.2]
  · rfl
theorem mr_u {R : rk_Rm} {c a j v : Nat} {F : Nat → Nat} : rk_uR (md_r R c a F) c a j v = md_r R c a (sr_u F j v) := by
  funext c' b i
  unfold md_r rk_uR sr_u
  by_cases h1 : c' = c <;> by_cases h2 : b = a <;> by_cases h3 : i = j <;> simp [h1, h2, h3]
theorem mr_s {R : rk_Rm} {c a : Nat} {F : Nat → Nat} : md_r R c a F c a = F := by
  funext j; simp [md_r]
theorem mr_n {R : rk_Rm} {c a c' b : Nat} {F : Nat → Nat} (h : ¬ (c' = c ∧ b = a)) : md_r R c a F c' b = R c' b := by
  funext j; simp [md_r, h]
theorem mr_c {R : rk_Rm} {c a c' : Nat} {F : Nat → Nat} (h : c' ≠ c) : md_r R c a F c' = R c' := by
  funext b j; simp [md_r, h]
theorem md_cc {I : rk_Mm} {c a c' : Nat} {F : Nat → Int32} (h : c' ≠ c) : md_a I c a F c' = I c' := by
  funext b j; simp [md_a, h]
/-- nothing has changed but in the regions S; arrays of references stand where they stood, but for the rows that turn -/
def cl_fr (rg : Nat → Nat) (S : Nat → Prop) (I : rk_Mm) (R : rk_Rm) (I' : rk_Mm) (R' : rk_Rm) : Prop := (∀ c b, ¬ S (rg b) → I' c b = I c b) ∧ (∀ c b, ¬ S (rg b) → R' c b = R c b) ∧ ∀ c, c ≠ 13 → c ≠ 14 → c ≠ 20 → R' c = R c
theorem cl_fr.rf {rg : Nat → Nat} {S : Nat → Prop} {I : rk_Mm} {R : rk_Rm} : cl_fr rg S I R I R := ⟨fun _ _ _ => rfl, fun _ _ _ => rfl, fun _ _ _ _ => rfl⟩
theorem cl_fr.tr {rg : Nat → Nat} {S : Nat → Prop} {I I' I2 : rk_Mm} {R R' R2 : rk_Rm} (h : cl_fr rg S I R I' R') (g : cl_fr rg S I' R' I2 R2) : cl_fr rg S I R I2 R2 := ⟨fun c b z => (g.1 c b z).trans (h.1 c b z), fun c b z => (g.2.1 c b z).trans (h.2.1 c b z), fun c z1 z2 z3 => (g.2.2 c z1 z2 z3).trans (h.2.2 c z1 z2 z3)⟩
theorem cl_fr.mo {rg : Nat → Nat} {S T : Nat → Prop} {I I' : rk_Mm} {R R' : rk_Rm} (h : cl_fr rg S I R I' R') (g : ∀ r, S r → T r) : cl_fr rg T I R I' R' := ⟨fun c b z => h.1 c b (fun y => z (g _ y)), fun c b z => h.2.1 c b (fun y => z (g _ y)), h.2.2⟩
theorem cl_fr.ma {rg : Nat → Nat} {S : Nat → Prop} {I : rk_Mm} {R : rk_Rm} {c a : Nat} {F : Nat → Int32} (h : S (rg a)) : cl_fr rg S I R (md_a I c a F) R := ⟨fun _ _ z => md_an (fun y => z (by rw [y.2]; exact h)), fun _ _ _ => rfl, fun _ _ _ _ => rfl⟩
theorem cl_fr.ui {rg : Nat → Nat} {S : Nat → Prop} {I : rk_Mm} {R : rk_Rm} {c a j : Nat} {v : Int32} (h : S (rg a)) : cl_fr rg S I R (rk_uI I c a j v) R := by rw [md_u1]; exact cl_fr.ma h
theorem cl_fr.mr {rg : Nat → Nat} {S : Nat → Prop} {I : rk_Mm} {R : rk_Rm} {c a : Nat} {F : Nat → Nat} (h : S (rg a)) (hc : c = 13 ∨ c = 14 ∨ c = 20) : cl_fr rg S I R I (md_r R c a F) := ⟨fun _ _ _ => rfl, fun _ _ z => mr_n (fun y => z (by rw [y.2]; exact h)), fun _ z1 z2 z3 => mr_c (by omega)⟩
/-- where the p-th of c goes behind the others -/
def cl_sg (p c i : Nat) : Nat := if p ≤ i ∧ i < c - 1 then i + 1 else if i = c - 1 then p else i
theorem cl_sg_lt {p c i n : Nat} (hp : p < c) (hc : c ≤ n) (hi : i < n) : cl_sg p c i < n := by
  unfold cl_sg; split
  · omega
  · split <;> omega
theorem cl_sg_in {p c i j : Nat} (hp : p < c) (h : cl_sg p c i = cl_sg p c j) : i = j := by
  unfold cl_sg at h
  split at h <;> split at h <;> (try split at h) <;> (try split at h) <;> omega
theorem cl_sg_l {p c i : Nat} (hi : i < c - 1) : cl_sg p c i = if i < p then i else i + 1 := by
  unfold cl_sg
  by_cases h : i < p
  · rw [if_neg (by omega), if_neg (by omega), if_pos h]
  · rw [if_pos (by omega), if_neg h]
/-- a stock's cells: all of one region, its pieces apart, its accounts apart -/
def cl_ss (rg : Nat → Nat) (R : rk_Rm) (q r : Nat) : Prop := rg q = r ∧ rg (R 8 q 0) = r ∧ rg (R 8 q 2) = r ∧ (∀ i, i < 24 → rg (R 20 (R 8 q 0) i) = r) ∧ (∀ f, f < 3 → rg (R 21 (R 8 q 2) f) = r) ∧ (∀ i j, i < 24 → j < 24 → R 20 (R 8 q 0) i = R 20 (R 8 q 0) j → i = j) ∧ ∀ f g, f < 3 → g < 3 → R 21 (R 8 q 2) f = R 21 (R 8 q 2) g → f = g
/-- a stock's pieces are a row's -/
def cl_sp (I : rk_Mm) (R : rk_Rm) (q : Nat) (N : Nat → Int32) : Prop := I 8 q 1 = N 12 ∧ ∀ i, i < sp_c N 12 → ∀ k, k < 7 → I 5 (R 20 (R 8 q 0) i) k = N (50 + 7 * i + k)
/-- a stock's accounts -/
def cl_sa (I : rk_Mm) (R : rk_Rm) (q : Nat) (A : Nat → Nat → Int32) : Prop := ∀ f, f < 3 → ∀ k, k < 6 → I 22 (R 21 (R 8 q 2) f) k = A f k
def cl_st (rg : Nat → Nat) (I : rk_Mm) (R : rk_Rm) (q r : Nat) (N : Nat → Int32) : Prop := cl_ss rg R q r ∧ cl_sp I R q N ∧ cl_sa I R q (sp_acc N)
theorem cl_ss.fr {rg : Nat → Nat} {S : Nat → Prop} {I I' : rk_Mm} {R R' : rk_Rm} {q r : Nat} (h : cl_ss rg R q r) (g : cl_fr rg S I R I' R') (hr : ¬ S r) : cl_ss rg R' q r := by
  have e8 := g.2.2 8 (by decide) (by decide) (by decide)
  have e21 := g.2.2 21 (by decide) (by decide) (by decide)
  have e20 := g.2.1 20 (R 8 q 0) (by rw [h.2.1]; exact hr)
  unfold cl_ss
  rw [e8, e21, e20]
  exact h
theorem cl_sp.fr {rg : Nat → Nat} {S : Nat → Prop} {I I' : rk_Mm} {R R' : rk_Rm} {q r c : Nat} {N : Nat → Int32} (h : cl_sp I R q N) (hs : cl_ss rg R q r) (g : cl_fr rg S I R I' R') (hr : ¬ S r) (hc : N 12 = nI c) (hc2 : c ≤ 24) : cl_sp I' R' q N := by
  have e8 := g.2.2 8 (by decide) (by decide) (by decide)
  have e20 := g.2.1 20 (R 8 q 0) (by rw [hs.2.1]; exact hr)
  refine ⟨by rw [g.1 8 q (by rw [hs.1]; exact hr)]; exact h.1, fun i hi k hk => ?_⟩
  rw [e8, e20, g.1 5 _ (by rw [hs.2.2.2.1 i (by rw [sp_cN hc (by omega)] at hi; omega)]; exact hr)]
  exact h.2 i hi k hk
theorem cl_sa.fr {rg : Nat → Nat} {S : Nat → Prop} {I I' : rk_Mm} {R R' : rk_Rm} {q r : Nat} {A : Nat → Nat → Int32} (h : cl_sa I R q A) (hs : cl_ss rg R q r) (g : cl_fr rg S I R I' R') (hr : ¬ S r) : cl_sa I' R' q A := by
  have e8 := g.2.2 8 (by decide) (by decide) (by decide)
  have e21 := g.2.2 21 (by decide) (by decide) (by decide)
  intro f hf k hk
  rw [e8, e21, g.1 22 _ (by rw [hs.2.2.2.2.1 f hf]; exact hr)]
  exact h f hf k hk
theorem cl_st.fr {rg : Nat → Nat} {S : Nat → Prop} {I I' : rk_Mm} {R R' : rk_Rm} {q r c : Nat} {N : Nat → Int32} (h : cl_st rg I R q r N) (g : cl_fr rg S I R I' R') (hr : ¬ S r) (hc : N 12 = nI c) (hc2 : c ≤ 24) : cl_st rg I' R' q r N := ⟨h.1.fr g hr, h.2.1.fr h.1 g hr hc hc2, h.2.2.fr h.1 g hr⟩
/-- of equal rows -/
theorem sp_yp_c {N M : Nat → Int32} {f : Nat} : ∀ {c : Nat}, (∀ i, i < c → M (50 + 7 * i + 0) = N (50 + 7 * i + 0) ∧ M (50 + 7 * i + 4) = N (50 + 7 * i + 4)) → sp_yp M f c = sp_yp N f c := fun h => sp_sI_c (fun i hi => by rw [(h i hi).1, (h i hi).2])
theorem cl_st.c {rg : Nat → Nat} {I : rk_Mm} {R : rk_Rm} {q r c : Nat} {N M : Nat → Int32} (h : cl_st rg I R q r N) (hc : N 12 = nI c) (hc2 : c ≤ 24) (e : ∀ j, j = 12 ∨ (20 ≤ j ∧ j < 218) → M j = N j) : cl_st rg I R q r M := by
  have e12 : sp_c M 12 = sp_c N 12 := by unfold sp_c; rw [e 12 (Or.inl rfl)]
  have h24 : sp_c N 12 ≤ 24 := by rw [sp_cN hc (by omega)]; exact hc2
  refine ⟨h.1, ⟨by rw [e 12 (Or.inl rfl)]; exact h.2.1.1, fun i hi k hk => ?_⟩, fun f hf k hk => ?_⟩
  · rw [e12] at hi
    rw [e _ (Or.inr (by omega))]
    exact h.2.1.2 i hi k hk
  · rw [h.2.2 f hf k hk]
    simp only [sp_acc]
    rw [e _ (Or.inr (by omega)), e _ (Or.inr (by omega)), e12, sp_yp_c (N := M) (M := N) (fun i hi => ⟨(e _ (Or.inr (by omega))).symm, (e _ (Or.inr (by omega))).symm⟩)]
    split
    · rfl
    · split
      · rfl
      · split
        · rfl
        · rw [e _ (Or.inr (by omega))]
end CD

