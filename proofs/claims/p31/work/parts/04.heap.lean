def rk_uI (I : rk_Mm) (c a f : Nat) (x : Int32) : rk_Mm := fun c' a' f' => if c' = c ∧ a' = a ∧ f' = f then x else I c' a' f'
def rk_uR (R : rk_Rm) (c a f x : Nat) : rk_Rm := fun c' a' f' => if c' = c ∧ a' = a ∧ f' = f then x else R c' a' f'
theorem rk_uI_s {I : rk_Mm} {c a f : Nat} {x : Int32} : rk_uI I c a f x c a f = x := by simp [rk_uI]
theorem rk_uI_n {I : rk_Mm} {c a f c' a' f' : Nat} {x : Int32} (h : ¬ (c' = c ∧ a' = a ∧ f' = f)) : rk_uI I c a f x c' a' f' = I c' a' f' := by simp [rk_uI, h]
theorem rk_uR_s {R : rk_Rm} {c a f x : Nat} : rk_uR R c a f x c a f = x := by simp [rk_uR]
theorem rk_uR_n {R : rk_Rm} {c a f c' a' f' x : Nat} (h : ¬ (c' = c ∧ a' = a ∧ f' = f)) : rk_uR R c a f x c' a' f' = R c' a' f' := by simp [rk_uR, h]
theorem rk_fs_get {I : Nat → Nat → Int32} {R : Nat → Nat → Nat} {a : Nat} : ∀ {fts : List Nat} {j f ft : Nat}, fts[f]? = some ft → (rk_fs I R a j fts)[f]? = some (if ft = 0 then .int (I a (j + f)) else va_rf (rk_op (R a (j + f))))
  | [], _, _, _, h => by simp at h
  | q :: t, j, 0, ft, h => by
    rw [List.getElem?_cons_zero] at h
    cases h
    simp [rk_fs]
  | q :: t, j, f + 1, ft, h => by
    rw [List.getElem?_cons_succ] at h
    simp only [rk_fs, List.getElem?_cons_succ]
    rw [rk_fs_get h]
    simp [Nat.add_assoc, Nat.add_comm 1 f]
theorem rk_fs_len {I : Nat → Nat → Int32} {R : Nat → Nat → Nat} {a : Nat} : ∀ {fts : List Nat} {j : Nat}, (rk_fs I R a j fts).length = fts.length
  | [], _ => rfl
  | q :: t, j => by simp only [rk_fs, List.length_cons]; rw [rk_fs_len]
theorem rk_fs_congr {I I' : Nat → Nat → Int32} {R R' : Nat → Nat → Nat} {a : Nat} : ∀ {fts : List Nat} {j : Nat}, (∀ i : Nat, j ≤ i → I' a i = I a i) → (∀ i : Nat, j ≤ i → R' a i = R a i) → rk_fs I' R' a j fts = rk_fs I R a j fts
  | [], _, _, _ => rfl
  | q :: t, j, h1, h2 => by
    simp only [rk_fs]
    rw [h1 j (Nat.le_refl j), h2 j (Nat.le_refl j), rk_fs_congr (fun i hi => h1 i (by omega)) (fun i hi => h2 i (by omega))]
theorem rk_fs_set {I I' : Nat → Nat → Int32} {R R' : Nat → Nat → Nat} {a : Nat} {v : Value} : ∀ {fts : List Nat} {j f ft : Nat}, fts[f]? = some ft → (∀ i : Nat, i ≠ j + f → I' a i = I a i) → (∀ i : Nat, i ≠ j + f → R' a i = R a i) → v = (if ft = 0 then .int (I' a (j + f)) else va_rf (rk_op (R' a (j + f)))) → (rk_fs I R a j fts).set f v = rk_fs I' R' a j fts
  | [], _, _, _, h, _, _, _ => by simp at h
  | q :: t, j, 0, ft, h, h1, h2, hv => by
    rw [List.getElem?_cons_zero] at h
    cases h
    simp only [rk_fs, List.set_cons_zero]
    rw [hv, Nat.add_zero, rk_fs_congr (I := I) (I' := I') (R := R) (R' := R') (fun i hi => h1 i (by omega)) (fun i hi => h2 i (by omega))]
  | q :: t, j, f + 1, ft, h, h1, h2, hv => by
    rw [List.getElem?_cons_succ] at h
    simp only [rk_fs, List.set_cons_succ]
    rw [h1 j (by omega), h2 j (by omega), rk_fs_set (I' := I') (R' := R') h (fun i hi => h1 i (by omega)) (fun i hi => h2 i (by omega)) (by rw [hv, show j + (f + 1) = j + 1 + f by omega])]
theorem rk_ent_congr {w : rk_W} {I I' : rk_Mm} {R R' : rk_Rm} {k a : Nat} (h1 : ∀ j : Nat, I' (k % 50) a j = I (k % 50) a j) (h2 : ∀ j : Nat, R' (k % 50) a j = R (k % 50) a j) : rk_ent w I' R' k a = rk_ent w I R k a := by
  unfold rk_ent
  cases rk_kd k with
  | inl q => dsimp only; rw [rk_fs_congr (fun i _ => h1 i) (fun i _ => h2 i)]
  | inr y =>
    dsimp only
    have e1 : I' (k % 50) a = I (k % 50) a := funext h1
    have e2 : R' (k % 50) a = R (k % 50) a := funext h2
    rw [e1, e2]
theorem rk_at {w : rk_W} {Sh : rk_Sh} {I : rk_Mm} {R : rk_Rm} {H : Heap} (h : rk_HR w Sh I R H) {a k : Nat} (hk : Sh.2 a = k) (h0 : k ≠ 0) : a ∈ Sh.1 ∧ ∃ q0 : Nat, ([] ++ va_pl Sh.1 (rk_F w Sh.2 I R))[q0]? = some (a, rk_F w Sh.2 I R a) := by
  have ha : a ∈ Sh.1 := (h.2.2.2.1 a).mpr (by rw [hk]; exact h0)
  exact ⟨ha, va_pl_get ha⟩
theorem rk_HRset {w : rk_W} {Sh : rk_Sh} {I I' : rk_Mm} {R R' : rk_Rm} {H H1 : Heap} (h : rk_HR w Sh I R H) {a q0 : Nat} {e : va_E} (ha : a ∈ Sh.1) (hq : ([] ++ va_pl Sh.1 (rk_F w Sh.2 I R))[q0]? = some (a, rk_F w Sh.2 I R a))
    (he : e = rk_ent w I' R' (Sh.2 a) a) (h1 : ∀ c b j : Nat, b ≠ a → I' c b j = I c b j) (h2 : ∀ c b j : Nat, b ≠ a → R' c b j = R c b j) (hW : rk_WT Sh.2 R')
    (hP : va_P w.1 vwCl (([] ++ va_pl Sh.1 (rk_F w Sh.2 I R)).set q0 (a, e)) H1) (hD : va_D (rk_A w) (([] ++ va_pl Sh.1 (rk_F w Sh.2 I R)).set q0 (a, e))) : rk_HR w Sh I' R' H1 := by
  have e1 : ([] ++ va_pl Sh.1 (rk_F w Sh.2 I R)).set q0 (a, e) = [] ++ va_pl Sh.1 (rk_F w Sh.2 I' R') := by
    rw [va_pl_set h.2.1 ha hq]
    refine congrArg (fun l => [] ++ l) (va_pl_congr fun b => ?_)
    by_cases hb : b = a
    · subst hb
      rw [he]
      simp [va_up]
    · rw [va_up_ne _ _ hb]
      exact (rk_ent_congr (fun j => h1 _ b j hb) (fun j => h2 _ b j hb)).symm
  rw [e1] at hP hD
  exact ⟨hP, hD, h.2.2.1, h.2.2.2.1, hW⟩
theorem rk_inl {w : rk_W} {I : rk_Mm} {R : rk_Rm} {k c ci a : Nat} {fts : List Nat} (h : rk_kd k = .inl (ci, fts)) (hc : k % 50 = c) : rk_ent w I R k a = .inr (ci, rk_fs (I c) (R c) a 0 fts) := by
  subst hc; simp [rk_ent, h]
theorem rk_inr {w : rk_W} {I : rk_Mm} {R : rk_Rm} {k c n t a : Nat} (h : rk_kd k = .inr (t, n, 0)) (hc : k % 50 = c) : rk_ent w I R k a = .inl (w.2.1 t, n, .inl (I c a)) := by
  subst hc; simp [rk_ent, h]
theorem rk_inq {w : rk_W} {I : rk_Mm} {R : rk_Rm} {k c n t ek a : Nat} (h : rk_kd k = .inr (t, n, ek)) (h0 : ek ≠ 0) (hc : k % 50 = c) : rk_ent w I R k a = .inl (w.2.1 t, n, .inr (.inr (.inr (.inr (fun j => rk_op (R c a j)))))) := by
  subst hc; simp [rk_ent, h, h0]
theorem rk_kok {w : rk_W} {kd : Nat → Nat} {k a : Nat} (h : rk_ok w kd (rk_a k a)) (hk : k < 100) : kd a = k ∧ k ≠ 0 := by
  rcases h with h | h | h
  · exact ⟨h.2.1, h.2.2⟩
  · exact absurd h.1 (by show ¬ 100 ≤ k; omega)
  · exact absurd h.1 (by show ¬ 110 ≤ k; omega)
theorem rk_kin {w : rk_W} {kd : Nat → Nat} {k a : Nat} (hk : k < 100) (h0 : k ≠ 0) (h : kd a = k) : rk_ok w kd (rk_a k a) := Or.inl ⟨hk, h, h0⟩

section RKR
variable {w : rk_W} {l : Launch} {M : rk_M} {d mc ms : Nat} {G : List Frame → Array Value → State → State → Prop} {pc : Nat} {ls : List (Nat × rk_V)} {st : List rk_V} {Z : rk_Z} {I : rk_Mm} {R : rk_Rm}
theorem rk_getI (k c ci f : Nat) {C : String} {T : u_T} {N idx : Nat} {fts : List Nat} (hk : k < 100) (hkd : rk_kd k = .inl (ci, fts)) (hc : k % 50 = c) (hq : vwCl[ci]? = some (C, T, N)) (hf : f < N) (hf0 : fts[f]? = some 0) (hin : ∀ q ∈ u_ws C T N, q ∈ rk_tbl) (hT : (T f).1 = C) (hlink : Cond.fieldLink M.1.cls idx C (T f).2.1 (T f).2.2.1 ∈ rk_tbl) {a : Nat} (hd : decode M.2.1 pc = .ok (.getfield idx, 3)) (kk : rk_Wp w l M d mc ms G (pc + 3) (ls) (rk_i (I c a f) :: st) Z I R) : rk_Wp w l M d mc ms G (pc) (ls) (rk_a k a :: st) Z I R := by
  intro p e Rm s m args below meth cd H locs la C a1 a2 a3 a4 a5
  have hok := rk_kok (rk_oh a1) hk
  obtain ⟨ha, q0, hq0⟩ := rk_at a3 hok.1 hok.2
  have e1 : rk_F w Z.1.2 I R a = .inr (ci, rk_fs (I c) (R c) a 0 fts) := by show rk_ent w I R (Z.1.2 a) a = _; rw [hok.1]; exact rk_inl hkd hc
  rw [e1] at hq0
  exact va_get C.1 C.2.1 C.2.2.2.2.2.1 hin C.2.2.2.2.1 C.2.2.2.2.2.2.2.2.1.1 a3.1 q0 hq0 hq f hf (C.2.2.2.2.2.1 _ hlink) (fun x h => by rw [hT] at h; exact h) (v := .int (I c a f)) (by rw [rk_fs_get hf0]; simp) hd (kk p e Rm s m args below meth cd H locs la C (rk_oc trivial (rk_ot a1)) a2 a3 a4 a5)
theorem rk_getR (k c ci f ek : Nat) {C : String} {T : u_T} {N idx : Nat} {fts : List Nat} (hk : k < 50) (hkd : rk_kd k = .inl (ci, fts)) (hc : k % 50 = c) (hq : vwCl[ci]? = some (C, T, N)) (hf : f < N) (hf0 : fts[f]? = some ek) (hek : ek ≠ 0 ∧ ek < 50) (hin : ∀ q ∈ u_ws C T N, q ∈ rk_tbl) (hT : (T f).1 = C) (hlink : Cond.fieldLink M.1.cls idx C (T f).2.1 (T f).2.2.1 ∈ rk_tbl) {a : Nat} (hd : decode M.2.1 pc = .ok (.getfield idx, 3)) (kk : rk_Wp w l M d mc ms G (pc + 3) (ls) (rk_a ek (R c a f) :: st) Z I R) : rk_Wp w l M d mc ms G (pc) (ls) (rk_a k a :: st) Z I R := by
  intro p e Rm s m args below meth cd H locs la C a1 a2 a3 a4 a5
  have hok := rk_kok (rk_oh a1) (by omega)
  obtain ⟨ha, q0, hq0⟩ := rk_at a3 hok.1 hok.2
  have e1 : rk_F w Z.1.2 I R a = .inr (ci, rk_fs (I c) (R c) a 0 fts) := by show rk_ent w I R (Z.1.2 a) a = _; rw [hok.1]; exact rk_inl hkd hc
  rw [e1] at hq0
  have hcc : c = k := by omega
  have hrk : rk_rk (Z.1.2 a) f = ek := by rw [hok.1]; simp [rk_rk, hkd, hf0]
  have hw := a3.2.2.2.2 a f (by rw [hok.1]; exact hk) (by rw [hrk]; exact hek.1)
  rw [hrk, hok.1, ← hcc] at hw
  have hn0 : R c a f ≠ 0 := fun h => by rw [h, a3.2.2.1] at hw; exact hek.1 hw.symm
  exact va_get C.1 C.2.1 C.2.2.2.2.2.1 hin C.2.2.2.2.1 C.2.2.2.2.2.2.2.2.1.1 a3.1 q0 hq0 hq f hf (C.2.2.2.2.2.1 _ hlink) (fun x h => by rw [hT] at h; exact h) (v := .ref (R c a f)) (by rw [rk_fs_get hf0]; simp [hek.1, rk_op, hn0, va_rf]) hd (kk p e Rm s m args below meth cd H locs la C (rk_oc (rk_kin (by omega) hek.1 hw) (rk_ot a1)) a2 a3 a4 a5)
theorem rk_putI (k c ci f : Nat) {C : String} {T : u_T} {N idx : Nat} {fts : List Nat} {x : Int32} {ty : FieldType} (ty0 : Nat → FieldType) (hk : k < 100) (hkd : rk_kd k = .inl (ci, fts)) (hc : k % 50 = c) (hq : vwCl[ci]? = some (C, T, N)) (hf : f < N) (hf0 : fts[f]? = some 0) (hin : ∀ q ∈ u_ws C T N, q ∈ rk_tbl) (hty : ∀ k, k < N → parseFieldDescriptor (T k).2.2.1 = some (ty0 k)) (hnm : ∀ a, a < N → ∀ b, b < N → a ≠ b → (T a).2.1 ≠ (T b).2.1) (hT : (T f).1 = C) (hfin : (T f).2.2.2 = false) (hpd : parseFieldDescriptor (T f).2.2.1 = some ty) (hn : narrow ty (.int x) = .int x) (hfit : fits ty (.int x) = true) (hlink : Cond.fieldLink M.1.cls idx C (T f).2.1 (T f).2.2.1 ∈ rk_tbl) {a : Nat} (hd : decode M.2.1 pc = .ok (.putfield idx, 3)) (kk : ∀ I', I' = rk_uI I c a f x → rk_Wp w l M d mc ms G (pc + 3) (ls) (st) Z I' R) : rk_Wp w l M d mc ms G (pc) (ls) (rk_i x :: rk_a k a :: st) Z I R := by
  intro p e Rm s m args below meth cd H locs la C a1 a2 a3 a4 a5
  have hok := rk_kok (rk_oh (rk_ot a1)) hk
  obtain ⟨ha, q0, hq0⟩ := rk_at a3 hok.1 hok.2
  have e1 : rk_F w Z.1.2 I R a = .inr (ci, rk_fs (I c) (R c) a 0 fts) := by show rk_ent w I R (Z.1.2 a) a = _; rw [hok.1]; exact rk_inl hkd hc
  have hq1 := hq0
  rw [e1] at hq1
  refine va_put C.1 C.2.1 C.2.2.2.2.2.1 hin ty0 hty hnm C.2.2.2.2.1 C.2.2.2.2.2.2.2.2.1.1 a3.1 a3.2.1 a4 q0 hq1 hq f hf (C.2.2.2.2.2.1 _ hlink) (fun x h => by rw [hT] at h; exact h) hfin (v := .int x) hpd hn hfit (by rw [rk_fs_len]; exact (List.getElem?_eq_some_iff.mp hf0).1) hd (fun H1 locs1 hP1 hD1 hS1 => ?_)
  refine kk _ rfl p e Rm s m args below meth cd H1 locs1 la C (rk_ot (rk_ot a1)) a2 (rk_HRset a3 ha hq0 ?_ (fun c' b j hb => rk_uI_n (fun h => hb h.2.1)) (fun _ _ _ _ => rfl) a3.2.2.2.2 hP1 hD1) hS1 a5
  rw [hok.1, rk_inl hkd hc]
  refine congrArg (fun z => Sum.inr (ci, z)) (rk_fs_set hf0 (fun i hi => rk_uI_n (fun h => hi (by omega))) (fun _ _ => rfl) ?_)
  simp [rk_uI]
theorem rk_iald (k c n : Nat) (hk : k < 100) (hkd : rk_kd k = .inr (0, n, 0)) (hc : k % 50 = c) {a : Nat} {i : Int32} (hd : decode M.2.1 pc = .ok (.iaload, 1)) (hi : vp_in i n) (kk : rk_Wp w l M d mc ms G (pc + 1) (ls) (rk_i (I c a i.toNatClampNeg) :: st) Z I R) : rk_Wp w l M d mc ms G (pc) (ls) (rk_i i :: rk_a k a :: st) Z I R := by
  intro p e Rm s m args below meth cd H locs la C a1 a2 a3 a4 a5
  have hok := rk_kok (rk_oh (rk_ot a1)) hk
  obtain ⟨ha, q0, hq0⟩ := rk_at a3 hok.1 hok.2
  have e1 : rk_F w Z.1.2 I R a = .inl (w.2.1 0, n, .inl (I c a)) := by show rk_ent w I R (Z.1.2 a) a = _; rw [hok.1]; exact rk_inr hkd hc
  rw [e1] at hq0
  exact va_iald C.1 C.2.1 C.2.2.2.2.2.2.2.2.1.1 a3.1 q0 0 hq0 rfl hi hd (kk p e Rm s m args below meth cd H locs la C (rk_oc trivial (rk_ot (rk_ot a1))) a2 a3 a4 a5)
theorem rk_zald (k c n : Nat) (hk : k < 100) (hkd : rk_kd k = .inr (2, n, 0)) (hc : k % 50 = c) {a : Nat} {i : Int32} (hd : decode M.2.1 pc = .ok (.baload, 1)) (hi : vp_in i n) (kk : rk_Wp w l M d mc ms G (pc + 1) (ls) (rk_i (I c a i.toNatClampNeg) :: st) Z I R) : rk_Wp w l M d mc ms G (pc) (ls) (rk_i i :: rk_a k a :: st) Z I R := by
  intro p e Rm s m args below meth cd H locs la C a1 a2 a3 a4 a5
  have hok := rk_kok (rk_oh (rk_ot a1)) hk
  obtain ⟨ha, q0, hq0⟩ := rk_at a3 hok.1 hok.2
  have e1 : rk_F w Z.1.2 I R a = .inl (w.2.1 2, n, .inl (I c a)) := by show rk_ent w I R (Z.1.2 a) a = _; rw [hok.1]; exact rk_inr hkd hc
  rw [e1] at hq0
  exact va_zald C.1 C.2.1 C.2.2.2.2.2.2.2.2.1.1 a3.1 q0 2 hq0 rfl hi hd (kk p e Rm s m args below meth cd H locs la C (rk_oc trivial (rk_ot (rk_ot a1))) a2 a3 a4 a5)
theorem rk_cald (k c n : Nat) (hk : k < 100) (hkd : rk_kd k = .inr (1, n, 0)) (hc : k % 50 = c) {a : Nat} {i : Int32} (hd : decode M.2.1 pc = .ok (.caload, 1)) (hi : vp_in i n) (kk : rk_Wp w l M d mc ms G (pc + 1) (ls) (rk_i (I c a i.toNatClampNeg) :: st) Z I R) : rk_Wp w l M d mc ms G (pc) (ls) (rk_i i :: rk_a k a :: st) Z I R := by
  intro p e Rm s m args below meth cd H locs la C a1 a2 a3 a4 a5
  have hok := rk_kok (rk_oh (rk_ot a1)) hk
  obtain ⟨ha, q0, hq0⟩ := rk_at a3 hok.1 hok.2
  have e1 : rk_F w Z.1.2 I R a = .inl (w.2.1 1, n, .inl (I c a)) := by show rk_ent w I R (Z.1.2 a) a = _; rw [hok.1]; exact rk_inr hkd hc
  rw [e1] at hq0
  exact va_cald C.1 C.2.1 C.2.2.2.2.2.2.2.2.1.1 a3.1 q0 1 hq0 rfl hi hd (kk p e Rm s m args below meth cd H locs la C (rk_oc trivial (rk_ot (rk_ot a1))) a2 a3 a4 a5)
theorem rk_iast (k c n : Nat) (hk : k < 100) (hkd : rk_kd k = .inr (0, n, 0)) (hc : k % 50 = c) {a : Nat} {i x : Int32} (hd : decode M.2.1 pc = .ok (.iastore, 1)) (hi : vp_in i n) (kk : ∀ I', I' = rk_uI I c a i.toNatClampNeg (x) → rk_Wp w l M d mc ms G (pc + 1) (ls) (st) Z I' R) : rk_Wp w l M d mc ms G (pc) (ls) (rk_i x :: rk_i i :: rk_a k a :: st) Z I R := by
  intro p e Rm s m args below meth cd H locs la C a1 a2 a3 a4 a5
  have hok := rk_kok (rk_oh (rk_ot (rk_ot a1))) hk
  obtain ⟨ha, q0, hq0⟩ := rk_at a3 hok.1 hok.2
  have e1 : rk_F w Z.1.2 I R a = .inl (w.2.1 0, n, .inl (I c a)) := by show rk_ent w I R (Z.1.2 a) a = _; rw [hok.1]; exact rk_inr hkd hc
  have hq1 := hq0
  rw [e1] at hq1
  refine va_iast C.1 C.2.1 C.2.2.2.2.2.2.2.2.1.1 a3.1 a3.2.1 a4 q0 0 hq1 rfl hi hd (fun H1 locs1 hP1 hD1 hS1 => ?_)
  refine kk _ rfl p e Rm s m args below meth cd H1 locs1 la C (rk_ot (rk_ot (rk_ot a1))) a2 (rk_HRset a3 ha hq0 ?_ (fun c' b j hb => rk_uI_n (fun h => hb h.2.1)) (fun _ _ _ _ => rfl) a3.2.2.2.2 hP1 hD1) hS1 a5
  rw [hok.1, rk_inr hkd hc]
  refine congrArg (fun z => Sum.inl (w.2.1 0, n, Sum.inl z)) (funext fun j => ?_)
  by_cases hj : j = i.toNatClampNeg
  · subst hj
    simp [rk_uI, upd]
  · simp [rk_uI, upd, hj]
theorem rk_zast (k c n : Nat) (hk : k < 100) (hkd : rk_kd k = .inr (2, n, 0)) (hc : k % 50 = c) {a : Nat} {i x : Int32} (hd : decode M.2.1 pc = .ok (.bastore, 1)) (hi : vp_in i n) (kk : ∀ I', I' = rk_uI I c a i.toNatClampNeg (vp_nar .boolean x) → rk_Wp w l M d mc ms G (pc + 1) (ls) (st) Z I' R) : rk_Wp w l M d mc ms G (pc) (ls) (rk_i x :: rk_i i :: rk_a k a :: st) Z I R := by
  intro p e Rm s m args below meth cd H locs la C a1 a2 a3 a4 a5
  have hok := rk_kok (rk_oh (rk_ot (rk_ot a1))) hk
  obtain ⟨ha, q0, hq0⟩ := rk_at a3 hok.1 hok.2
  have e1 : rk_F w Z.1.2 I R a = .inl (w.2.1 2, n, .inl (I c a)) := by show rk_ent w I R (Z.1.2 a) a = _; rw [hok.1]; exact rk_inr hkd hc
  have hq1 := hq0
  rw [e1] at hq1
  refine va_zast C.1 C.2.1 C.2.2.2.2.2.2.2.2.1.1 a3.1 a3.2.1 a4 q0 2 hq1 rfl hi hd (fun H1 locs1 hP1 hD1 hS1 => ?_)
  refine kk _ rfl p e Rm s m args below meth cd H1 locs1 la C (rk_ot (rk_ot (rk_ot a1))) a2 (rk_HRset a3 ha hq0 ?_ (fun c' b j hb => rk_uI_n (fun h => hb h.2.1)) (fun _ _ _ _ => rfl) a3.2.2.2.2 hP1 hD1) hS1 a5
  rw [hok.1, rk_inr hkd hc]
  refine congrArg (fun z => Sum.inl (w.2.1 2, n, Sum.inl z)) (funext fun j => ?_)
  by_cases hj : j = i.toNatClampNeg
  · subst hj
    simp [rk_uI, upd]
  · simp [rk_uI, upd, hj]
theorem rk_cast (k c n : Nat) (hk : k < 100) (hkd : rk_kd k = .inr (1, n, 0)) (hc : k % 50 = c) {a : Nat} {i x : Int32} (hd : decode M.2.1 pc = .ok (.castore, 1)) (hi : vp_in i n) (kk : ∀ I', I' = rk_uI I c a i.toNatClampNeg (vp_nar .char x) → rk_Wp w l M d mc ms G (pc + 1) (ls) (st) Z I' R) : rk_Wp w l M d mc ms G (pc) (ls) (rk_i x :: rk_i i :: rk_a k a :: st) Z I R := by
  intro p e Rm s m args below meth cd H locs la C a1 a2 a3 a4 a5
  have hok := rk_kok (rk_oh (rk_ot (rk_ot a1))) hk
  obtain ⟨ha, q0, hq0⟩ := rk_at a3 hok.1 hok.2
  have e1 : rk_F w Z.1.2 I R a = .inl (w.2.1 1, n, .inl (I c a)) := by show rk_ent w I R (Z.1.2 a) a = _; rw [hok.1]; exact rk_inr hkd hc
  have hq1 := hq0
  rw [e1] at hq1
  refine va_cast C.1 C.2.1 C.2.2.2.2.2.2.2.2.1.1 a3.1 a3.2.1 a4 q0 1 hq1 rfl hi hd (fun H1 locs1 hP1 hD1 hS1 => ?_)
  refine kk _ rfl p e Rm s m args below meth cd H1 locs1 la C (rk_ot (rk_ot (rk_ot a1))) a2 (rk_HRset a3 ha hq0 ?_ (fun c' b j hb => rk_uI_n (fun h => hb h.2.1)) (fun _ _ _ _ => rfl) a3.2.2.2.2 hP1 hD1) hS1 a5
  rw [hok.1, rk_inr hkd hc]
  refine congrArg (fun z => Sum.inl (w.2.1 1, n, Sum.inl z)) (funext fun j => ?_)
  by_cases hj : j = i.toNatClampNeg
  · subst hj
    simp [rk_uI, upd]
  · simp [rk_uI, upd, hj]
theorem rk_aald (k c n ek t : Nat) {Cn : String} (hk : k < 50) (hkd : rk_kd k = .inr (t, n, ek)) (hc : k % 50 = c) (hek : ek ≠ 0 ∧ ek < 50) (ht : ∀ w, (rk_tys w)[t]? = some (w.2.1 t, .object Cn)) {a : Nat} {i : Int32} (hd : decode M.2.1 pc = .ok (.aaload, 1)) (hi : vp_in i n) (kk : rk_Wp w l M d mc ms G (pc + 1) (ls) (rk_a ek (R c a i.toNatClampNeg) :: st) Z I R) : rk_Wp w l M d mc ms G (pc) (ls) (rk_i i :: rk_a k a :: st) Z I R := by
  intro p e Rm s m args below meth cd H locs la C a1 a2 a3 a4 a5
  have hok := rk_kok (rk_oh (rk_ot a1)) (by omega)
  obtain ⟨ha, q0, hq0⟩ := rk_at a3 hok.1 hok.2
  have e1 : rk_F w Z.1.2 I R a = .inl (w.2.1 t, n, .inr (.inr (.inr (.inr (fun j => rk_op (R c a j)))))) := by show rk_ent w I R (Z.1.2 a) a = _; rw [hok.1]; exact rk_inq hkd hek.1 hc
  rw [e1] at hq0
  have hcc : c = k := by omega
  have hlt : i.toNatClampNeg < n := Nat.not_le.mp fun q => hi (Or.inr q)
  have hrk : rk_rk (Z.1.2 a) i.toNatClampNeg = ek := by rw [hok.1]; simp [rk_rk, hkd, hlt]
  have hw := a3.2.2.2.2 a i.toNatClampNeg (by rw [hok.1]; exact hk) (by rw [hrk]; exact hek.1)
  rw [hrk, hok.1, ← hcc] at hw
  have hn0 : R c a i.toNatClampNeg ≠ 0 := fun h => by rw [h, a3.2.2.1] at hw; exact hek.1 hw.symm
  refine va_aldq C.1 C.2.1 C.2.2.2.2.2.2.2.2.1.1 a3.1 q0 t hq0 (ht w) hi hd ?_
  rw [show va_rf (rk_op (R c a i.toNatClampNeg)) = Value.ref (R c a i.toNatClampNeg) by simp [rk_op, hn0, va_rf]]
  exact kk p e Rm s m args below meth cd H locs la C (rk_oc (rk_kin (by omega) hek.1 hw) (rk_ot (rk_ot a1))) a2 a3 a4 a5
theorem rk_aast (k c n ek t ci : Nat) {r : vw_C} {fts : List Nat} (hk : k < 100) (hkd : rk_kd k = .inr (t, n, ek)) (hc : k % 50 = c) (hek : ek ≠ 0 ∧ ek < 50) (ht : ∀ w, (rk_tys w)[t]? = some (w.2.1 t, .object r.1)) (hcl : vwCl[ci]? = some r) (hke : rk_kd ek = .inl (ci, fts)) {a v : Nat} {i : Int32} (hd : decode M.2.1 pc = .ok (.aastore, 1)) (hi : vp_in i n) (kk : ∀ R', R' = rk_uR R c a i.toNatClampNeg v → rk_Wp w l M d mc ms G (pc + 1) (ls) (st) Z I R') : rk_Wp w l M d mc ms G (pc) (ls) (rk_a ek v :: rk_i i :: rk_a k a :: st) Z I R := by
  intro p e Rm s m args below meth cd H locs la C a1 a2 a3 a4 a5
  have hok := rk_kok (rk_oh (rk_ot (rk_ot a1))) hk
  have hov := rk_kok (rk_oh a1) (by omega)
  obtain ⟨ha, q0, hq0⟩ := rk_at a3 hok.1 hok.2
  obtain ⟨hav, q1, hqv⟩ := rk_at a3 hov.1 hov.2
  have e1 : rk_F w Z.1.2 I R a = .inl (w.2.1 t, n, .inr (.inr (.inr (.inr (fun j => rk_op (R c a j)))))) := by show rk_ent w I R (Z.1.2 a) a = _; rw [hok.1]; exact rk_inq hkd hek.1 hc
  have e2 : rk_F w Z.1.2 I R v = .inr (ci, rk_fs (I (ek % 50)) (R (ek % 50)) v 0 fts) := by show rk_ent w I R (Z.1.2 v) v = _; rw [hov.1]; exact rk_inl hke rfl
  have hq1 := hq0
  rw [e1] at hq1
  rw [e2] at hqv
  have hn0 : v ≠ 0 := fun h => by have := hov.1; rw [h, a3.2.2.1] at this; exact hek.1 this.symm
  refine va_astq C.1 C.2.1 C.2.2.2.2.2.2.2.2.1.1 a3.1 a3.2.1 a4 q0 t q1 ci hq1 (ht w) hqv hcl hi hd (fun H1 locs1 hP1 hD1 hS1 => ?_)
  refine kk _ rfl p e Rm s m args below meth cd H1 locs1 la C (rk_ot (rk_ot (rk_ot a1))) a2 (rk_HRset a3 ha hq0 ?_ (fun _ _ _ _ => rfl) (fun c' b j hb => rk_uR_n (fun h => hb h.2.1)) ?_ hP1 hD1) hS1 a5
  · rw [hok.1, rk_inq hkd hek.1 hc]
    refine congrArg (fun z => Sum.inl (w.2.1 t, n, Sum.inr (Sum.inr (Sum.inr (Sum.inr z))))) (funext fun j => ?_)
    by_cases hj : j = i.toNatClampNeg
    · subst hj
      simp [rk_uR, va_up, rk_op, hn0]
    · simp [rk_uR, va_up, hj]
  · intro b f hb hr
    have hold := a3.2.2.2.2 b f hb hr
    by_cases hcase : (Z.1.2 b) = c ∧ b = a ∧ f = i.toNatClampNeg
    · obtain ⟨g1, g2, g3⟩ := hcase
      subst g2; subst g3
      rw [g1, rk_uR_s]
      have hlt : i.toNatClampNeg < n := Nat.not_le.mp fun q => hi (Or.inr q)
      have hkk : k = c := by rw [← g1]; exact hok.1.symm
      rw [hov.1]
      show ek = rk_rk c i.toNatClampNeg
      rw [← hkk]
      simp [rk_rk, hkd, hlt]
    · rw [rk_uR_n hcase]
      exact hold
theorem rk_fald (k : Nat) (j : Nat) (hj : j < 6) (hkj : k = 100 + j) {a : Nat} {i : Int32} (hd : decode M.2.1 pc = .ok (.iaload, 1)) (hi : vp_in i (rk_fz w j).2.1) (kk : rk_Wp w l M d mc ms G (pc + 1) (ls) (rk_i ((rk_fz w j).2.2 i.toNatClampNeg) :: st) Z I R) : rk_Wp w l M d mc ms G (pc) (ls) (rk_i i :: rk_a k a :: st) Z I R := by
  intro p e Rm s m args below meth cd H locs la C a1 a2 a3 a4 a5
  have hok := rk_oh (rk_ot a1)
  have ha : a = (rk_fz w j).1 := by
    rcases hok with h | h | h
    · exact absurd h.1 (by show ¬ k < 100; omega)
    · have := h.2.2
      rw [show (k, a).1 - 100 = j by show k - 100 = j; omega] at this
      exact this
    · exact absurd h.1 (by show ¬ 110 ≤ k; omega)
  subst ha
  have hKN := C.2.2.2.2.2.2.2.2.1
  have hX := hKN.2.1 j hj
  exact va_sld C.1 C.2.1 hX.1 (Nat.lt_of_lt_of_le hX.2 hKN.2.2.2.2.2.2.2.2) (Nat.not_le.mpr hX.2) a4 hi hd (kk p e Rm s m args below meth cd H locs la C (rk_oc trivial (rk_ot (rk_ot a1))) a2 a3 a4 a5)
theorem rk_falen (k : Nat) (j : Nat) (hj : j < 6) (hkj : k = 100 + j) {a : Nat} (hd : decode M.2.1 pc = .ok (.arraylength, 1)) (kk : rk_Wp w l M d mc ms G (pc + 1) (ls) (rk_i (Int32.ofNat (rk_fz w j).2.1) :: st) Z I R) : rk_Wp w l M d mc ms G (pc) (ls) (rk_a k a :: st) Z I R := by
  intro p e Rm s m args below meth cd H locs la C a1 a2 a3 a4 a5
  have hok := rk_oh a1
  have ha : a = (rk_fz w j).1 := by
    rcases hok with h | h | h
    · exact absurd h.1 (by show ¬ k < 100; omega)
    · have := h.2.2
      rw [show (k, a).1 - 100 = j by show k - 100 = j; omega] at this
      exact this
    · exact absurd h.1 (by show ¬ 110 ≤ k; omega)
  subst ha
  have hKN := C.2.2.2.2.2.2.2.2.1
  have hX := hKN.2.1 j hj
  exact va_slen C.1 C.2.1 hX.1 (Nat.lt_of_lt_of_le hX.2 hKN.2.2.2.2.2.2.2.2) (Nat.not_le.mpr hX.2) a4 hd (kk p e Rm s m args below meth cd H locs la C (rk_oc trivial (rk_ot a1)) a2 a3 a4 a5)
theorem rk_gets (j : Nat) (hj : j < 5) {idx : Nat} (hlink : (M.1.cls, idx, rk_snm.getD j "") ∈ rk_nestF) (hd : decode M.2.1 pc = .ok (.getstatic idx, 3)) (kk : rk_Wp w l M d mc ms G (pc + 3) (ls) (rk_a (100 + j) (rk_fz w j).1 :: st) Z I R) : rk_Wp w l M d mc ms G (pc) (ls) (st) Z I R := by
  intro p e Rm s m args below meth cd H locs la C a1 a2 a3 a4 a5
  have hKN := C.2.2.2.2.2.2.2.2.1
  exact va_getsN C.1 C.2.1 (hKN.2.2.1.1 j hj) a4 C.2.2.2.2.1 (va_tabs rfl rfl (hKN.2.2.1.2.1 _ hlink)) (fun _ h => h) hd (kk p e Rm s m args below meth cd H locs la C (rk_oc (Or.inr (Or.inl ⟨by show 100 ≤ 100 + j; omega, by show 100 + j < 106; omega, by show (rk_fz w j).1 = (rk_fz w (100 + j - 100)).1; rw [Nat.add_sub_cancel_left]⟩)) a1) a2 a3 a4 a5)
end RKR
