section DT
variable {w : rk_W} {Sh : rk_Sh} {I : rk_Mm} {R : rk_Rm} {H H1 : Heap}
/-- a new cell: all its parts are 0 or null -/
def rk_nI (I : rk_Mm) (q : Nat) : rk_Mm := fun c a j => if a = q then 0 else I c a j
def rk_nR (R : rk_Rm) (q : Nat) : rk_Rm := fun c a j => if a = q then 0 else R c a j
def rk_nS (Sh : rk_Sh) (q k : Nat) : rk_Sh := (Sh.1 ++ [q], va_up Sh.2 q k)
theorem rk_nI_s {q c j : Nat} : rk_nI I q c q j = 0 := if_pos rfl
theorem rk_nI_n {q c a j : Nat} (h : a ≠ q) : rk_nI I q c a j = I c a j := if_neg h
theorem rk_nR_s {q c j : Nat} : rk_nR R q c q j = 0 := if_pos rfl
theorem rk_nR_n {q c a j : Nat} (h : a ≠ q) : rk_nR R q c a j = R c a j := if_neg h
theorem rk_HRnew {q k : Nat} {e : va_E} (h : rk_HR w Sh I R H) (h0 : k ≠ 0) (hraw : k < 50 → ∀ f, rk_rk k f = 0) (hA : ∀ a, rk_A w a → a ≠ 0) (he : e = rk_ent w (fun _ _ _ => 0) (fun _ _ _ => 0) k q) (hP : va_P w.1 vwCl (([] ++ va_pl Sh.1 (rk_F w Sh.2 I R)) ++ [(q, e)]) H1) (hD : va_D (rk_A w) (([] ++ va_pl Sh.1 (rk_F w Sh.2 I R)) ++ [(q, e)])) : (Sh.2 q = 0 ∧ q ≠ 0) ∧ rk_HR w (rk_nS Sh q k) (rk_nI I q) (rk_nR R q) H1 := by
  have hq : q ∉ Sh.1 := va_pl_fresh2 hD
  have hk0 : Sh.2 q = 0 := Classical.byContradiction fun z => hq ((h.2.2.2.1 q).mpr z)
  have hq0 : q ≠ 0 := hA q (hD.2 (([] ++ va_pl Sh.1 (rk_F w Sh.2 I R)).length) (q, e) (by simp))
  have e1 : ([] ++ va_pl Sh.1 (rk_F w Sh.2 I R)) ++ [(q, e)] = [] ++ va_pl (rk_nS Sh q k).1 (rk_F w (rk_nS Sh q k).2 (rk_nI I q) (rk_nR R q)) := by
    simp only [rk_nS, va_pl, List.nil_append, List.map_append, List.map_cons, List.map_nil]
    congr 1
    · refine List.map_congr_left fun a ha => ?_
      have hne : a ≠ q := fun z => hq (z ▸ ha)
      show (a, rk_ent w I R (Sh.2 a) a) = (a, rk_ent w (rk_nI I q) (rk_nR R q) (va_up Sh.2 q k a) a)
      rw [va_up_ne _ _ hne]
      exact congrArg _ (rk_ent_congr (fun j => rk_nI_n hne) (fun j => rk_nR_n hne)).symm
    · show [(q, e)] = [(q, rk_ent w (rk_nI I q) (rk_nR R q) (va_up Sh.2 q k q) q)]
      rw [va_up_self, he]
      exact congrArg (fun z => [(q, z)]) (rk_ent_congr (fun j => rk_nI_s) (fun j => rk_nR_s)).symm
  rw [e1] at hP hD
  refine ⟨⟨hk0, hq0⟩, hP, hD, ?_, fun a => ?_, fun a f h1 h2 => ?_⟩
  · show va_up Sh.2 q k 0 = 0
    rw [va_up_ne _ _ (Ne.symm hq0)]
    exact h.2.2.1
  · show a ∈ Sh.1 ++ [q] ↔ va_up Sh.2 q k a ≠ 0
    by_cases hne : a = q
    · subst hne; rw [va_up_self]; simp [h0]
    · rw [va_up_ne _ _ hne, ← h.2.2.2.1 a]; simp [hne]
  · have h1' : va_up Sh.2 q k a < 50 := h1
    have h2' : rk_rk (va_up Sh.2 q k a) f ≠ 0 := h2
    show va_up Sh.2 q k (rk_nR R q (va_up Sh.2 q k a) a f) = rk_rk (va_up Sh.2 q k a) f
    by_cases hne : a = q
    · subst hne
      rw [va_up_self] at h1' h2'
      exact absurd (hraw h1' f) h2'
    · rw [va_up_ne _ _ hne] at h1' h2' ⊢
      rw [rk_nR_n hne]
      have g := h.2.2.2.2 a f h1' h2'
      have hb : R (Sh.2 a) a f ≠ q := fun z => by rw [z, hk0] at g; exact h2' g.symm
      rw [va_up_ne _ _ hb]
      exact g
theorem rk_fs_congr' (q : Nat) : ∀ {fts : List Nat} {j : Nat}, rk_fs (fun _ _ => (0 : Int32)) (fun _ _ => 0) q j fts = rk_fs (fun _ _ => 0) (fun _ _ => 0) 0 j fts
  | [], _ => rfl
  | f :: t, j => by
    simp only [rk_fs]
    rw [rk_fs_congr' q]
theorem rk_ok_up {kd : Nat → Nat} {q k : Nat} {v : rk_V} (h0 : kd q = 0) (h : rk_ok w kd v) : rk_ok w (va_up kd q k) v := by
  rcases v with x | x | ⟨k', a'⟩ | i
  · trivial
  · trivial
  · rcases h with h | h
    · refine Or.inl ⟨h.1, ?_, h.2.2⟩
      have hne : a' ≠ q := fun z => by
        have h2 : kd a' = k' := h.2.1
        rw [z, h0] at h2
        exact h.2.2 h2.symm
      show va_up kd q k a' = k'
      rw [va_up_ne _ _ hne]
      exact h.2.1
    · exact Or.inr h
  · exact h
theorem rk_oks_up {kd : Nat → Nat} {q k : Nat} {st : List rk_V} (h0 : kd q = 0) (h : rk_oks w kd st) : rk_oks w (va_up kd q k) st := fun v hv => rk_ok_up h0 (h v hv)
end DT
section DU
variable {w : rk_W} {l : Launch} {M : rk_M} {d mc ms : Nat} {G : List Frame → Array Value → State → State → Prop} {pc : Nat} {ls : List (Nat × rk_V)} {st : List rk_V} {Z : rk_Z} {I : rk_Mm} {R : rk_Rm}
theorem rk_new (k ci : Nat) {C : String} {T : u_T} {N idx : Nat} {fts : List Nat} (ty0 : Nat → FieldType) (hk : k < 100) (h0 : k ≠ 0) (hkd : rk_kd k = .inl (ci, fts)) (hq : vwCl[ci]? = some (C, T, N)) (hin : ∀ q ∈ u_ws C T N, q ∈ rk_tbl) (hty : ∀ k, k < N → parseFieldDescriptor (T k).2.2.1 = some (ty0 k)) (hfl : ∀ j, j < N → defaultValue (ty0 j) = vp_V (rk_fs (fun _ _ => 0) (fun _ _ => 0) 0 0 fts) j) (hraw : k < 50 → ∀ f, rk_rk k f = 0) (hcl : Cond.classLink M.1.cls idx C ∈ rk_tbl) (hinst : Cond.instantiable C N ∈ rk_tbl) (hini : Cond.initialized C ∈ rk_tbl) (hcells : Z.2.1 + 1 ≤ mc) (hslots : Z.2.2 + N ≤ ms) (hd : decode M.2.1 pc = .ok (.new idx, 3)) (kk : ∀ q, (Z.1.2 q = 0 ∧ q ≠ 0) → rk_Wp w l M d mc ms G (pc + 3) ls (rk_a k q :: st) (rk_nS Z.1 q k, Z.2.1 + 1, Z.2.2 + N) (rk_nI I q) (rk_nR R q)) : rk_Wp w l M d mc ms G pc ls st Z I R := by
  intro p e Rm s m args below meth cd H locs la C a1 a2 a3 a4 a5
  have hKN := C.2.2.2.2.2.2.2.2.1
  have hts := C.2.2.2.2.2.1
  have hfs : ∀ q : Nat, rk_fs (fun _ _ => (0 : Int32)) (fun _ _ => 0) q 0 fts = rk_fs (fun _ _ => 0) (fun _ _ => 0) 0 0 fts := fun q => rk_fs_congr' q
  refine va_new C.1 C.2.1 hts hin ty0 hty C.2.2.2.2.1 (hts _ hcl) (hts _ hinst) (hts _ hini) hKN.1 a3.1 a3.2.1 a4 (fun q hq => Nat.le_trans hKN.2.2.2.2.2.2.2.2 hq) hq hfl (Nat.le_trans hcells C.2.2.2.2.2.2.2.2.2.2.2.1) (Nat.le_trans hslots C.2.2.2.2.2.2.2.2.2.2.2.2) hd (fun q H1 hP1 hD1 hS1 => ?_)
  obtain ⟨g1, g2⟩ := rk_HRnew (k := k) a3 h0 hraw (fun a h => by have h8 := hKN.2.2.2.2.2.2.2.1; have h9 : w.2.2.1 ≤ a := h; omega) (by rw [rk_inl hkd rfl]; exact congrArg (fun z => Sum.inr (ci, z)) (hfs q).symm) hP1 hD1
  exact kk q g1 p e Rm s m args below meth cd H1 locs la C (rk_oc (rk_kin hk h0 (va_up_self _ _ _)) (rk_oks_up g1.1 a1)) (rk_oks_up g1.1 a2) g2 hS1 a5
theorem rk_RAu {U : State} {c1 c2 : ClassId} {ty : FieldType} (h1 : va_RA U c1 ty) (h2 : va_RA U c2 ty) : c1 = c2 := by
  cases ty with
  | object C =>
    obtain ⟨k1, p1, -, -, -, e1⟩ := h1
    obtain ⟨k2, p2, -, -, -, e2⟩ := h2
    exact Option.some.inj (e1.symm.trans e2)
  | _ => exact Option.some.inj (h1.symm.trans h2)
theorem rk_newa (k t n : Nat) {ty : FieldType} {at' : ArrayType} {x : Int32} (hk : k < 50) (h0 : k ≠ 0) (hkd : rk_kd k = .inr (t, n, 0)) (hty : ∀ w : rk_W, (rk_tys w)[t]? = some (w.2.1 t, ty)) (hat : newarray.typeOf at' = ty) (hdv : defaultValue ty = .int 0) (har : Cond.arrayClass ty ∈ rk_tbl) (hx : ¬ x < 0) (hn : x.toNatClampNeg = n) (hby : n * componentBytes ty ≤ 536870912) (hcells : Z.2.1 + 1 ≤ mc) (hslots : Z.2.2 + n ≤ ms) (hd : decode M.2.1 pc = .ok (.newarray at', 2)) (kk : ∀ q, (Z.1.2 q = 0 ∧ q ≠ 0) → rk_Wp w l M d mc ms G (pc + 2) ls (rk_a k q :: st) (rk_nS Z.1 q k, Z.2.1 + 1, Z.2.2 + n) (rk_nI I q) (rk_nR R q)) : rk_Wp w l M d mc ms G pc ls (rk_i x :: st) Z I R := by
  intro p e Rm s m args below meth cd H locs la C a1 a2 a3 a4 a5
  have hKN := C.2.2.2.2.2.2.2.2.1
  have hts := C.2.2.2.2.2.1
  refine va_newa (a0 := (n, .inl (fun _ => 0))) C.1 C.2.1 (by rw [hat]; exact hts _ har) hat hKN.1 a3.1 a3.2.1 a4 (fun q hq => Nat.le_trans hKN.2.2.2.2.2.2.2.2 hq) (fun cA => by rw [hdv]; rfl) hx hn hby (Nat.le_trans hcells C.2.2.2.2.2.2.2.2.2.2.2.1) (Nat.le_trans hslots C.2.2.2.2.2.2.2.2.2.2.2.2) hd (fun q cA H1 hK1 hP1 hD1 hS1 => ?_)
  have e1 : (rk_tys w ++ [(cA, ty)])[(rk_tys w).length]? = some (cA, ty) := by simp
  have e2 : (rk_tys w ++ [(cA, ty)])[t]? = some (w.2.1 t, ty) := by
    have h1 := hty w
    rw [List.getElem?_append_left (List.getElem?_eq_some_iff.mp h1).1]
    exact h1
  have ec : cA = w.2.1 t := rk_RAu (hK1.2 _ _ e1).2 (hK1.2 _ _ e2).2
  subst ec
  obtain ⟨g1, g2⟩ := rk_HRnew (k := k) a3 h0 (fun _ f => by simp [rk_rk, hkd]) (fun a h => by have h8 := hKN.2.2.2.2.2.2.2.1; have h9 : w.2.2.1 ≤ a := h; omega) (by rw [rk_inr hkd rfl]) hP1 hD1
  exact kk q g1 p e Rm s m args below meth cd H1 locs la C (rk_oc (rk_kin (by omega) h0 (va_up_self _ _ _)) (rk_oks_up g1.1 (rk_ot a1))) (rk_oks_up g1.1 a2) g2 hS1 a5
theorem rk_newq (k t n ek : Nat) {Cn : String} {idx : Nat} {x : Int32} (hk : k < 100 ∧ 50 ≤ k) (hkd : rk_kd k = .inr (t, n, ek)) (hek : ek ≠ 0) (hty : ∀ w : rk_W, (rk_tys w)[t]? = some (w.2.1 t, .object Cn)) (hcl : Cond.classLink M.1.cls idx Cn ∈ rk_tbl) (hao : Cn ∈ [RX2, RX4, RX7, RX9]) (hx : ¬ x < 0) (hn : x.toNatClampNeg = n) (hby : n * 4 ≤ 536870912) (hcells : Z.2.1 + 1 ≤ mc) (hslots : Z.2.2 + n ≤ ms) (hd : decode M.2.1 pc = .ok (.anewarray idx, 3)) (kk : ∀ q, (Z.1.2 q = 0 ∧ q ≠ 0) → rk_Wp w l M d mc ms G (pc + 3) ls (rk_a k q :: st) (rk_nS Z.1 q k, Z.2.1 + 1, Z.2.2 + n) (rk_nI I q) (rk_nR R q)) : rk_Wp w l M d mc ms G pc ls (rk_i x :: st) Z I R := by
  intro p e Rm s m args below meth cd H locs la C a1 a2 a3 a4 a5
  have hKN := C.2.2.2.2.2.2.2.2.1
  have hts := C.2.2.2.2.2.1
  refine va_newq C.1 C.2.1 C.2.2.2.2.1 (hts _ hcl) (hKN.2.2.2.2.2.2.1 Cn hao) hKN.1 a3.1 a3.2.1 a4 (fun q hq => Nat.le_trans hKN.2.2.2.2.2.2.2.2 hq) hx hn hby (Nat.le_trans hcells C.2.2.2.2.2.2.2.2.2.2.2.1) (Nat.le_trans hslots C.2.2.2.2.2.2.2.2.2.2.2.2) hd (fun q cA H1 hK1 hP1 hD1 hS1 => ?_)
  have e1 : (rk_tys w ++ [(cA, .object Cn)])[(rk_tys w).length]? = some (cA, .object Cn) := by simp
  have e2 : (rk_tys w ++ [(cA, .object Cn)])[t]? = some (w.2.1 t, .object Cn) := by
    have h1 := hty w
    rw [List.getElem?_append_left (List.getElem?_eq_some_iff.mp h1).1]
    exact h1
  have ec : cA = w.2.1 t := rk_RAu (hK1.2 _ _ e1).2 (hK1.2 _ _ e2).2
  subst ec
  obtain ⟨g1, g2⟩ := rk_HRnew (k := k) a3 (by omega) (fun h => absurd h (by omega)) (fun a h => by have h8 := hKN.2.2.2.2.2.2.2.1; have h9 : w.2.2.1 ≤ a := h; omega) (by rw [rk_inq hkd hek rfl]; rfl) hP1 hD1
  exact kk q g1 p e Rm s m args below meth cd H1 locs la C (rk_oc (rk_kin (by omega) (by omega) (va_up_self _ _ _)) (rk_oks_up g1.1 (rk_ot a1))) (rk_oks_up g1.1 a2) g2 hS1 a5
end DU

