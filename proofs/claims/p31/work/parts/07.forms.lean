def rk_cn (k : Nat) : Option String := (vwCl[k - 1]?).map (fun q => q.1)
theorem rk_obj {k : Nat} {C : String} (h : rk_cn k = some C) (hk : (Nat.ble 1 k && Nat.ble k 11) = true) : k < 100 ∧ ∃ (ci : Nat) (q : vw_C) (fts : List Nat), rk_kd k = .inl (ci, fts) ∧ vwCl[ci]? = some q ∧ q.1 = C := by
  simp only [Bool.and_eq_true, Nat.ble_eq] at hk
  refine ⟨by omega, ?_⟩
  rcases (by omega : k = 1 ∨ k = 2 ∨ k = 3 ∨ k = 4 ∨ k = 5 ∨ k = 6 ∨ k = 7 ∨ k = 8 ∨ k = 9 ∨ k = 10 ∨ k = 11) with rfl | rfl | rfl | rfl | rfl | rfl | rfl | rfl | rfl | rfl | rfl <;> exact ⟨_, _, _, rfl, rfl, Option.some.inj h⟩
/-- an int, the heap as it was -/
def rk_P (w : rk_W) (l : Launch) (M : rk_M) (d : Nat) (as : List rk_V) (Sh : rk_Sh) (I : rk_Mm) (R : rk_Rm) (x : Int32) : Prop := rk_C w l M d 0 0 as (Sh, I, R) (fun r u => u = (Sh, I, R) ∧ r = some (rk_i x))
/-- an int and a heap of which Q -/
def rk_J (w : rk_W) (l : Launch) (M : rk_M) (d : Nat) (as : List rk_V) (Sh : rk_Sh) (I : rk_Mm) (R : rk_Rm) (Q : Int32 → rk_Mm → rk_Rm → Prop) : Prop := rk_C w l M d 0 0 as (Sh, I, R) (fun r u => u.1 = Sh ∧ ∃ x, r = some (rk_i x) ∧ Q x u.2.1 u.2.2)
/-- nothing, and a heap of which Q -/
def rk_U (w : rk_W) (l : Launch) (M : rk_M) (d : Nat) (as : List rk_V) (Sh : rk_Sh) (I : rk_Mm) (R : rk_Rm) (Q : rk_Mm → rk_Rm → Prop) : Prop := rk_C w l M d 0 0 as (Sh, I, R) (fun r u => u.1 = Sh ∧ r = none ∧ Q u.2.1 u.2.2)
/-- a text, the heap as it was -/
def rk_X (w : rk_W) (l : Launch) (M : rk_M) (d : Nat) (as : List rk_V) (Sh : rk_Sh) (I : rk_Mm) (R : rk_Rm) (Q : Nat → Prop) : Prop := rk_C w l M d 0 0 as (Sh, I, R) (fun r u => u = (Sh, I, R) ∧ ∃ i, r = some (rk_t i) ∧ Q i)

section RKR
variable {w : rk_W} {l : Launch} {M : rk_M} {d mc ms : Nat} {G : List Frame → Array Value → State → State → Prop} {pc : Nat} {ls : List (Nat × rk_V)} {st : List rk_V} {Z : rk_Z} {I : rk_Mm} {R : rk_Rm}
theorem rk_cVp {M' : rk_M} {d' n idx : Nat} {as st0 : List rk_V} {x : Int32} {k a : Nat} (hC : rk_P w l M' d' (rk_a k a :: as) Z.1 I R x) (hM : rk_MeV M' n) (hn : as.length = n) (hcls : rk_cn k = some M'.1.cls ∧ (Nat.ble 1 k && Nat.ble k 11) = true) (hlink : Cond.methodLink M.1.cls idx M'.1 ∈ rk_tbl) (hd : decode M.2.1 pc = .ok (.invokevirtual idx, 3)) (hs : st0 = rk_rev (rk_a k a :: as) st) (hroom : d' + 1 ≤ d ∧ 1 ≤ d') (hst : rk_cats st ≤ 8) (hz : Z.2.1 ≤ mc ∧ Z.2.2 ≤ ms) (kk : rk_Wp w l M d mc ms G (pc + 3) (ls) (rk_i x :: st) Z I R) : rk_Wp w l M d mc ms G (pc) (ls) (st0) Z I R := by
  obtain ⟨hk, ci, q, fts, g1, g2, g3⟩ := rk_obj hcls.1 hcls.2
  intro p e Rm s m args below meth cd H locs la C a1 a2 a3 a4 a5
  refine rk_cV M' d' 0 0 hk g1 g2 g3 hC hM hn hlink hd hs hroom ⟨hz.1, hz.2⟩ hst (fun r u hQ => ?_) p e Rm s m args below meth cd H locs la C a1 a2 a3 a4 a5
  obtain ⟨rfl, rfl⟩ := hQ
  exact ⟨(rk_okrev (by rw [← hs]; exact a1)).2, a2, kk⟩
theorem rk_cVi {M' : rk_M} {d' n idx : Nat} {as st0 : List rk_V} {Q' : Int32 → rk_Mm → rk_Rm → Prop} {k a : Nat} (hC : rk_J w l M' d' (rk_a k a :: as) Z.1 I R Q') (hM : rk_MeV M' n) (hn : as.length = n) (hcls : rk_cn k = some M'.1.cls ∧ (Nat.ble 1 k && Nat.ble k 11) = true) (hlink : Cond.methodLink M.1.cls idx M'.1 ∈ rk_tbl) (hd : decode M.2.1 pc = .ok (.invokevirtual idx, 3)) (hs : st0 = rk_rev (rk_a k a :: as) st) (hroom : d' + 1 ≤ d ∧ 1 ≤ d') (hst : rk_cats st ≤ 8) (hz : Z.2.1 ≤ mc ∧ Z.2.2 ≤ ms) (kk : ∀ (x : Int32) (I' : rk_Mm) (R' : rk_Rm), Q' x I' R' → rk_Wp w l M d mc ms G (pc + 3) (ls) (rk_i x :: st) Z I' R') : rk_Wp w l M d mc ms G (pc) (ls) (st0) Z I R := by
  obtain ⟨hk, ci, q, fts, g1, g2, g3⟩ := rk_obj hcls.1 hcls.2
  intro p e Rm s m args below meth cd H locs la C a1 a2 a3 a4 a5
  refine rk_cV M' d' 0 0 hk g1 g2 g3 hC hM hn hlink hd hs hroom ⟨hz.1, hz.2⟩ hst (fun r u hQ => ?_) p e Rm s m args below meth cd H locs la C a1 a2 a3 a4 a5
  obtain ⟨g5, x, rfl, hQ⟩ := hQ
  obtain ⟨Sh', I', R'⟩ := u
  cases g5
  exact ⟨(rk_okrev (by rw [← hs]; exact a1)).2, a2, kk x I' R' hQ⟩
theorem rk_cVv {M' : rk_M} {d' n idx : Nat} {as st0 : List rk_V} {Q' : rk_Mm → rk_Rm → Prop} {k a : Nat} (hC : rk_U w l M' d' (rk_a k a :: as) Z.1 I R Q') (hM : rk_MeV M' n) (hn : as.length = n) (hcls : rk_cn k = some M'.1.cls ∧ (Nat.ble 1 k && Nat.ble k 11) = true) (hlink : Cond.methodLink M.1.cls idx M'.1 ∈ rk_tbl) (hd : decode M.2.1 pc = .ok (.invokevirtual idx, 3)) (hs : st0 = rk_rev (rk_a k a :: as) st) (hroom : d' + 1 ≤ d ∧ 1 ≤ d') (hst : rk_cats st ≤ 8) (hz : Z.2.1 ≤ mc ∧ Z.2.2 ≤ ms) (kk : ∀ (I' : rk_Mm) (R' : rk_Rm), Q' I' R' → rk_Wp w l M d mc ms G (pc + 3) (ls) (st) Z I' R') : rk_Wp w l M d mc ms G (pc) (ls) (st0) Z I R := by
  obtain ⟨hk, ci, q, fts, g1, g2, g3⟩ := rk_obj hcls.1 hcls.2
  intro p e Rm s m args below meth cd H locs la C a1 a2 a3 a4 a5
  refine rk_cV M' d' 0 0 hk g1 g2 g3 hC hM hn hlink hd hs hroom ⟨hz.1, hz.2⟩ hst (fun r u hQ => ?_) p e Rm s m args below meth cd H locs la C a1 a2 a3 a4 a5
  obtain ⟨g5, rfl, hQ⟩ := hQ
  obtain ⟨Sh', I', R'⟩ := u
  cases g5
  exact ⟨(rk_okrev (by rw [← hs]; exact a1)).2, a2, kk I' R' hQ⟩
theorem rk_cSp {M' : rk_M} {d' n idx : Nat} {as st0 : List rk_V} {x : Int32} (hC : rk_P w l M' d' (as) Z.1 I R x) (hM : rk_MeS M' n) (hn : as.length = n) (hlink : Cond.methodLink M.1.cls idx M'.1 ∈ rk_tbl) (hd : decode M.2.1 pc = .ok (.invokestatic idx, 3)) (hs : st0 = rk_rev (as) st) (hroom : d' + 1 ≤ d ∧ 1 ≤ d') (hst : rk_cats st ≤ 8) (hz : Z.2.1 ≤ mc ∧ Z.2.2 ≤ ms) (kk : rk_Wp w l M d mc ms G (pc + 3) (ls) (rk_i x :: st) Z I R) : rk_Wp w l M d mc ms G (pc) (ls) (st0) Z I R := by
  intro p e Rm s m args below meth cd H locs la C a1 a2 a3 a4 a5
  refine rk_cS M' d' 0 0 hC hM hn hlink hd hs hroom ⟨hz.1, hz.2⟩ hst (fun r u hQ => ?_) p e Rm s m args below meth cd H locs la C a1 a2 a3 a4 a5
  obtain ⟨rfl, rfl⟩ := hQ
  exact ⟨(rk_okrev (by rw [← hs]; exact a1)).2, a2, kk⟩
theorem rk_cSi {M' : rk_M} {d' n idx : Nat} {as st0 : List rk_V} {Q' : Int32 → rk_Mm → rk_Rm → Prop} (hC : rk_J w l M' d' (as) Z.1 I R Q') (hM : rk_MeS M' n) (hn : as.length = n) (hlink : Cond.methodLink M.1.cls idx M'.1 ∈ rk_tbl) (hd : decode M.2.1 pc = .ok (.invokestatic idx, 3)) (hs : st0 = rk_rev (as) st) (hroom : d' + 1 ≤ d ∧ 1 ≤ d') (hst : rk_cats st ≤ 8) (hz : Z.2.1 ≤ mc ∧ Z.2.2 ≤ ms) (kk : ∀ (x : Int32) (I' : rk_Mm) (R' : rk_Rm), Q' x I' R' → rk_Wp w l M d mc ms G (pc + 3) (ls) (rk_i x :: st) Z I' R') : rk_Wp w l M d mc ms G (pc) (ls) (st0) Z I R := by
  intro p e Rm s m args below meth cd H locs la C a1 a2 a3 a4 a5
  refine rk_cS M' d' 0 0 hC hM hn hlink hd hs hroom ⟨hz.1, hz.2⟩ hst (fun r u hQ => ?_) p e Rm s m args below meth cd H locs la C a1 a2 a3 a4 a5
  obtain ⟨g5, x, rfl, hQ⟩ := hQ
  obtain ⟨Sh', I', R'⟩ := u
  cases g5
  exact ⟨(rk_okrev (by rw [← hs]; exact a1)).2, a2, kk x I' R' hQ⟩
theorem rk_cSv {M' : rk_M} {d' n idx : Nat} {as st0 : List rk_V} {Q' : rk_Mm → rk_Rm → Prop} (hC : rk_U w l M' d' (as) Z.1 I R Q') (hM : rk_MeS M' n) (hn : as.length = n) (hlink : Cond.methodLink M.1.cls idx M'.1 ∈ rk_tbl) (hd : decode M.2.1 pc = .ok (.invokestatic idx, 3)) (hs : st0 = rk_rev (as) st) (hroom : d' + 1 ≤ d ∧ 1 ≤ d') (hst : rk_cats st ≤ 8) (hz : Z.2.1 ≤ mc ∧ Z.2.2 ≤ ms) (kk : ∀ (I' : rk_Mm) (R' : rk_Rm), Q' I' R' → rk_Wp w l M d mc ms G (pc + 3) (ls) (st) Z I' R') : rk_Wp w l M d mc ms G (pc) (ls) (st0) Z I R := by
  intro p e Rm s m args below meth cd H locs la C a1 a2 a3 a4 a5
  refine rk_cS M' d' 0 0 hC hM hn hlink hd hs hroom ⟨hz.1, hz.2⟩ hst (fun r u hQ => ?_) p e Rm s m args below meth cd H locs la C a1 a2 a3 a4 a5
  obtain ⟨g5, rfl, hQ⟩ := hQ
  obtain ⟨Sh', I', R'⟩ := u
  cases g5
  exact ⟨(rk_okrev (by rw [← hs]; exact a1)).2, a2, kk I' R' hQ⟩
theorem rk_cSt {M' : rk_M} {d' n idx : Nat} {as st0 : List rk_V} {Q' : Nat → Prop} (hC : rk_X w l M' d' (as) Z.1 I R Q') (hM : rk_MeS M' n) (hn : as.length = n) (hlink : Cond.methodLink M.1.cls idx M'.1 ∈ rk_tbl) (hd : decode M.2.1 pc = .ok (.invokestatic idx, 3)) (hs : st0 = rk_rev (as) st) (hroom : d' + 1 ≤ d ∧ 1 ≤ d') (hst : rk_cats st ≤ 8) (hz : Z.2.1 ≤ mc ∧ Z.2.2 ≤ ms) (kk : ∀ i, Q' i → rk_Wp w l M d mc ms G (pc + 3) (ls) (rk_t i :: st) Z I R) : rk_Wp w l M d mc ms G (pc) (ls) (st0) Z I R := by
  intro p e Rm s m args below meth cd H locs la C a1 a2 a3 a4 a5
  refine rk_cS M' d' 0 0 hC hM hn hlink hd hs hroom ⟨hz.1, hz.2⟩ hst (fun r u hQ => ?_) p e Rm s m args below meth cd H locs la C a1 a2 a3 a4 a5
  obtain ⟨rfl, i, rfl, hQ⟩ := hQ
  exact ⟨(rk_okrev (by rw [← hs]; exact a1)).2, a2, kk i hQ⟩
theorem rk_cSNp {M' : rk_M} {d' n idx : Nat} {as st0 : List rk_V} {x : Int32} {host : String} (hC : rk_P w l M' d' (as) Z.1 I R x) (hM : rk_MeS M' n) (hn : as.length = n) (hlink : (M.1.cls, idx, M'.1, host) ∈ rk_nest) (hd : decode M.2.1 pc = .ok (.invokestatic idx, 3)) (hs : st0 = rk_rev (as) st) (hroom : d' + 1 ≤ d ∧ 1 ≤ d') (hst : rk_cats st ≤ 8) (hz : Z.2.1 ≤ mc ∧ Z.2.2 ≤ ms) (kk : rk_Wp w l M d mc ms G (pc + 3) (ls) (rk_i x :: st) Z I R) : rk_Wp w l M d mc ms G (pc) (ls) (st0) Z I R := by
  intro p e Rm s m args below meth cd H locs la C a1 a2 a3 a4 a5
  refine rk_cSN M' d' 0 0 hC hM hn hlink hd hs hroom ⟨hz.1, hz.2⟩ hst (fun r u hQ => ?_) p e Rm s m args below meth cd H locs la C a1 a2 a3 a4 a5
  obtain ⟨rfl, rfl⟩ := hQ
  exact ⟨(rk_okrev (by rw [← hs]; exact a1)).2, a2, kk⟩
theorem rk_cSNi {M' : rk_M} {d' n idx : Nat} {as st0 : List rk_V} {Q' : Int32 → rk_Mm → rk_Rm → Prop} {host : String} (hC : rk_J w l M' d' (as) Z.1 I R Q') (hM : rk_MeS M' n) (hn : as.length = n) (hlink : (M.1.cls, idx, M'.1, host) ∈ rk_nest) (hd : decode M.2.1 pc = .ok (.invokestatic idx, 3)) (hs : st0 = rk_rev (as) st) (hroom : d' + 1 ≤ d ∧ 1 ≤ d') (hst : rk_cats st ≤ 8) (hz : Z.2.1 ≤ mc ∧ Z.2.2 ≤ ms) (kk : ∀ (x : Int32) (I' : rk_Mm) (R' : rk_Rm), Q' x I' R' → rk_Wp w l M d mc ms G (pc + 3) (ls) (rk_i x :: st) Z I' R') : rk_Wp w l M d mc ms G (pc) (ls) (st0) Z I R := by
  intro p e Rm s m args below meth cd H locs la C a1 a2 a3 a4 a5
  refine rk_cSN M' d' 0 0 hC hM hn hlink hd hs hroom ⟨hz.1, hz.2⟩ hst (fun r u hQ => ?_) p e Rm s m args below meth cd H locs la C a1 a2 a3 a4 a5
  obtain ⟨g5, x, rfl, hQ⟩ := hQ
  obtain ⟨Sh', I', R'⟩ := u
  cases g5
  exact ⟨(rk_okrev (by rw [← hs]; exact a1)).2, a2, kk x I' R' hQ⟩
theorem rk_cSNv {M' : rk_M} {d' n idx : Nat} {as st0 : List rk_V} {Q' : rk_Mm → rk_Rm → Prop} {host : String} (hC : rk_U w l M' d' (as) Z.1 I R Q') (hM : rk_MeS M' n) (hn : as.length = n) (hlink : (M.1.cls, idx, M'.1, host) ∈ rk_nest) (hd : decode M.2.1 pc = .ok (.invokestatic idx, 3)) (hs : st0 = rk_rev (as) st) (hroom : d' + 1 ≤ d ∧ 1 ≤ d') (hst : rk_cats st ≤ 8) (hz : Z.2.1 ≤ mc ∧ Z.2.2 ≤ ms) (kk : ∀ (I' : rk_Mm) (R' : rk_Rm), Q' I' R' → rk_Wp w l M d mc ms G (pc + 3) (ls) (st) Z I' R') : rk_Wp w l M d mc ms G (pc) (ls) (st0) Z I R := by
  intro p e Rm s m args below meth cd H locs la C a1 a2 a3 a4 a5
  refine rk_cSN M' d' 0 0 hC hM hn hlink hd hs hroom ⟨hz.1, hz.2⟩ hst (fun r u hQ => ?_) p e Rm s m args below meth cd H locs la C a1 a2 a3 a4 a5
  obtain ⟨g5, rfl, hQ⟩ := hQ
  obtain ⟨Sh', I', R'⟩ := u
  cases g5
  exact ⟨(rk_okrev (by rw [← hs]; exact a1)).2, a2, kk I' R' hQ⟩
theorem rk_mmax_t : Cond.static Lib.Math.max.name ∈ rk_tbl ∧ Cond.initialized "java/lang/Math" ∈ rk_tbl ∧ Cond.code Lib.Math.max.name Lib.Math.max.code 2 (some .int) ∈ rk_tbl := ⟨rk_inT 394 (by decide +kernel) (by decide +kernel), rk_inT 13 (by decide +kernel) (by decide +kernel), rk_inT 395 (by decide +kernel) (by decide +kernel)⟩
theorem rk_mmax {idx : Nat} {x y : Int32} (hd : decode M.2.1 pc = .ok (.invokestatic idx, 3)) (hlink : Cond.methodLink M.1.cls idx Lib.Math.max.name ∈ rk_tbl) (hroom : 1 ≤ d) (hst : rk_cats st ≤ 8) (hz : Z.2.1 ≤ mc ∧ Z.2.2 ≤ ms) (kk : rk_Wp w l M d mc ms G (pc + 3) (ls) (rk_i (if x < y then y else x) :: st) Z I R) : rk_Wp w l M d mc ms G (pc) (ls) (rk_i y :: rk_i x :: st) Z I R := by
  intro p e Rm s m args below meth cd H locs la C a1 a2 a3 a4 a5
  have hts := C.2.2.2.2.2.1
  exact va_mmax C.1 C.2.1 (C.2.2.2.1.trans a5.1.symm) C.2.2.2.2.1 (hts _ hlink) (hts _ rk_mmax_t.1) (hts _ rk_mmax_t.2.1) (hts _ rk_mmax_t.2.2) (by have := C.2.2.2.2.2.2.2.2.2.1; omega) (by rw [rk_cats_eq]; have := C.2.2.2.2.2.2.2.2.2.2.1; omega) (Nat.le_trans hz.1 C.2.2.2.2.2.2.2.2.2.2.2.1) (Nat.le_trans hz.2 C.2.2.2.2.2.2.2.2.2.2.2.2) hd (kk p e Rm s m args below meth cd H locs la C (rk_oc trivial (rk_ot (rk_ot a1))) a2 a3 a4 a5)
theorem rk_mmin_t : Cond.static Lib.Math.min.name ∈ rk_tbl ∧ Cond.initialized "java/lang/Math" ∈ rk_tbl ∧ Cond.code Lib.Math.min.name Lib.Math.min.code 2 (some .int) ∈ rk_tbl := ⟨rk_inT 560 (by decide +kernel) (by decide +kernel), rk_inT 13 (by decide +kernel) (by decide +kernel), rk_inT 561 (by decide +kernel) (by decide +kernel)⟩
theorem rk_mmin {idx : Nat} {x y : Int32} (hd : decode M.2.1 pc = .ok (.invokestatic idx, 3)) (hlink : Cond.methodLink M.1.cls idx Lib.Math.min.name ∈ rk_tbl) (hroom : 1 ≤ d) (hst : rk_cats st ≤ 8) (hz : Z.2.1 ≤ mc ∧ Z.2.2 ≤ ms) (kk : rk_Wp w l M d mc ms G (pc + 3) (ls) (rk_i (if y < x then y else x) :: st) Z I R) : rk_Wp w l M d mc ms G (pc) (ls) (rk_i y :: rk_i x :: st) Z I R := by
  intro p e Rm s m args below meth cd H locs la C a1 a2 a3 a4 a5
  have hts := C.2.2.2.2.2.1
  exact va_mmin C.1 C.2.1 (C.2.2.2.1.trans a5.1.symm) C.2.2.2.2.1 (hts _ hlink) (hts _ rk_mmin_t.1) (hts _ rk_mmin_t.2.1) (hts _ rk_mmin_t.2.2) (by have := C.2.2.2.2.2.2.2.2.2.1; omega) (by rw [rk_cats_eq]; have := C.2.2.2.2.2.2.2.2.2.2.1; omega) (Nat.le_trans hz.1 C.2.2.2.2.2.2.2.2.2.2.2.1) (Nat.le_trans hz.2 C.2.2.2.2.2.2.2.2.2.2.2.2) hd (kk p e Rm s m args below meth cd H locs la C (rk_oc trivial (rk_ot (rk_ot a1))) a2 a3 a4 a5)
theorem rk_mabs_t : Cond.static Lib.Math.abs.name ∈ rk_tbl ∧ Cond.initialized "java/lang/Math" ∈ rk_tbl ∧ Cond.code Lib.Math.abs.name Lib.Math.abs.code 1 (some .int) ∈ rk_tbl := ⟨rk_inT 484 (by decide +kernel) (by decide +kernel), rk_inT 13 (by decide +kernel) (by decide +kernel), rk_inT 485 (by decide +kernel) (by decide +kernel)⟩
theorem rk_mabs {idx : Nat} {x : Int32} (hd : decode M.2.1 pc = .ok (.invokestatic idx, 3)) (hlink : Cond.methodLink M.1.cls idx Lib.Math.abs.name ∈ rk_tbl) (hroom : 1 ≤ d) (hst : rk_cats st ≤ 8) (hz : Z.2.1 ≤ mc ∧ Z.2.2 ≤ ms) (kk : rk_Wp w l M d mc ms G (pc + 3) (ls) (rk_i (if 0 ≤ x then x else 0 - x) :: st) Z I R) : rk_Wp w l M d mc ms G (pc) (ls) (rk_i x :: st) Z I R := by
  intro p e Rm s m args below meth cd H locs la C a1 a2 a3 a4 a5
  have hts := C.2.2.2.2.2.1
  exact va_mabs C.1 C.2.1 (C.2.2.2.1.trans a5.1.symm) C.2.2.2.2.1 (hts _ hlink) (hts _ rk_mabs_t.1) (hts _ rk_mabs_t.2.1) (hts _ rk_mabs_t.2.2) (by have := C.2.2.2.2.2.2.2.2.2.1; omega) (by rw [rk_cats_eq]; have := C.2.2.2.2.2.2.2.2.2.2.1; omega) (Nat.le_trans hz.1 C.2.2.2.2.2.2.2.2.2.2.2.1) (Nat.le_trans hz.2 C.2.2.2.2.2.2.2.2.2.2.2.2) hd (kk p e Rm s m args below meth cd H locs la C (rk_oc trivial (rk_ot a1)) a2 a3 a4 a5)
end RKR
