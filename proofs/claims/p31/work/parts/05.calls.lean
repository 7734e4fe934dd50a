def rk_Qc (w : rk_W) (Q : Option rk_V → rk_S → Prop) : Array Value → State → Outcome → State → Prop := fun _ st oc t => (∃ (r : Option rk_V) (u : rk_S), oc = .returned (r.map (rk_v w)) ∧ Q r u ∧ (∀ v, r = some v → rk_ok w u.1.2 v) ∧ rk_HR w u.1 u.2.1 u.2.2 t.heap) ∧ va_F (rk_A w) st t
def rk_G (w : rk_W) (Q : Option rk_V → rk_S → Prop) (mc ms : Nat) : List Frame → Array Value → State → State → Prop := fun below args s => MQ below (rk_Qc w Q) args s mc ms (rk_A w)
abbrev rk_Pc (w : rk_W) (as : List rk_V) (S : rk_S) : Array Value → State → Prop := va_Pc (as.map (rk_v w)) (fun U => rk_KN w U ∧ rk_HR w S.1 S.2.1 S.2.2 U.heap)
/-- a method's contract at these arguments and this heap -/
def rk_C (w : rk_W) (l : Launch) (M : rk_M) (d mc ms : Nat) (as : List rk_V) (S : rk_S) (Q : Option rk_V → rk_S → Prop) : Prop := rk_oks w S.1.2 as → Met l M.1 (rk_ws M) (rk_rm d mc ms) (rk_Pc w as S) (rk_Qc w Q) mc ms (rk_A w)
def rk_args : Nat → List rk_V → List (Nat × rk_V)
  | _, [] => []
  | i, v :: vs => (i, v) :: rk_args (bif rk_is2 v then i + 2 else i + 1) vs
def rk_wid : List rk_V → Nat
  | [] => 0
  | v :: vs => (bif rk_is2 v then 2 else 1) + rk_wid vs
theorem rk_cat2 (w : rk_W) (v : rk_V) : ((rk_v w v).category = 2) = (rk_is2 v = true) := by
  rcases v with x | x | x | x <;> simp [rk_v, Value.category, rk_is2]
theorem rk_args_map (w : rk_W) : ∀ (as : List rk_V) (i : Nat), lv_args i (as.map (rk_v w)) = rk_ms w (rk_args i as)
  | [], _ => rfl
  | v :: vs, i => by
    simp only [List.map_cons, lv_args, rk_args, rk_ms, rk_cat2]
    cases h : rk_is2 v with
    | true => simp only [if_true, cond_true]; exact congrArg _ (rk_args_map w vs _)
    | false => simp only [Bool.false_eq_true, if_false, cond_false]; exact congrArg _ (rk_args_map w vs _)
theorem rk_wid_eq (w : rk_W) : ∀ (as : List rk_V), (lg_sl (as.map (rk_v w))).length = rk_wid as
  | [] => rfl
  | v :: vs => by
    have ih := rk_wid_eq w vs
    simp only [lg_sl, List.map_cons, List.flatMap_cons, List.length_append, rk_wid, rk_cat2] at ih ⊢
    rw [ih]
    cases rk_is2 v <;> rfl
theorem rk_args_ok {w : rk_W} {kd : Nat → Nat} : ∀ {as : List rk_V} {i : Nat}, rk_oks w kd as → rk_oks w kd ((rk_args i as).map (fun q => q.2))
  | [], _, h => h
  | v :: vs, i, h => rk_oc (rk_oh h) (rk_args_ok (rk_ot h))
def rk_rev : List rk_V → List rk_V → List rk_V
  | [], st => st
  | v :: vs, st => rk_rev vs (v :: st)
theorem rk_rev_eq : ∀ (as st : List rk_V), rk_rev as st = as.reverse ++ st
  | [], _ => rfl
  | v :: vs, st => by rw [rk_rev, rk_rev_eq vs, List.reverse_cons, List.append_assoc]; rfl
theorem rk_blind {w : rk_W} {as : List rk_V} {S : rk_S} : FrameBlind (rk_Pc w as S) := fun a U g mk h => ⟨h.1, h.2.1.call va_S.rf rfl (State.WarmedH.refl U), h.2.2⟩
theorem rk_body {w : rk_W} {l : Launch} {M : rk_M} {d mc ms : Nat} {as : List rk_V} {S : rk_S} {Q : Option rk_V → rk_S → Prop} {ls : List (Nat × rk_V)} (hp : plainName M.1.cls = true) (hls : rk_args 0 as = ls) (hsz : rk_wid as ≤ M.2.2.1)
    (kk : rk_Wp w l M d mc ms (rk_G w Q mc ms) 0 ls [] (S.1, 0, 0) S.2.1 S.2.2) : rk_C w l M d mc ms as S Q := by
  intro hoks
  refine Met.ofW (cc := M.2.1) (maxL := M.2.2.1) (ret := M.2.2.2) hp rfl ?_
  intro p e s m args below meth c s₁ B hml hv
  obtain ⟨rfl, hKN, hHR⟩ := hv
  have hl := lv_entry (as.map (rk_v w)) (n := M.2.2.1) (by rw [rk_wid_eq]; exact hsz)
  rw [rk_args_map, hls] at hl
  rw [lg_entry_eq]
  have hts : ∀ q ∈ rk_tbl, q.before (as.map (rk_v w)).toArray s = true := fun q hq => atoms_spec (ws := rk_ws M) B.pre q (List.mem_cons_of_mem _ hq)
  exact kk p e _ s m _ below meth c s.heap [] _ ⟨B.exec, B.bytes, B.returns, hml, findClass_of_methodNamed B.named, hts, B.notSynchronized, (name_of_methodNamed B.named B.method).1, hKN, Nat.le_refl _, Nat.le_refl _, Nat.le_refl _, Nat.le_refl _⟩ (fun v h => by cases h) (by rw [← hls]; exact rk_args_ok hoks) hHR va_S.rf hl
section RKA
variable {p : Program} {l : Launch} {e : Env} {Rm : Room} {s : State} {m : MethodId} {args : Array Value} {below : List Frame} {meth : Method} {cd : Code} {H : Heap} {locs : List Loc} {cells slots mc ms : Nat} {Qf : State → Prop} {w : rk_W} {pc : Nat} {la : Array Slot} {st0 rest : List Value} {a : Array Value}
theorem rk_after {Q' : Option rk_V → rk_S → Prop} (hr : va_Run p l e Rm s m args below meth cd H locs cells slots mc ms (F0 m pc la st0) rest (rk_Qc w Q' a) (rk_A w)) (hS : va_S (rk_A w) s.heap H locs)
    (kk : ∀ (r : Option rk_V) (u : rk_S) (H1 : Heap) (locs1 : List Loc), Q' r u → (∀ v, r = some v → rk_ok w u.1.2 v) → rk_HR w u.1 u.2.1 u.2.2 H1 → va_S (rk_A w) s.heap H1 locs1 → W p l e Rm s m args below meth cd H1 locs1 (cells + mc) (slots + ms) Qf (F0 m (pc + 3) la ((r.map (rk_v w)).toList ++ rest))) : W p l e Rm s m args below meth cd H locs cells slots Qf (F0 m pc la st0) := by
  intro T hT X
  obtain ⟨v, st₀, t, T', L, h0, X', hL, e1, e2, ⟨⟨r, u, hv, hp, hok, hb⟩, hz, hk⟩, st⟩ := hr T hT X
  cases hv
  rw [h0] at hz hk
  obtain ⟨t2, a1, b1⟩ := kk r u T'.heap (locs ++ L) hp hok (by rw [e1]; exact hb)
    ⟨Nat.le_trans hS.1 (by rw [e1]; exact hz), fun q h1 h2 => by rw [e1, hk q (Nat.lt_of_lt_of_le h1 hS.1) h2]; exact hS.2.1 q h1 h2, fun q hq => by
      rcases List.mem_append.mp hq with h | h
      · exact hS.2.2 q h
      · exact hL q h⟩ T' rfl X'
  exact ⟨t2, st t2 a1, b1⟩
end RKA
def rk_cats : List rk_V → Nat
  | [] => 0
  | v :: vs => (bif rk_is2 v then 2 else 1) + rk_cats vs
theorem rk_cats_eq (w : rk_W) : ∀ st : List rk_V, ((st.map (rk_v w)).map fun v => v.category).sum = rk_cats st
  | [] => rfl
  | v :: vs => by
    simp only [List.map_cons, List.sum_cons, rk_cats]
    rw [rk_cats_eq w vs]
    rcases v with x | x | x | x <;> rfl
/-- what the tables say of a method that is called -/
def rk_Me (M : rk_M) (n : Nat) : Prop := Cond.code M.1 M.2.1 M.2.2.1 M.2.2.2 ∈ rk_tbl ∧ Cond.initialized M.1.cls ∈ rk_tbl ∧ (M.1.cls ≠ "java/lang/invoke/MethodHandle" ∧ M.1.cls ≠ "java/lang/invoke/VarHandle" ∧ (parseMethodDescriptor M.1.desc).map (fun d => d.parameters.length) = some n) ∧ M.2.2.1 ≤ 23 ∧ plainName M.1.cls = true
def rk_MeV (M : rk_M) (n : Nat) : Prop := rk_Me M n ∧ Cond.instanceMethod M.1 ∈ rk_tbl ∧ Cond.selects M.1.cls M.1 M.1 ∈ rk_tbl
def rk_MeS (M : rk_M) (n : Nat) : Prop := rk_Me M n ∧ Cond.static M.1 ∈ rk_tbl
def rk_MeI (M : rk_M) (n : Nat) : Prop := rk_Me M n ∧ Cond.instanceMethod M.1 ∈ rk_tbl ∧ M.1.name = "<init>" ∧ M.2.2.2 = none
theorem rk_gws {M : rk_M} {n : Nat} (h : rk_Me M n) : GoodIn rk_tbl (rk_ws M) := fun q hq => (List.mem_cons.mp hq).elim (fun e => by rw [e]; exact rk_gi _ h.1) (rk_gi q)
theorem rk_okrev {w : rk_W} {kd : Nat → Nat} {as st : List rk_V} (h : rk_oks w kd (rk_rev as st)) : rk_oks w kd as ∧ rk_oks w kd st := by
  rw [rk_rev_eq] at h
  exact ⟨fun v hv => h v (List.mem_append_left _ (List.mem_reverse.mpr hv)), fun v hv => h v (List.mem_append_right _ hv)⟩
theorem rk_toL {w : rk_W} (r : Option rk_V) (st : List rk_V) : (r.map (rk_v w)).toList ++ st.map (rk_v w) = (r.toList ++ st).map (rk_v w) := by cases r <;> rfl

section RKR
variable {w : rk_W} {l : Launch} {M : rk_M} {d mc ms : Nat} {G : List Frame → Array Value → State → State → Prop} {pc : Nat} {ls : List (Nat × rk_V)} {st : List rk_V} {Z : rk_Z} {I : rk_Mm} {R : rk_Rm}
theorem rk_cV (M' : rk_M) (d' mc' ms' : Nat) {n idx : Nat} {as st0 : List rk_V} {Q' : Option rk_V → rk_S → Prop} {k a ci : Nat} {q : vw_C} {fts : List Nat} (hk : k < 100) (hkd : rk_kd k = .inl (ci, fts)) (hcl : vwCl[ci]? = some q) (hqC : q.1 = M'.1.cls) (hC : rk_C w l M' d' mc' ms' (rk_a k a :: as) (Z.1, I, R) Q') (hM : rk_MeV M' n) (hn : as.length = n) (hlink : Cond.methodLink M.1.cls idx M'.1 ∈ rk_tbl) (hd : decode M.2.1 pc = .ok (.invokevirtual idx, 3)) (hs : st0 = rk_rev (rk_a k a :: as) st) (hroom : d' + 1 ≤ d ∧ 1 ≤ d') (hZ : Z.2.1 + mc' ≤ mc ∧ Z.2.2 + ms' ≤ ms) (hst : rk_cats st ≤ 8) (kk : ∀ (r : Option rk_V) (u : rk_S), Q' r u → rk_oks w u.1.2 st ∧ rk_oks w u.1.2 (ls.map (fun q => q.2)) ∧ rk_Wp w l M d mc ms G (pc + 3) ls (r.toList ++ st) (u.1, Z.2.1 + mc', Z.2.2 + ms') u.2.1 u.2.2) : rk_Wp w l M d mc ms G (pc) (ls) (st0) Z I R := by
  subst hs
  intro p e Rm s m args below meth cd H locs la C a1 a2 a3 a4 a5
  obtain ⟨o1, o2⟩ := rk_okrev a1
  have hKN := C.2.2.2.2.2.2.2.2.1
  have hMet := hC o1
  have hts := C.2.2.2.2.2.1
  have hB : CallB Rm s args M.1.cls idx M'.1 M'.2.1 M'.2.2.1 M'.2.2.2 (rk_ws M') (rk_rm d' mc' ms') mc' ms' n := callB_of n hts (rk_gws hM.1) rfl rfl rfl (hts _ hM.1.2.1) (hts _ hlink) hM.1.2.2.1 ⟨by show d' + 1 ≤ Rm.frames; have := C.2.2.2.2.2.2.2.2.2.1; omega, by show 8 + (M'.2.2.1 + 11) + (42 * d' - 4) ≤ Rm.locals; have := C.2.2.2.2.2.2.2.2.2.2.1; have := hM.1.2.2.2.1; omega⟩
  have hok := rk_kok (rk_oh o1) hk
  obtain ⟨ha, q0, hq0⟩ := rk_at a3 hok.1 hok.2
  have e1 : rk_F w Z.1.2 I R a = .inr (ci, rk_fs (I (k % 50)) (R (k % 50)) a 0 fts) := by show rk_ent w I R (Z.1.2 a) a = _; rw [hok.1]; exact rk_inl hkd rfl
  rw [e1] at hq0
  have hrecv := va_recv hKN.1 a3.1 hcl hq0
  rw [hqC] at hrecv
  have hrun : va_Run p l e Rm s m args below meth cd H locs Z.2.1 Z.2.2 mc' ms' (F0 m pc la ((rk_rev (rk_a k a :: as) st).map (rk_v w))) (st.map (rk_v w)) (rk_Qc w Q' ((rk_a k a :: as).map (rk_v w)).toArray) (rk_A w) := va_runV (rest := st.map (rk_v w)) (As := as.map (rk_v w)) ⟨C.1, C.2.1, C.2.2.2.1, C.2.2.2.2.1, hts⟩ hMet ⟨hB, hts _ hM.2.1, hts _ hM.2.2⟩ ⟨rk_blind, hrecv, (fun U hU hW => ⟨rfl, hKN.call a4 hU hW, by rw [hU]; exact a3⟩)⟩ (g := F0 m pc la ((rk_rev (rk_a k a :: as) st).map (rk_v w))) rfl (by rw [List.length_map]; exact hn) a5.1 (by show (rk_rev (rk_a k a :: as) st).map (rk_v w) = (as.map (rk_v w)).reverse ++ .ref a :: st.map (rk_v w); rw [rk_rev_eq]; simp [rk_v]) (lv_room (by rw [rk_cats_eq]; exact hst)) hd ⟨Nat.le_trans hZ.1 C.2.2.2.2.2.2.2.2.2.2.2.1, Nat.le_trans hZ.2 C.2.2.2.2.2.2.2.2.2.2.2.2⟩
  refine rk_after hrun a4 (fun r u H1 locs1 hQ hro hH1 hS1 => ?_)
  obtain ⟨k1, k2, k3⟩ := kk r u hQ
  rw [rk_toL]
  refine k3 p e Rm s m args below meth cd H1 locs1 la C (fun v hv => ?_) k2 hH1 hS1 a5
  rcases List.mem_append.mp hv with h | h
  · cases r with
    | none => cases h
    | some r => rw [List.mem_singleton.mp h]; exact hro r rfl
  · exact k1 v h
theorem rk_cS (M' : rk_M) (d' mc' ms' : Nat) {n idx : Nat} {as st0 : List rk_V} {Q' : Option rk_V → rk_S → Prop} (hC : rk_C w l M' d' mc' ms' (as) (Z.1, I, R) Q') (hM : rk_MeS M' n) (hn : as.length = n) (hlink : Cond.methodLink M.1.cls idx M'.1 ∈ rk_tbl) (hd : decode M.2.1 pc = .ok (.invokestatic idx, 3)) (hs : st0 = rk_rev (as) st) (hroom : d' + 1 ≤ d ∧ 1 ≤ d') (hZ : Z.2.1 + mc' ≤ mc ∧ Z.2.2 + ms' ≤ ms) (hst : rk_cats st ≤ 8) (kk : ∀ (r : Option rk_V) (u : rk_S), Q' r u → rk_oks w u.1.2 st ∧ rk_oks w u.1.2 (ls.map (fun q => q.2)) ∧ rk_Wp w l M d mc ms G (pc + 3) ls (r.toList ++ st) (u.1, Z.2.1 + mc', Z.2.2 + ms') u.2.1 u.2.2) : rk_Wp w l M d mc ms G (pc) (ls) (st0) Z I R := by
  subst hs
  intro p e Rm s m args below meth cd H locs la C a1 a2 a3 a4 a5
  obtain ⟨o1, o2⟩ := rk_okrev a1
  have hKN := C.2.2.2.2.2.2.2.2.1
  have hMet := hC o1
  have hts := C.2.2.2.2.2.1
  have hB : CallB Rm s args M.1.cls idx M'.1 M'.2.1 M'.2.2.1 M'.2.2.2 (rk_ws M') (rk_rm d' mc' ms') mc' ms' n := callB_of n hts (rk_gws hM.1) rfl rfl rfl (hts _ hM.1.2.1) (hts _ hlink) hM.1.2.2.1 ⟨by show d' + 1 ≤ Rm.frames; have := C.2.2.2.2.2.2.2.2.2.1; omega, by show 8 + (M'.2.2.1 + 11) + (42 * d' - 4) ≤ Rm.locals; have := C.2.2.2.2.2.2.2.2.2.2.1; have := hM.1.2.2.2.1; omega⟩
  have hrun : va_Run p l e Rm s m args below meth cd H locs Z.2.1 Z.2.2 mc' ms' (F0 m pc la ((rk_rev (as) st).map (rk_v w))) (st.map (rk_v w)) (rk_Qc w Q' ((as).map (rk_v w)).toArray) (rk_A w) := va_runS (rest := st.map (rk_v w)) (As := as.map (rk_v w)) ⟨C.1, C.2.1, C.2.2.2.1, C.2.2.2.2.1, hts⟩ hMet ⟨hB, hts _ hM.2⟩ ⟨rk_blind, (fun U hU hW => ⟨rfl, hKN.call a4 hU hW, by rw [hU]; exact a3⟩)⟩ (g := F0 m pc la ((rk_rev (as) st).map (rk_v w))) rfl (by rw [List.length_map]; exact hn) a5.1 (by show (rk_rev (as) st).map (rk_v w) = (as.map (rk_v w)).reverse ++ st.map (rk_v w); rw [rk_rev_eq]; simp) (lv_room (by rw [rk_cats_eq]; exact hst)) hd ⟨Nat.le_trans hZ.1 C.2.2.2.2.2.2.2.2.2.2.2.1, Nat.le_trans hZ.2 C.2.2.2.2.2.2.2.2.2.2.2.2⟩
  refine rk_after hrun a4 (fun r u H1 locs1 hQ hro hH1 hS1 => ?_)
  obtain ⟨k1, k2, k3⟩ := kk r u hQ
  rw [rk_toL]
  refine k3 p e Rm s m args below meth cd H1 locs1 la C (fun v hv => ?_) k2 hH1 hS1 a5
  rcases List.mem_append.mp hv with h | h
  · cases r with
    | none => cases h
    | some r => rw [List.mem_singleton.mp h]; exact hro r rfl
  · exact k1 v h
theorem rk_cSN (M' : rk_M) (d' mc' ms' : Nat) {n idx : Nat} {as st0 : List rk_V} {Q' : Option rk_V → rk_S → Prop} {host : String} (hC : rk_C w l M' d' mc' ms' (as) (Z.1, I, R) Q') (hM : rk_MeS M' n) (hn : as.length = n) (hlink : (M.1.cls, idx, M'.1, host) ∈ rk_nest) (hd : decode M.2.1 pc = .ok (.invokestatic idx, 3)) (hs : st0 = rk_rev (as) st) (hroom : d' + 1 ≤ d ∧ 1 ≤ d') (hZ : Z.2.1 + mc' ≤ mc ∧ Z.2.2 + ms' ≤ ms) (hst : rk_cats st ≤ 8) (kk : ∀ (r : Option rk_V) (u : rk_S), Q' r u → rk_oks w u.1.2 st ∧ rk_oks w u.1.2 (ls.map (fun q => q.2)) ∧ rk_Wp w l M d mc ms G (pc + 3) ls (r.toList ++ st) (u.1, Z.2.1 + mc', Z.2.2 + ms') u.2.1 u.2.2) : rk_Wp w l M d mc ms G (pc) (ls) (st0) Z I R := by
  subst hs
  intro p e Rm s m args below meth cd H locs la C a1 a2 a3 a4 a5
  obtain ⟨o1, o2⟩ := rk_okrev a1
  have hKN := C.2.2.2.2.2.2.2.2.1
  have hMet := hC o1
  have hts := C.2.2.2.2.2.1
  have hB : va_CN Rm s args M.1.cls idx M'.1 host M'.2.1 M'.2.2.1 M'.2.2.2 (rk_ws M') (rk_rm d' mc' ms') mc' ms' n := va_cnB n hts (rk_gws hM.1) rfl rfl rfl (hKN.2.2.2.1 _ hlink) (hts _ hM.1.2.1) hM.1.2.2.1 ⟨by show d' + 1 ≤ Rm.frames; have := C.2.2.2.2.2.2.2.2.2.1; omega, by show 8 + (M'.2.2.1 + 11) + (42 * d' - 4) ≤ Rm.locals; have := C.2.2.2.2.2.2.2.2.2.2.1; have := hM.1.2.2.2.1; omega⟩
  have hrun : va_Run p l e Rm s m args below meth cd H locs Z.2.1 Z.2.2 mc' ms' (F0 m pc la ((rk_rev (as) st).map (rk_v w))) (st.map (rk_v w)) (rk_Qc w Q' ((as).map (rk_v w)).toArray) (rk_A w) := va_runSN (rest := st.map (rk_v w)) (As := as.map (rk_v w)) ⟨C.1, C.2.1, C.2.2.2.1, C.2.2.2.2.1, hts⟩ hMet ⟨hB, hts _ hM.2, trivial⟩ ⟨rk_blind, (fun U hU hW => ⟨rfl, hKN.call a4 hU hW, by rw [hU]; exact a3⟩)⟩ (g := F0 m pc la ((rk_rev (as) st).map (rk_v w))) rfl (by rw [List.length_map]; exact hn) a5.1 (by show (rk_rev (as) st).map (rk_v w) = (as.map (rk_v w)).reverse ++ st.map (rk_v w); rw [rk_rev_eq]; simp) (lv_room (by rw [rk_cats_eq]; exact hst)) hd ⟨Nat.le_trans hZ.1 C.2.2.2.2.2.2.2.2.2.2.2.1, Nat.le_trans hZ.2 C.2.2.2.2.2.2.2.2.2.2.2.2⟩
  refine rk_after hrun a4 (fun r u H1 locs1 hQ hro hH1 hS1 => ?_)
  obtain ⟨k1, k2, k3⟩ := kk r u hQ
  rw [rk_toL]
  refine k3 p e Rm s m args below meth cd H1 locs1 la C (fun v hv => ?_) k2 hH1 hS1 a5
  rcases List.mem_append.mp hv with h | h
  · cases r with
    | none => cases h
    | some r => rw [List.mem_singleton.mp h]; exact hro r rfl
  · exact k1 v h
theorem rk_cI (M' : rk_M) (d' mc' ms' : Nat) {n idx : Nat} {as st0 : List rk_V} {Q' : Option rk_V → rk_S → Prop} {k a : Nat} (hC : rk_C w l M' d' mc' ms' (rk_a k a :: as) (Z.1, I, R) Q') (hM : rk_MeI M' n) (hn : as.length = n) (hlink : Cond.methodLink M.1.cls idx M'.1 ∈ rk_tbl) (hd : decode M.2.1 pc = .ok (.invokespecial idx, 3)) (hs : st0 = rk_rev (rk_a k a :: as) st) (hroom : d' + 1 ≤ d ∧ 1 ≤ d') (hZ : Z.2.1 + mc' ≤ mc ∧ Z.2.2 + ms' ≤ ms) (hst : rk_cats st ≤ 8) (kk : ∀ (r : Option rk_V) (u : rk_S), Q' r u → rk_oks w u.1.2 st ∧ rk_oks w u.1.2 (ls.map (fun q => q.2)) ∧ rk_Wp w l M d mc ms G (pc + 3) ls (r.toList ++ st) (u.1, Z.2.1 + mc', Z.2.2 + ms') u.2.1 u.2.2) : rk_Wp w l M d mc ms G (pc) (ls) (st0) Z I R := by
  subst hs
  intro p e Rm s m args below meth cd H locs la C a1 a2 a3 a4 a5
  obtain ⟨o1, o2⟩ := rk_okrev a1
  have hKN := C.2.2.2.2.2.2.2.2.1
  have hMet := hC o1
  have hts := C.2.2.2.2.2.1
  have hret : M'.2.2.2 = none := hM.2.2.2
  have hB : CallB Rm s args M.1.cls idx M'.1 M'.2.1 M'.2.2.1 M'.2.2.2 (rk_ws M') (rk_rm d' mc' ms') mc' ms' n := callB_of n hts (rk_gws hM.1) rfl rfl rfl (hts _ hM.1.2.1) (hts _ hlink) hM.1.2.2.1 ⟨by show d' + 1 ≤ Rm.frames; have := C.2.2.2.2.2.2.2.2.2.1; omega, by show 8 + (M'.2.2.1 + 11) + (42 * d' - 4) ≤ Rm.locals; have := C.2.2.2.2.2.2.2.2.2.2.1; have := hM.1.2.2.2.1; omega⟩
  rw [hret] at hB
  have hrun : va_Run p l e Rm s m args below meth cd H locs Z.2.1 Z.2.2 mc' ms' (F0 m pc la ((rk_rev (rk_a k a :: as) st).map (rk_v w))) (st.map (rk_v w)) (rk_Qc w Q' ((rk_a k a :: as).map (rk_v w)).toArray) (rk_A w) := va_runI (rest := st.map (rk_v w)) (As := as.map (rk_v w)) ⟨C.1, C.2.1, C.2.2.2.1, C.2.2.2.2.1, hts⟩ hMet ⟨hB, hM.2.2.1, hts _ hM.2.1⟩ ⟨rk_blind, (fun U hU hW => ⟨rfl, hKN.call a4 hU hW, by rw [hU]; exact a3⟩)⟩ (g := F0 m pc la ((rk_rev (rk_a k a :: as) st).map (rk_v w))) rfl (by rw [List.length_map]; exact hn) a5.1 (by show (rk_rev (rk_a k a :: as) st).map (rk_v w) = (as.map (rk_v w)).reverse ++ .ref a :: st.map (rk_v w); rw [rk_rev_eq]; simp [rk_v]) (lv_room (by rw [rk_cats_eq]; exact hst)) hd ⟨Nat.le_trans hZ.1 C.2.2.2.2.2.2.2.2.2.2.2.1, Nat.le_trans hZ.2 C.2.2.2.2.2.2.2.2.2.2.2.2⟩
  refine rk_after hrun a4 (fun r u H1 locs1 hQ hro hH1 hS1 => ?_)
  obtain ⟨k1, k2, k3⟩ := kk r u hQ
  rw [rk_toL]
  refine k3 p e Rm s m args below meth cd H1 locs1 la C (fun v hv => ?_) k2 hH1 hS1 a5
  rcases List.mem_append.mp hv with h | h
  · cases r with
    | none => cases h
    | some r => rw [List.mem_singleton.mp h]; exact hro r rfl
  · exact k1 v h
theorem rk_cIN (M' : rk_M) (d' mc' ms' : Nat) {n idx : Nat} {as st0 : List rk_V} {Q' : Option rk_V → rk_S → Prop} {host : String} {k a : Nat} (hC : rk_C w l M' d' mc' ms' (rk_a k a :: as) (Z.1, I, R) Q') (hM : rk_MeI M' n) (hn : as.length = n) (hlink : (M.1.cls, idx, M'.1, host) ∈ rk_nest) (hd : decode M.2.1 pc = .ok (.invokespecial idx, 3)) (hs : st0 = rk_rev (rk_a k a :: as) st) (hroom : d' + 1 ≤ d ∧ 1 ≤ d') (hZ : Z.2.1 + mc' ≤ mc ∧ Z.2.2 + ms' ≤ ms) (hst : rk_cats st ≤ 8) (kk : ∀ (r : Option rk_V) (u : rk_S), Q' r u → rk_oks w u.1.2 st ∧ rk_oks w u.1.2 (ls.map (fun q => q.2)) ∧ rk_Wp w l M d mc ms G (pc + 3) ls (r.toList ++ st) (u.1, Z.2.1 + mc', Z.2.2 + ms') u.2.1 u.2.2) : rk_Wp w l M d mc ms G (pc) (ls) (st0) Z I R := by
  subst hs
  intro p e Rm s m args below meth cd H locs la C a1 a2 a3 a4 a5
  obtain ⟨o1, o2⟩ := rk_okrev a1
  have hKN := C.2.2.2.2.2.2.2.2.1
  have hMet := hC o1
  have hts := C.2.2.2.2.2.1
  have hret : M'.2.2.2 = none := hM.2.2.2
  have hB : va_CN Rm s args M.1.cls idx M'.1 host M'.2.1 M'.2.2.1 M'.2.2.2 (rk_ws M') (rk_rm d' mc' ms') mc' ms' n := va_cnB n hts (rk_gws hM.1) rfl rfl rfl (hKN.2.2.2.1 _ hlink) (hts _ hM.1.2.1) hM.1.2.2.1 ⟨by show d' + 1 ≤ Rm.frames; have := C.2.2.2.2.2.2.2.2.2.1; omega, by show 8 + (M'.2.2.1 + 11) + (42 * d' - 4) ≤ Rm.locals; have := C.2.2.2.2.2.2.2.2.2.2.1; have := hM.1.2.2.2.1; omega⟩
  rw [hret] at hB
  have hrun : va_Run p l e Rm s m args below meth cd H locs Z.2.1 Z.2.2 mc' ms' (F0 m pc la ((rk_rev (rk_a k a :: as) st).map (rk_v w))) (st.map (rk_v w)) (rk_Qc w Q' ((rk_a k a :: as).map (rk_v w)).toArray) (rk_A w) := va_runIN (rest := st.map (rk_v w)) (As := as.map (rk_v w)) ⟨C.1, C.2.1, C.2.2.2.1, C.2.2.2.2.1, hts⟩ hMet ⟨hB, hM.2.2.1, hts _ hM.2.1⟩ ⟨rk_blind, (fun U hU hW => ⟨rfl, hKN.call a4 hU hW, by rw [hU]; exact a3⟩)⟩ (g := F0 m pc la ((rk_rev (rk_a k a :: as) st).map (rk_v w))) rfl (by rw [List.length_map]; exact hn) a5.1 (by show (rk_rev (rk_a k a :: as) st).map (rk_v w) = (as.map (rk_v w)).reverse ++ .ref a :: st.map (rk_v w); rw [rk_rev_eq]; simp [rk_v]) (lv_room (by rw [rk_cats_eq]; exact hst)) hd ⟨Nat.le_trans hZ.1 C.2.2.2.2.2.2.2.2.2.2.2.1, Nat.le_trans hZ.2 C.2.2.2.2.2.2.2.2.2.2.2.2⟩
  refine rk_after hrun a4 (fun r u H1 locs1 hQ hro hH1 hS1 => ?_)
  obtain ⟨k1, k2, k3⟩ := kk r u hQ
  rw [rk_toL]
  refine k3 p e Rm s m args below meth cd H1 locs1 la C (fun v hv => ?_) k2 hH1 hS1 a5
  rcases List.mem_append.mp hv with h | h
  · cases r with
    | none => cases h
    | some r => rw [List.mem_singleton.mp h]; exact hro r rfl
  · exact k1 v h
theorem rk_iret {Q : Option rk_V → rk_S → Prop} {x : Int32} {ty : FieldType} (hd : decode M.2.1 pc = .ok (.ireturn, 1)) (hr : M.2.2.2 = some ty) (hn : narrow ty (.int x) = .int x) (hz : Z.2.1 ≤ mc ∧ Z.2.2 ≤ ms) (hQ : Q (some (rk_i x)) (Z.1, I, R)) : rk_Wp w l M d mc ms (rk_G w Q mc ms) pc ls [rk_i x] Z I R := by
  intro p e Rm s m args below meth cd H locs la C a1 a2 a3 a4 a5
  refine W.widen hz.1 hz.2 ?_
  exact W.zret (v := x) C.1 C.2.1 (C.2.2.1.trans hr) hn (fun t ht hW => ⟨⟨some (rk_i x), (Z.1, I, R), rfl, hQ, fun v h => (by cases h; trivial), by rw [ht]; exact a3⟩, a4.F ht⟩) a4.2.2 hd C.2.2.2.2.2.2.1
theorem rk_vret {Q : Option rk_V → rk_S → Prop} (hd : decode M.2.1 pc = .ok (.return_, 1)) (hr : M.2.2.2 = none) (hz : Z.2.1 ≤ mc ∧ Z.2.2 ≤ ms) (hQ : Q none (Z.1, I, R)) : rk_Wp w l M d mc ms (rk_G w Q mc ms) pc ls [] Z I R := by
  intro p e Rm s m args below meth cd H locs la C a1 a2 a3 a4 a5
  refine W.widen hz.1 hz.2 ?_
  exact W.vret C.1 C.2.1 (C.2.2.1.trans hr) (fun t ht hW => ⟨⟨none, (Z.1, I, R), rfl, hQ, fun v h => (by cases h), by rw [ht]; exact a3⟩, a4.F ht⟩) a4.2.2 hd C.2.2.2.2.2.2.1
theorem rk_aret {Q : Option rk_V → rk_S → Prop} {i : Nat} {tn : String} (hd : decode M.2.1 pc = .ok (.areturn, 1)) (hr : M.2.2.2 = some (.object tn)) (hz : Z.2.1 ≤ mc ∧ Z.2.2 ≤ ms) (hQ : Q (some (rk_t i)) (Z.1, I, R)) : rk_Wp w l M d mc ms (rk_G w Q mc ms) pc ls [rk_t i] Z I R := by
  intro p e Rm s m args below meth cd H locs la C a1 a2 a3 a4 a5
  refine W.widen hz.1 hz.2 ?_
  exact W.aret (v := rk_v w (rk_t i)) C.1 C.2.1 (C.2.2.1.trans hr) (Or.inl ⟨_, rfl⟩) (Or.inr ⟨_, rfl⟩) (fun t ht hW => ⟨⟨some (rk_t i), (Z.1, I, R), rfl, hQ, fun v h => (by cases h; exact rk_oh a1), by rw [ht]; exact a3⟩, a4.F ht⟩) a4.2.2 hd C.2.2.2.2.2.2.1
end RKR
