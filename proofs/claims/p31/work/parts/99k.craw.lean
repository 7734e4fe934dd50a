section DV
variable {w : rk_W} {Sh : rk_Sh} {I : rk_Mm} {R : rk_Rm} {H H1 : Heap}
theorem rk_kdm (k : Nat) : rk_kd k = rk_kd (k % 50) := by unfold rk_kd; rw [Nat.mod_mod]
theorem rk_rk_lt (k f : Nat) : rk_rk k f < 50 := by
  have key : ∀ m, m < 50 → (match rk_kd m with | .inl q => q.2.all (fun x => decide (x < 50)) | .inr y => decide (y.2.2 < 50)) = true := by decide +kernel
  have h := key (k % 50) (Nat.mod_lt _ (by decide))
  rw [← rk_kdm] at h
  unfold rk_rk
  cases hk : rk_kd k with
  | inl q =>
    rw [hk] at h
    have h2 : q.2.all (fun x => decide (x < 50)) = true := h
    show q.2.getD f 0 < 50
    by_cases hf : f < q.2.length
    · have := List.all_eq_true.mp h2 (q.2[f]) (List.getElem_mem hf)
      simp [hf]
      simpa using this
    · simp [Nat.not_lt.mp hf]
  | inr y =>
    rw [hk] at h
    have h2 : decide (y.2.2 < 50) = true := h
    show (if f < y.2.1 then y.2.2 else 0) < 50
    split
    · exact of_decide_eq_true h2
    · decide
theorem rk_ent_raw {k a : Nat} : rk_ent w I R (k + 50) a = rk_ent w I R k a := by
  have e : (k + 50) % 50 = k % 50 := by omega
  have e2 : rk_kd (k + 50) = rk_kd k := by rw [rk_kdm (k + 50), e, ← rk_kdm]
  unfold rk_ent
  rw [e2, e]
def rk_pS (Sh : rk_Sh) (q k : Nat) : rk_Sh := (Sh.1, va_up Sh.2 q k)
theorem rk_HRpub {q k : Nat} (h : rk_HR w Sh I R H) (hk : 1 ≤ k ∧ k < 50) (hq : Sh.2 q = k + 50) (hw : ∀ f, rk_rk k f ≠ 0 → Sh.2 (R k q f) = rk_rk k f) : rk_HR w (rk_pS Sh q k) I R H := by
  have hF : rk_F w (rk_pS Sh q k).2 I R = rk_F w Sh.2 I R := by
    funext a
    show rk_ent w I R (va_up Sh.2 q k a) a = rk_ent w I R (Sh.2 a) a
    by_cases hne : a = q
    · subst hne
      rw [va_up_self, hq, rk_ent_raw]
    · rw [va_up_ne _ _ hne]
  have hq0 : (0 : Nat) ≠ q := fun z => by
    have h1 := h.2.2.1
    rw [z, hq] at h1
    omega
  refine ⟨by rw [hF]; exact h.1, by rw [hF]; exact h.2.1, ?_, fun a => ?_, fun a f h1 h2 => ?_⟩
  · show va_up Sh.2 q k 0 = 0
    rw [va_up_ne _ _ hq0]
    exact h.2.2.1
  · show a ∈ Sh.1 ↔ va_up Sh.2 q k a ≠ 0
    rw [h.2.2.2.1 a]
    by_cases hne : a = q
    · subst hne; rw [va_up_self, hq]; omega
    · rw [va_up_ne _ _ hne]
  · have h1' : va_up Sh.2 q k a < 50 := h1
    have h2' : rk_rk (va_up Sh.2 q k a) f ≠ 0 := h2
    show va_up Sh.2 q k (R (va_up Sh.2 q k a) a f) = rk_rk (va_up Sh.2 q k a) f
    have go : Sh.2 (R (va_up Sh.2 q k a) a f) = rk_rk (va_up Sh.2 q k a) f → va_up Sh.2 q k (R (va_up Sh.2 q k a) a f) = rk_rk (va_up Sh.2 q k a) f := fun g => by
      have hb : R (va_up Sh.2 q k a) a f ≠ q := fun z => by
        rw [z, hq] at g
        have := rk_rk_lt (va_up Sh.2 q k a) f
        omega
      rw [va_up_ne _ _ hb]
      exact g
    refine go ?_
    by_cases hne : a = q
    · subst hne
      rw [va_up_self] at h2' ⊢
      exact hw f h2'
    · rw [va_up_ne _ _ hne] at h1' h2' ⊢
      exact h.2.2.2.2 a f h1' h2'
def rk_nk (K : Nat) : rk_V → Bool
  | .inr (.inr (.inl q)) => !Nat.beq q.1 K
  | _ => true
theorem rk_ok_pub {kd : Nat → Nat} {q k : Nat} {v : rk_V} (hq : kd q = k + 50) (hn : rk_nk (k + 50) v = true) (h : rk_ok w kd v) : rk_ok w (va_up kd q k) v := by
  rcases v with x | x | ⟨k', a'⟩ | i
  · trivial
  · trivial
  · rcases h with h | h
    · refine Or.inl ⟨h.1, ?_, h.2.2⟩
      have h2 : kd a' = k' := h.2.1
      have hne : a' ≠ q := fun z => by
        rw [z, hq] at h2
        subst h2
        have h3 : (!Nat.beq (k + 50) (k + 50)) = true := hn
        rw [Nat.beq_refl] at h3
        cases h3
      show va_up kd q k a' = k'
      rw [va_up_ne _ _ hne]
      exact h2
    · exact Or.inr h
  · exact h
theorem rk_oks_pub {kd : Nat → Nat} {q k : Nat} {st : List rk_V} (hq : kd q = k + 50) (hn : st.all (rk_nk (k + 50)) = true) (h : rk_oks w kd st) : rk_oks w (va_up kd q k) st := fun v hv => rk_ok_pub hq (List.all_eq_true.mp hn v hv) (h v hv)
end DV
section DW
variable {w : rk_W} {l : Launch} {M : rk_M} {d mc ms : Nat} {G : List Frame → Array Value → State → State → Prop} {pc : Nat} {ls : List (Nat × rk_V)} {st : List rk_V} {Z : rk_Z} {I : rk_Mm} {R : rk_Rm}
theorem rk_pub (k : Nat) {q : Nat} (hk : 1 ≤ k ∧ k < 50) (hw : ∀ f, rk_rk k f ≠ 0 → Z.1.2 (R k q f) = rk_rk k f) (hs : st.all (rk_nk (k + 50)) = true) (hl : (ls.map (fun q => q.2)).all (rk_nk (k + 50)) = true) (kk : rk_Wp w l M d mc ms G pc ls (rk_a k q :: st) (rk_pS Z.1 q k, Z.2) I R) : rk_Wp w l M d mc ms G pc ls (rk_a (k + 50) q :: st) Z I R := by
  intro p e Rm s m args below meth cd H locs la C a1 a2 a3 a4 a5
  have hq : Z.1.2 q = k + 50 := (rk_kok (rk_oh a1) (by omega)).1
  exact kk p e Rm s m args below meth cd H locs la C (rk_oc (rk_kin (by omega) (by omega) (va_up_self _ _ _)) (rk_oks_pub hq hs (rk_ot a1))) (rk_oks_pub hq hl a2) (rk_HRpub a3 hk hq hw) a4 a5
theorem rk_oinit {k a idx : Nat} (hlink : Cond.methodLink M.1.cls idx objectInit ∈ rk_tbl) (hin : Cond.instanceMethod objectInit ∈ rk_tbl) (hco : Cond.code objectInit object_method_1_code 1 none ∈ rk_tbl) (hd : decode M.2.1 pc = .ok (.invokespecial idx, 3)) (hfr : 1 ≤ d) (hst : rk_cats st ≤ 8) (kk : rk_Wp w l M d mc ms G (pc + 3) ls st Z I R) : rk_Wp w l M d mc ms G pc ls (rk_a k a :: st) Z I R := by
  intro p e Rm s m args below meth cd H locs la C a1 a2 a3 a4 a5
  have hts := C.2.2.2.2.2.1
  have f1 := C.2.2.2.2.2.2.2.2.2.1
  have f2 := C.2.2.2.2.2.2.2.2.2.2.1
  have e1 := rk_cats_eq w st
  have e2 : (F0 m pc la (List.map (rk_v w) (rk_a k a :: st))).monitorRoom = 0 := rfl
  refine W.objInit C.1 C.2.1 C.2.2.2.2.1 (hts _ hlink) (hts _ hin) (hts _ hco) rfl (by rw [C.2.2.2.1]; exact a5.1) rfl hd (by omega) (by omega) ?_
  exact kk p e Rm s m args below meth cd H locs la C (rk_ot a1) a2 a3 a4 a5
theorem rk_getRr (k c ci f ek : Nat) {C : String} {T : u_T} {N idx : Nat} {fts : List Nat} (hk : k < 100) (hkd : rk_kd k = .inl (ci, fts)) (hc : k % 50 = c) (hq : vwCl[ci]? = some (C, T, N)) (hf : f < N) (hf0 : (fts[f]?).isSome = true ∧ fts[f]? ≠ some 0) (hin : ∀ q ∈ u_ws C T N, q ∈ rk_tbl) (hT : (T f).1 = C) (hlink : Cond.fieldLink M.1.cls idx C (T f).2.1 (T f).2.2.1 ∈ rk_tbl) {a : Nat} (hd : decode M.2.1 pc = .ok (.getfield idx, 3)) (hek : ek ≠ 0 ∧ ek < 100) (hr : Z.1.2 (R c a f) = ek) (kk : rk_Wp w l M d mc ms G (pc + 3) (ls) (rk_a ek (R c a f) :: st) Z I R) : rk_Wp w l M d mc ms G (pc) (ls) (rk_a k a :: st) Z I R := by
  intro p e Rm s m args below meth cd H locs la C a1 a2 a3 a4 a5
  have hok := rk_kok (rk_oh a1) (by omega)
  obtain ⟨ha, q0, hq0⟩ := rk_at a3 hok.1 hok.2
  have e1 : rk_F w Z.1.2 I R a = .inr (ci, rk_fs (I c) (R c) a 0 fts) := by show rk_ent w I R (Z.1.2 a) a = _; rw [hok.1]; exact rk_inl hkd hc
  rw [e1] at hq0
  obtain ⟨ft, hft⟩ := Option.isSome_iff_exists.mp hf0.1
  have hf1 : ft ≠ 0 := fun z => hf0.2 (by rw [hft, z])
  have hn0 : R c a f ≠ 0 := fun h => by rw [h, a3.2.2.1] at hr; exact hek.1 hr.symm
  exact va_get C.1 C.2.1 C.2.2.2.2.2.1 hin C.2.2.2.2.1 C.2.2.2.2.2.2.2.2.1.1 a3.1 q0 hq0 hq f hf (C.2.2.2.2.2.1 _ hlink) (fun x h => by rw [hT] at h; exact h) (v := .ref (R c a f)) (by rw [rk_fs_get hft]; simp [hf1, rk_op, hn0, va_rf]) hd (kk p e Rm s m args below meth cd H locs la C (rk_oc (rk_kin hek.2 hek.1 hr) (rk_ot a1)) a2 a3 a4 a5)
theorem rk_putF (k c ci f ek : Nat) {C : String} {T : u_T} {N idx : Nat} {fts : List Nat} {ty : FieldType} (ty0 : Nat → FieldType) (hk : k < 100 ∧ 50 ≤ k) (hkd : rk_kd k = .inl (ci, fts)) (hc : k % 50 = c) (hq : vwCl[ci]? = some (C, T, N)) (hf : f < N) (hf0 : (fts[f]?).isSome = true ∧ fts[f]? ≠ some 0) (hin : ∀ q ∈ u_ws C T N, q ∈ rk_tbl) (hty : ∀ k, k < N → parseFieldDescriptor (T k).2.2.1 = some (ty0 k)) (hnm : ∀ a, a < N → ∀ b, b < N → a ≠ b → (T a).2.1 ≠ (T b).2.1) (hT : (T f).1 = C) (hfin : (T f).2.2.2 = true) (hini : M.1.name = "<init>") (hown : M.1.cls = C) (hpd : parseFieldDescriptor (T f).2.2.1 = some ty) (hn : ∀ b : Nat, narrow ty (.ref b) = .ref b) (hfit : ∀ b : Nat, fits ty (.ref b) = true) (hlink : Cond.fieldLink M.1.cls idx C (T f).2.1 (T f).2.2.1 ∈ rk_tbl) {a b : Nat} (hek : ek < 100) (hd : decode M.2.1 pc = .ok (.putfield idx, 3)) (kk : ∀ R', R' = rk_uR R c a f b → rk_Wp w l M d mc ms G (pc + 3) (ls) (st) Z I R') : rk_Wp w l M d mc ms G (pc) (ls) (rk_a ek b :: rk_a k a :: st) Z I R := by
  intro p e Rm s m args below meth cd H locs la C a1 a2 a3 a4 a5
  have hok := rk_kok (rk_oh (rk_ot a1)) hk.1
  have hokb := rk_kok (rk_oh a1) hek
  obtain ⟨ha, q0, hq0⟩ := rk_at a3 hok.1 hok.2
  have e1 : rk_F w Z.1.2 I R a = .inr (ci, rk_fs (I c) (R c) a 0 fts) := by show rk_ent w I R (Z.1.2 a) a = _; rw [hok.1]; exact rk_inl hkd hc
  have hq1 := hq0
  rw [e1] at hq1
  obtain ⟨ft, hft⟩ := Option.isSome_iff_exists.mp hf0.1
  have hf1 : ft ≠ 0 := fun z => hf0.2 (by rw [hft, z])
  have hb0 : b ≠ 0 := fun h => by rw [h, a3.2.2.1] at hokb; exact hokb.2 hokb.1.symm
  have hcne : ∀ k' : Nat, k' < 50 → ∀ a' : Nat, Z.1.2 a' = k' → ∀ j, rk_uR R c a f b k' a' j = R k' a' j := fun k' h1 a' h2 j => rk_uR_n (fun h => by
    have h3 := h.2.1
    rw [h3, hok.1] at h2
    omega)
  refine va_putF C.1 C.2.1 C.2.2.2.2.2.1 hin ty0 hty hnm C.2.2.2.2.1 C.2.2.2.2.2.2.2.2.1.1 a3.1 a3.2.1 a4 q0 hq1 hq f hf (C.2.2.2.2.2.1 _ hlink) (fun x h => by rw [hT] at h; exact h) hfin (C.2.2.2.2.2.2.2.1.trans hini) (hT.trans hown.symm) (v := .ref b) hpd (hn b) (hfit b) (by rw [rk_fs_len]; exact (List.getElem?_eq_some_iff.mp hft).1) hd (fun H1 locs1 hP1 hD1 hS1 => ?_)
  refine kk _ rfl p e Rm s m args below meth cd H1 locs1 la C (rk_ot (rk_ot a1)) a2 (rk_HRset a3 ha hq0 ?_ (fun _ _ _ _ => rfl) (fun c' b j hb => rk_uR_n (fun h => hb h.2.1)) (fun a' f' g1 g2 => ?_) hP1 hD1) hS1 a5
  · rw [hok.1, rk_inl hkd hc]
    refine congrArg (fun z => Sum.inr (ci, z)) (rk_fs_set hft (fun _ _ => rfl) (fun i hi => rk_uR_n (fun h => hi (by omega))) ?_)
    simp [rk_uR, hf1, rk_op, hb0, va_rf]
  · rw [hcne _ g1 a' rfl]
    exact a3.2.2.2.2 a' f' g1 g2
end DW

