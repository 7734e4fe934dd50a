section PC
variable {w : rk_W} {l : Launch} {M : rk_M} {d mc ms : Nat} {as : List rk_V} {S : rk_S} {Sh : rk_Sh} {I I1 : rk_Mm} {R R1 : rk_Rm}
theorem rk_C.mo {Q Q' : Option rk_V → rk_S → Prop} (h : rk_C w l M d mc ms as S Q) (hq : ∀ r u, Q r u → Q' r u) : rk_C w l M d mc ms as S Q' := by
  intro hoks p e ha hc hk s m args below hf happ hP hK
  obtain ⟨n, o, h1, h2, h3, ⟨⟨r, u, g1, g2, g3⟩, g4⟩, g5⟩ := h hoks p e ha hc hk s m args below hf happ hP hK
  exact ⟨n, o, h1, h2, h3, ⟨⟨r, u, g1, hq r u g2, g3⟩, g4⟩, g5⟩
theorem rk_J.mo {Q Q' : Int32 → rk_Mm → rk_Rm → Prop} (h : rk_J w l M d as Sh I R Q) (hq : ∀ r I' R', Q r I' R' → Q' r I' R') : rk_J w l M d as Sh I R Q' := rk_C.mo h (fun r u g => by
  obtain ⟨g1, x, g2, g3⟩ := g
  exact ⟨g1, x, g2, hq _ _ _ g3⟩)
/-- an int, new cells beside: all that was there keeps its kind -/
def rk_N (w : rk_W) (l : Launch) (M : rk_M) (d mc ms : Nat) (as : List rk_V) (Sh : rk_Sh) (I : rk_Mm) (R : rk_Rm) (Q : Int32 → rk_S → Prop) : Prop := rk_C w l M d mc ms as (Sh, I, R) (fun r u => ∃ x, r = some (rk_i x) ∧ (∀ a, Sh.2 a ≠ 0 → u.1.2 a = Sh.2 a) ∧ Q x u)
theorem rk_bN {Q : Int32 → rk_S → Prop} {ls : List (Nat × rk_V)} (hp : plainName M.1.cls = true) (hls : rk_args 0 as = ls) (hsz : rk_wid as ≤ M.2.2.1) (kk : rk_Wp w l M d mc ms (rk_G w (fun r u => ∃ x, r = some (rk_i x) ∧ (∀ a, Sh.2 a ≠ 0 → u.1.2 a = Sh.2 a) ∧ Q x u) mc ms) 0 ls [] (Sh, 0, 0) I R) : rk_N w l M d mc ms as Sh I R Q := rk_body hp hls hsz kk
theorem rk_N.mo {mc' ms' : Nat} {Q Q' : Int32 → rk_S → Prop} (h : rk_N w l M d mc ms as Sh I R Q) (hq : ∀ r u, Q r u → Q' r u) : rk_N w l M d mc ms as Sh I R Q' := rk_C.mo h (fun r u g => by
  obtain ⟨x, g1, g2, g3⟩ := g
  exact ⟨x, g1, g2, hq _ _ g3⟩)
theorem rk_JN {Q : Int32 → rk_Mm → rk_Rm → Prop} (h : rk_J w l M d as Sh I R Q) : rk_N w l M d 0 0 as Sh I R (fun r u => Q r u.2.1 u.2.2) := rk_C.mo h (fun r u g => by
  obtain ⟨g1, x, g2, g3⟩ := g
  exact ⟨x, g2, fun a _ => by rw [g1], g3⟩)
variable {G : List Frame → Array Value → State → State → Prop} {pc : Nat} {ls : List (Nat × rk_V)} {st : List rk_V} {Z : rk_Z}
theorem rk_iretN {Q : Int32 → rk_S → Prop} {y : Int32} {ty : FieldType} (hd : decode M.2.1 pc = .ok (.ireturn, 1)) (hr : M.2.2.2 = some ty) (hn : narrow ty (.int y) = .int y) (hQ : (Z.2.1 ≤ mc ∧ Z.2.2 ≤ ms) ∧ (∀ a, Sh.2 a ≠ 0 → Z.1.2 a = Sh.2 a) ∧ Q y (Z.1, I, R)) : rk_Wp w l M d mc ms (rk_G w (fun r u => ∃ x, r = some (rk_i x) ∧ (∀ a, Sh.2 a ≠ 0 → u.1.2 a = Sh.2 a) ∧ Q x u) mc ms) pc ls [rk_i y] Z I R := rk_iret hd hr hn hQ.1 ⟨y, rfl, hQ.2⟩
theorem rk_cSn {M' : rk_M} {d' mc' ms' n idx : Nat} {as st0 : List rk_V} {Q' : Int32 → rk_S → Prop} (hC : rk_N w l M' d' mc' ms' as Z.1 I R Q') (hM : rk_MeS M' n) (hn : as.length = n) (hlink : Cond.methodLink M.1.cls idx M'.1 ∈ rk_tbl) (hd : decode M.2.1 pc = .ok (.invokestatic idx, 3)) (hs : st0 = rk_rev as st) (hroom : d' + 1 ≤ d ∧ 1 ≤ d') (hZ : Z.2.1 + mc' ≤ mc ∧ Z.2.2 + ms' ≤ ms) (hst : rk_cats st ≤ 8) (kk : ∀ (x : Int32) (u : rk_S), (∀ a, Z.1.2 a ≠ 0 → u.1.2 a = Z.1.2 a) ∧ Q' x u → rk_Wp w l M d mc ms G (pc + 3) ls (rk_i x :: st) (u.1, Z.2.1 + mc', Z.2.2 + ms') u.2.1 u.2.2) : rk_Wp w l M d mc ms G pc ls st0 Z I R := by
  subst hs
  intro p e Rm s m args below meth cd H locs la C a1 a2 a3 a4 a5
  refine rk_cS M' d' mc' ms' (st := st) hC hM hn hlink hd rfl hroom hZ hst (fun r u h => ?_) p e Rm s m args below meth cd H locs la C a1 a2 a3 a4 a5
  obtain ⟨x, rfl, h1, h2⟩ := h
  exact ⟨fun v hv => rk_kok2 h1 ((rk_okrev a1).2 v hv), fun v hv => rk_kok2 h1 (a2 v hv), kk x u ⟨h1, h2⟩⟩
/-- a new row of numbers: no reference changes -/
theorem rk_HRr {k t n q : Nat} {H : Heap} (hk : k < 50) (hkd : rk_kd k = .inr (t, n, 0)) (h : rk_HR w (rk_nS Sh q k) I (rk_nR R q) H) : rk_HR w (rk_nS Sh q k) I R H := by
  have hF : rk_F w (rk_nS Sh q k).2 I (rk_nR R q) = rk_F w (rk_nS Sh q k).2 I R := by
    funext a
    show rk_ent w I (rk_nR R q) (va_up Sh.2 q k a) a = rk_ent w I R (va_up Sh.2 q k a) a
    by_cases hne : a = q
    · subst hne
      rw [va_up_self, rk_inr hkd rfl, rk_inr hkd rfl]
    · exact rk_ent_congr (fun j => rfl) (fun j => (rk_nR_n hne))
  obtain ⟨h1, h2, h3, h4, h5⟩ := h
  rw [hF] at h1 h2
  refine ⟨h1, h2, h3, h4, fun a f g1 g2 => ?_⟩
  by_cases hne : a = q
  · subst hne
    have e : (rk_nS Sh a k).2 a = k := va_up_self _ _ _
    rw [e] at g2
    exact absurd (by simp [rk_rk, hkd]) g2
  · have g := h5 a f g1 g2
    rw [rk_nR_n hne] at g
    exact g
theorem rk_nb26 {x : Int32} (hx : ¬ x < 0 ∧ x.toNatClampNeg = 8) (hcells : Z.2.1 + 1 ≤ mc) (hslots : Z.2.2 + 8 ≤ ms) (hd : decode M.2.1 pc = .ok (.newarray .int, 2)) (kk : ∀ q, (Z.1.2 q = 0 ∧ q ≠ 0) → rk_Wp w l M d mc ms G (pc + 2) ls (rk_a 26 q :: st) (rk_nS Z.1 q 26, Z.2.1 + 1, Z.2.2 + 8) (rk_nI I q) R) : rk_Wp w l M d mc ms G pc ls (rk_i x :: st) Z I R := by
  refine rk_na26 hx hcells hslots hd (fun q hq => ?_)
  intro p e Rm s m args below meth cd H locs la C a1 a2 a3 a4 a5
  exact kk q hq p e Rm s m args below meth cd H locs la C a1 a2 (rk_HRr (by decide) rfl a3) a4 a5
theorem rk_nb27 {x : Int32} (hx : ¬ x < 0 ∧ x.toNatClampNeg = 24) (hcells : Z.2.1 + 1 ≤ mc) (hslots : Z.2.2 + 24 ≤ ms) (hd : decode M.2.1 pc = .ok (.newarray .int, 2)) (kk : ∀ q, (Z.1.2 q = 0 ∧ q ≠ 0) → rk_Wp w l M d mc ms G (pc + 2) ls (rk_a 27 q :: st) (rk_nS Z.1 q 27, Z.2.1 + 1, Z.2.2 + 24) (rk_nI I q) R) : rk_Wp w l M d mc ms G pc ls (rk_i x :: st) Z I R := by
  refine rk_na27 hx hcells hslots hd (fun q hq => ?_)
  intro p e Rm s m args below meth cd H locs la C a1 a2 a3 a4 a5
  exact kk q hq p e Rm s m args below meth cd H locs la C a1 a2 (rk_HRr (by decide) rfl a3) a4 a5
theorem rk_nS_k {q k a : Nat} (hq : Sh.2 q = 0) (ha : Sh.2 a ≠ 0) : (rk_nS Sh q k).2 a = Sh.2 a := by
  show va_up Sh.2 q k a = Sh.2 a
  exact va_up_ne _ _ (fun z => ha (by rw [z]; exact hq))
theorem rk_nI_f {rg : Nat → Nat} {q : Nat} (hq : rg q = 104) : cl_fr rg (fun z => z = 104) I R (rk_nI I q) R := ⟨fun c b h => by
  funext j
  exact rk_nI_n (fun z => h (by rw [z]; exact hq)), fun _ _ _ => rfl, fun _ _ _ _ => rfl⟩
end PC
section PD
variable {w : rk_W} {l : Launch} {Sh : rk_Sh} {rg : Nat → Nat} {I I1 I2 : rk_Mm} {R R1 R2 : rk_Rm} {N : Nat → Int32} {T T' : Int} {x m n L : Nat} {Hs Sv : Nat → Nat → Int32} {F P : Nat → Int32} {a : sp_R} {r r2 : Int32}
theorem hs_ok (V : va_ok T N n Hs F Sv P L) : hs_n n ≤ 6 ∧ ∀ i, i < hs_n n → vs_ok T (hs_p n Hs N i) := by
  obtain ⟨v1, v2, v3, -⟩ := V
  unfold hs_n hs_p
  by_cases h : n = 6
  · rw [if_pos h, if_pos h]
    refine ⟨by decide, fun i hi => ?_⟩
    show vs_ok T (if i = 5 then N else Hs (i + 1))
    split
    · exact v1
    · exact v3 _ (by omega)
  · rw [if_neg h, if_neg h]
    refine ⟨by omega, fun i hi => ?_⟩
    show vs_ok T (if i = n then N else Hs i)
    split
    · exact v1
    · exact v3 _ (by omega)
theorem va_ok.act (V : va_ok T N n Hs F Sv P L) (ok : sp_ok a) (iv : ∀ r M, a = (r, some M) → sp_iv (T + 1) M) : va_ok (T + 1) (a.2.getD N) (a.2.elim n (fun _ => hs_n n)) (a.2.elim Hs (fun _ => hs_p n Hs N)) F Sv P L := by
  have V1 := V.mo (T' := T + 1) (by omega)
  cases ha : a.2 with
  | none => exact V1
  | some M =>
    obtain ⟨h1, h2⟩ := hs_ok V1
    exact ⟨⟨iv a.1 M (Prod.ext rfl ha), (ok.2 M ha).2⟩, h1, h2, V1.2.2.2⟩
/-- the class at a state; its history and slots are left out -/
def lY (rg : Nat → Nat) (I : rk_Mm) (R : rk_Rm) (x : Nat) (T : Int) (N : Nat → Int32) : Prop := ∃ n Hs F Sv, va_ok T N n Hs F Sv (fun _ => 0) 0 ∧ cl_X rg I R x N n Hs F Sv (fun _ => 0) 0
theorem lY.mf (h : lY rg I R x T N) (f : cl_fr rg (fun z => z = 104) I R I1 R) : lY rg I1 R x T N := by
  obtain ⟨n, Hs, F, Sv, V, X⟩ := h
  exact ⟨n, Hs, F, Sv, V, X.mf V f⟩
theorem lY.vs (h : lY rg I R x T N) : vs_ok T N := by
  obtain ⟨n, Hs, F, Sv, V, X⟩ := h
  exact V.1
/-- what an act of the class leaves -/
def lA (rg : Nat → Nat) (I : rk_Mm) (R : rk_Rm) (x : Nat) (T : Int) (N : Nat → Int32) (a : sp_R) (r : Int32) (I' : rk_Mm) (R' : rk_Rm) : Prop := r = a.1 ∧ lY rg I' R' x (T + 1) (a.2.getD N) ∧ cl_fr rg (fun z => z < 104) I R I' R'
theorem lA.of (V : va_ok T N n Hs F Sv (fun _ => 0) 0) (ok : sp_ok a) (iv : ∀ r M, a = (r, some M) → sp_iv (T + 1) M) (q : cl_A rg I R x a N n Hs F Sv (fun _ => 0) 0 r I1 R1) : lA rg I R x T N a r I1 R1 := ⟨q.1, ⟨_, _, F, Sv, V.act ok iv, q.2.1⟩, q.2.2⟩
theorem lq_set (hw : cl_W w) (h : lY rg I R x T N) (s v : Int32) : rk_J w l rk_mX10_set 7 [rk_a 11 x, rk_i s, rk_i v] Sh I R (lA rg I R x T N (sp_set N s v)) := by
  obtain ⟨n, Hs, F, Sv, V, X⟩ := h
  exact rk_J.mo (cX10_set_s hw V X s v) (fun r I' R' g => lA.of V (sp_ok_set V.1.1 V.1.2 _ _) (fun r M e => sp_iv_T (sp_iv_set V.1.1 e) (by omega)) g)
theorem lq_fibre (h : lY rg I R x T N) (f st tw : Int32) : rk_J w l rk_mX10_fibre 7 [rk_a 11 x, rk_i f, rk_i st, rk_i tw] Sh I R (lA rg I R x T N (sp_fibre N f st tw)) := by
  obtain ⟨n, Hs, F, Sv, V, X⟩ := h
  exact rk_J.mo (cX10_fibre_s V X f st tw) (fun r I' R' g => lA.of V (sp_ok_fibre V.1.1 V.1.2 _ _ _) (fun r M e => sp_iv_T (sp_iv_fibre V.1.1 e) (by omega)) g)
theorem lq_spin (h : lY rg I R x T N) (f ft : Int32) : rk_J w l rk_mX10_spin 7 [rk_a 11 x, rk_i f, rk_i ft] Sh I R (lA rg I R x T N (sp_spin N f ft)) := by
  obtain ⟨n, Hs, F, Sv, V, X⟩ := h
  exact rk_J.mo (cX10_spin_s V X f ft) (fun r I' R' g => lA.of V (sp_ok_spin V.1.1 V.1.2 _ _) (fun r M e => sp_iv_T (sp_iv_spin V.1.1 e) (by omega)) g)
theorem lq_lay (h : lY rg I R x T N) (f s b ft : Int32) : rk_J w l rk_mX10_lay 7 [rk_a 11 x, rk_i f, rk_i s, rk_i b, rk_i ft] Sh I R (lA rg I R x T N (sp_lay N f s b ft)) := by
  obtain ⟨n, Hs, F, Sv, V, X⟩ := h
  exact rk_J.mo (cX10_lay_s V X f s b ft) (fun r I' R' g => lA.of V (sp_ok_lay V.1.1 V.1.2 _ _ _ _) (fun r M e => sp_iv_lay V.1.1 e) g)
theorem lq_join (hT : T ≤ 1000000) (h : lY rg I R x T N) (p q : Int32) : rk_J w l rk_mX10_join 7 [rk_a 11 x, rk_i p, rk_i q] Sh I R (lA rg I R x T N (sp_join N p q)) := by
  obtain ⟨n, Hs, F, Sv, V, X⟩ := h
  exact rk_J.mo (cX10_join_s hT V X p q) (fun r I' R' g => lA.of V (sp_ok_join V.1.1 V.1.2 _ _) (fun r M e => sp_iv_T (sp_iv_join hT V.1.1 e) (by omega)) g)
theorem lq_test (h : lY rg I R x T N) (p : Int32) : rk_J w l rk_mX10_test 7 [rk_a 11 x, rk_i p] Sh I R (lA rg I R x T N (sp_test N p)) := by
  obtain ⟨n, Hs, F, Sv, V, X⟩ := h
  exact rk_J.mo (cX10_test_s V X p) (fun r I' R' g => lA.of V (sp_ok_test V.1.1 V.1.2 _) (fun r M e => sp_iv_T (sp_iv_test V.1.1 e) (by omega)) g)
theorem lq_order (h : lY rg I R x T N) (f st ft mn tr pr : Int32) : rk_J w l rk_mX10_order 7 [rk_a 11 x, rk_i f, rk_i st, rk_i ft, rk_i mn, rk_i tr, rk_i pr] Sh I R (lA rg I R x T N (sp_order N f st ft mn tr pr)) := by
  obtain ⟨n, Hs, F, Sv, V, X⟩ := h
  exact rk_J.mo (cX10_order_s V X f st ft mn tr pr) (fun r I' R' g => lA.of V (sp_ok_order V.1.1 V.1.2 _ _ _ _ _ _) (fun r M e => sp_iv_T (sp_iv_order V.1.1 e) (by omega)) g)
theorem lq_fill (h : lY rg I R x T N) (o : Int32) : rk_J w l rk_mX10_fill 7 [rk_a 11 x, rk_i o] Sh I R (lA rg I R x T N (sp_fill N o)) := by
  obtain ⟨n, Hs, F, Sv, V, X⟩ := h
  exact rk_J.mo (cX10_fill_s V X o) (fun r I' R' g => lA.of V (sp_ok_fill V.1.1 V.1.2 _) (fun r M e => sp_iv_T (sp_iv_fill V.1.1 e) (by omega)) g)
theorem lq_drop (h : lY rg I R x T N) (o : Int32) : rk_J w l rk_mX10_drop 7 [rk_a 11 x, rk_i o] Sh I R (lA rg I R x T N (sp_drop N o)) := by
  obtain ⟨n, Hs, F, Sv, V, X⟩ := h
  exact rk_J.mo (cX10_drop_s V X o) (fun r I' R' g => lA.of V (sp_ok_drop V.1.1 V.1.2 _) (fun r M e => sp_iv_T (sp_iv_drop V.1.1 e) (by omega)) g)
theorem lq_pass (h : lY rg I R x T N) (d : Int32) : rk_J w l rk_mX10_pass 7 [rk_a 11 x, rk_i d] Sh I R (lA rg I R x T N (sp_pass N d)) := by
  obtain ⟨n, Hs, F, Sv, V, X⟩ := h
  exact rk_J.mo (cX10_pass_s V X d) (fun r I' R' g => lA.of V (sp_ok_pass V.1.1 V.1.2 _) (fun r M e => sp_iv_T (sp_iv_pass V.1.1 e) (by omega)) g)
theorem lq_would (h : lY rg I R x T N) (o k : Int32) : rk_J w l rk_mX10_wouldFill 7 [rk_a 11 x, rk_i o, rk_i k] Sh I R (fun r I' R' => r = sp_would N o k ∧ lY rg I' R' x T N ∧ cl_fr rg (fun z => z < 104) I R I' R') := by
  obtain ⟨n, Hs, F, Sv, V, X⟩ := h
  exact rk_J.mo (cX10_wouldFill_s V X o k) (fun r I' R' g => ⟨g.1, ⟨n, Hs, F, Sv, V, g.2.1⟩, g.2.2⟩)
/-! questions, by their numbers -/
theorem rk_P.eq {M : rk_M} {d : Nat} {as : List rk_V} {x y : Int32} (h : rk_P w l M d as Sh I R x) (e : x = y) : rk_P w l M d as Sh I R y := e ▸ h
theorem lq_count (h : lY rg I R x T N) {k v : Int32} (e : ∀ sg un, sp_count N sg un k = v) : rk_P w l rk_mX10_count 5 [rk_a 11 x, rk_i k] Sh I R v := by
  obtain ⟨n, Hs, F, Sv, V, X⟩ := h
  exact rk_P.eq (cX10_count_s V X k) (e _ _)
theorem sc_lo {N : Nat → Int32} {k : Int32} (h1 : ¬ (9 ≤ k ∧ k ≤ 18)) (h2 : ¬ (19 ≤ k ∧ k ≤ 24)) (sg un : Int32) : sp_count N sg un k = (if k = 0 then N 10 else if k = 1 then N 12 else if k = 2 then N 13 else if k = 3 then sp_left N else if k = 4 then N 14 else if k = 5 then N 15 else if k = 6 then N 16 else if k = 7 then sg else if k = 8 then un else -2) := by
  unfold sp_count
  rw [if_neg h1, if_neg h2]
theorem sc_mi {N : Nat → Int32} {k : Int32} {j : Nat} (h1 : 9 ≤ k ∧ k ≤ 18) (e : k.toNatClampNeg - 9 = j) (sg un : Int32) : sp_count N sg un k = N j := by
  unfold sp_count
  rw [if_pos h1, e]
theorem sc_hi {N : Nat → Int32} {k : Int32} {j : Nat} (h1 : ¬ (9 ≤ k ∧ k ≤ 18)) (h2 : 19 ≤ k ∧ k ≤ 24) (e : 20 + 3 * ((k.toNatClampNeg - 19) % 3) + (k.toNatClampNeg - 19) / 3 = j) (sg un : Int32) : sp_count N sg un k = N j := by
  unfold sp_count
  rw [if_neg h1, if_pos h2, e]
theorem qc0 (h : lY rg I R x T N) : rk_P w l rk_mX10_count 5 [rk_a 11 x, rk_i 0] Sh I R (N 10) := lq_count h (fun sg un => (sc_lo (by decide) (by decide) sg un).trans rfl)
theorem qc1 (h : lY rg I R x T N) : rk_P w l rk_mX10_count 5 [rk_a 11 x, rk_i 1] Sh I R (N 12) := lq_count h (fun sg un => (sc_lo (by decide) (by decide) sg un).trans rfl)
theorem qc2 (h : lY rg I R x T N) : rk_P w l rk_mX10_count 5 [rk_a 11 x, rk_i 2] Sh I R (N 13) := lq_count h (fun sg un => (sc_lo (by decide) (by decide) sg un).trans rfl)
theorem qc3 (h : lY rg I R x T N) : rk_P w l rk_mX10_count 5 [rk_a 11 x, rk_i 3] Sh I R (sp_left N) := lq_count h (fun sg un => (sc_lo (by decide) (by decide) sg un).trans rfl)
theorem qc4 (h : lY rg I R x T N) : rk_P w l rk_mX10_count 5 [rk_a 11 x, rk_i 4] Sh I R (N 14) := lq_count h (fun sg un => (sc_lo (by decide) (by decide) sg un).trans rfl)
theorem qc5 (h : lY rg I R x T N) : rk_P w l rk_mX10_count 5 [rk_a 11 x, rk_i 5] Sh I R (N 15) := lq_count h (fun sg un => (sc_lo (by decide) (by decide) sg un).trans rfl)
theorem qc6 (h : lY rg I R x T N) : rk_P w l rk_mX10_count 5 [rk_a 11 x, rk_i 6] Sh I R (N 16) := lq_count h (fun sg un => (sc_lo (by decide) (by decide) sg un).trans rfl)
theorem qc9 (h : lY rg I R x T N) : rk_P w l rk_mX10_count 5 [rk_a 11 x, rk_i 9] Sh I R (N 0) := lq_count h (sc_mi (by decide) (by decide))
theorem qc10 (h : lY rg I R x T N) : rk_P w l rk_mX10_count 5 [rk_a 11 x, rk_i 10] Sh I R (N 1) := lq_count h (sc_mi (by decide) (by decide))
theorem qc11 (h : lY rg I R x T N) : rk_P w l rk_mX10_count 5 [rk_a 11 x, rk_i 11] Sh I R (N 2) := lq_count h (sc_mi (by decide) (by decide))
theorem qc12 (h : lY rg I R x T N) : rk_P w l rk_mX10_count 5 [rk_a 11 x, rk_i 12] Sh I R (N 3) := lq_count h (sc_mi (by decide) (by decide))
theorem qc13 (h : lY rg I R x T N) : rk_P w l rk_mX10_count 5 [rk_a 11 x, rk_i 13] Sh I R (N 4) := lq_count h (sc_mi (by decide) (by decide))
theorem qc14 (h : lY rg I R x T N) : rk_P w l rk_mX10_count 5 [rk_a 11 x, rk_i 14] Sh I R (N 5) := lq_count h (sc_mi (by decide) (by decide))
theorem qc15 (h : lY rg I R x T N) : rk_P w l rk_mX10_count 5 [rk_a 11 x, rk_i 15] Sh I R (N 6) := lq_count h (sc_mi (by decide) (by decide))
theorem qc16 (h : lY rg I R x T N) : rk_P w l rk_mX10_count 5 [rk_a 11 x, rk_i 16] Sh I R (N 7) := lq_count h (sc_mi (by decide) (by decide))
theorem qc17 (h : lY rg I R x T N) : rk_P w l rk_mX10_count 5 [rk_a 11 x, rk_i 17] Sh I R (N 8) := lq_count h (sc_mi (by decide) (by decide))
theorem qc18 (h : lY rg I R x T N) : rk_P w l rk_mX10_count 5 [rk_a 11 x, rk_i 18] Sh I R (N 9) := lq_count h (sc_mi (by decide) (by decide))
theorem qcs {f : Nat} (h : lY rg I R x T N) (hf : f < 3) : rk_P w l rk_mX10_count 5 [rk_a 11 x, rk_i (19 + nI f)] Sh I R (N (20 + 3 * f)) := by
  rcases (by omega : f = 0 ∨ f = 1 ∨ f = 2) with rfl | rfl | rfl
  · exact lq_count h (sc_hi (by decide) (by decide) (by decide))
  · exact lq_count h (sc_hi (by decide) (by decide) (by decide))
  · exact lq_count h (sc_hi (by decide) (by decide) (by decide))
theorem qct {f : Nat} (h : lY rg I R x T N) (hf : f < 3) : rk_P w l rk_mX10_count 5 [rk_a 11 x, rk_i (22 + nI f)] Sh I R (N (20 + 3 * f + 1)) := by
  rcases (by omega : f = 0 ∨ f = 1 ∨ f = 2) with rfl | rfl | rfl
  · exact lq_count h (sc_hi (by decide) (by decide) (by decide))
  · exact lq_count h (sc_hi (by decide) (by decide) (by decide))
  · exact lq_count h (sc_hi (by decide) (by decide) (by decide))
/-- a piece's eight numbers -/
def pv (N : Nat → Int32) (p k : Nat) : Int32 := if k = 7 then sp_st N (sp_P N p) else N (50 + 7 * p + k)
theorem lY.c12 (h : lY rg I R x T N) : ∃ c, c ≤ 24 ∧ N 12 = nI c := h.vs.1.c12
theorem lY.c13 (h : lY rg I R x T N) : ∃ c, c ≤ 16 ∧ N 13 = nI c := h.vs.1.c13
theorem qpk {c p k : Nat} (h : lY rg I R x T N) (hc : N 12 = nI c) (hc2 : c ≤ 24) (hp : p < c) (hk : k < 8) : rk_P w l rk_mX10_piece 5 [rk_a 11 x, rk_i (nI p), rk_i (nI k)] Sh I R (pv N p k) := by
  obtain ⟨n, Hs, F, Sv, V, X⟩ := h
  refine rk_P.eq (cX10_piece_s V X (nI p) (nI k)) ?_
  have h1 : sp_ispc N (nI p) := ⟨nI_pos' (by omega), by rw [hc, rk_pred (by omega)]; exact nI_le (by omega) (by omega)⟩
  unfold sp_piece pv
  rw [if_pos h1, nI_clamp (by omega), nI_clamp (by omega)]
  by_cases h7 : k = 7
  · subst h7
    rw [if_neg (by decide), if_pos rfl]; rfl
  · rw [if_pos ⟨nI_pos' (by omega), nI_le (b := 6) (by omega) (by decide)⟩, if_neg h7]
theorem qp {c p k : Nat} {q kk : Int32} (h : lY rg I R x T N) (hc : N 12 = nI c) (hc2 : c ≤ 24) (hp : p < c) (hk : k < 7) (eq : q = nI p) (ek : kk = nI k) : rk_P w l rk_mX10_piece 5 [rk_a 11 x, rk_i q, rk_i kk] Sh I R (N (50 + 7 * p + k)) := by
  subst eq ek
  exact rk_P.eq (qpk h hc hc2 hp (by omega)) (if_neg (by omega))
theorem qp7 {c p : Nat} {q : Int32} (h : lY rg I R x T N) (hc : N 12 = nI c) (hc2 : c ≤ 24) (hp : p < c) (eq : q = nI p) : rk_P w l rk_mX10_piece 5 [rk_a 11 x, rk_i q, rk_i 7] Sh I R (sp_st N (sp_P N p)) := by
  subst eq
  exact qpk (k := 7) h hc hc2 hp (by decide)
theorem qo {c o k : Nat} {q kk : Int32} (h : lY rg I R x T N) (hc : N 13 = nI c) (hc2 : c ≤ 16) (ho : o < c) (hk : k < 7) (eq : q = nI o) (ek : kk = nI k) : rk_P w l rk_mX10_ofOrder 6 [rk_a 11 x, rk_i q, rk_i kk] Sh I R (N (220 + 7 * o + k)) := by
  subst eq ek
  obtain ⟨n, Hs, F, Sv, V, X⟩ := h
  refine rk_P.eq (cX10_ofOrder_s V X (nI o) (nI k)) ?_
  have h1 : sp_isor N (nI o) := ⟨nI_pos' (by omega), by rw [hc, rk_pred (by omega)]; exact nI_le (by omega) (by omega)⟩
  unfold sp_ofOrder
  rw [if_pos h1, nI_clamp (by omega), nI_clamp (by omega), if_pos ⟨nI_pos' (by omega), nI_le (b := 6) (by omega) (by decide)⟩]
theorem qo7 {c o : Nat} {q : Int32} (h : lY rg I R x T N) (hc : N 13 = nI c) (hc2 : c ≤ 16) (ho : o < c) (eq : q = nI o) : rk_P w l rk_mX10_ofOrder 6 [rk_a 11 x, rk_i q, rk_i 7] Sh I R (sp_ns N (sp_P N) (sp_O N o) (sp_c N 12)) := by
  subst eq
  obtain ⟨n, Hs, F, Sv, V, X⟩ := h
  refine rk_P.eq (cX10_ofOrder_s V X (nI o) 7) ?_
  have h1 : sp_isor N (nI o) := ⟨nI_pos' (by omega), by rw [hc, rk_pred (by omega)]; exact nI_le (by omega) (by omega)⟩
  unfold sp_ofOrder
  rw [if_pos h1, nI_clamp (by omega), if_neg (by decide), if_pos rfl]
theorem qa {f k : Nat} {q kk : Int32} (h : lY rg I R x T N) (hf : f < 3) (hk : k < 6) (eq : q = nI f) (ek : kk = nI k) : rk_P w l rk_mX10_account 6 [rk_a 11 x, rk_i q, rk_i kk] Sh I R (sp_acc N f k) := by
  subst eq ek
  obtain ⟨n, Hs, F, Sv, V, X⟩ := h
  refine rk_P.eq (cX10_account_s V X (nI f) (nI k)) ?_
  unfold sp_account
  rw [if_pos ⟨nI_pos' (by omega), nI_le (b := 2) (by omega) (by decide)⟩, if_pos ⟨nI_pos' (by omega), nI_le (b := 5) (by omega) (by decide)⟩, nI_clamp (by omega), nI_clamp (by omega)]
end PD
