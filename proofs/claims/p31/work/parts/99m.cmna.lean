section DX
variable {w : rk_W} {Sh : rk_Sh} {I I' : rk_Mm} {R R' : rk_Rm} {H H1 : Heap}
theorem rk_D1 {A : Nat → Prop} {ws : va_W} {q : Nat} {e : va_E} (h : va_D A ws) (hq : ∀ (k : Nat) (x : Nat × va_E), ws[k]? = some x → x.1 ≠ q) (hA : A q) : va_D A (ws ++ [(q, e)]) := by
  have one : ∀ (k : Nat) (x : Nat × va_E), ¬ k < ws.length → (ws ++ [(q, e)])[k]? = some x → k = ws.length ∧ x = (q, e) := fun k x h1 h2 => by
    rw [List.getElem?_append_right (by omega)] at h2
    have h0 : k - ws.length < 1 := (List.getElem?_eq_some_iff.mp h2).1
    rw [show k - ws.length = 0 by omega] at h2
    cases h2
    exact ⟨by omega, rfl⟩
  refine ⟨fun i j x y hi hj hxy => ?_, fun k x hx => ?_⟩
  · by_cases h1 : i < ws.length <;> by_cases h2 : j < ws.length
    · rw [List.getElem?_append_left h1] at hi
      rw [List.getElem?_append_left h2] at hj
      exact h.1 i j x y hi hj hxy
    · obtain ⟨-, rfl⟩ := one j y h2 hj
      rw [List.getElem?_append_left h1] at hi
      exact absurd hxy (hq i x hi)
    · obtain ⟨-, rfl⟩ := one i x h1 hi
      rw [List.getElem?_append_left h2] at hj
      exact absurd hxy.symm (hq j y hj)
    · rw [(one i x h1 hi).1, (one j y h2 hj).1]
  · by_cases h1 : k < ws.length
    · rw [List.getElem?_append_left h1] at hx
      exact h.2 k x hx
    · obtain ⟨-, rfl⟩ := one k x h1 hx
      exact hA
theorem rk_HRadd {q k : Nat} (h : rk_HR w Sh I R H) (hq : q ∉ Sh.1) (hA : rk_A w q) (hq0 : q ≠ 0) (h0 : k ≠ 0) (hI : ∀ c a j, a ≠ q → I' c a j = I c a j) (hR : ∀ c a j, a ≠ q → R' c a j = R c a j) (hW : k < 50 → ∀ f, rk_rk k f ≠ 0 → va_up Sh.2 q k (R' k q f) = rk_rk k f) (hc : va_at w.1 vwCl (q, rk_ent w I' R' k q) H) : rk_HR w (rk_nS Sh q k) I' R' H := by
  have hk0 : Sh.2 q = 0 := Classical.byContradiction fun z => hq ((h.2.2.2.1 q).mpr z)
  have e1 : ([] ++ va_pl Sh.1 (rk_F w Sh.2 I R)) ++ [(q, rk_ent w I' R' k q)] = [] ++ va_pl (rk_nS Sh q k).1 (rk_F w (rk_nS Sh q k).2 I' R') := by
    simp only [rk_nS, va_pl, List.nil_append, List.map_append, List.map_cons, List.map_nil]
    congr 1
    · refine List.map_congr_left fun a ha => ?_
      have hne : a ≠ q := fun z => hq (z ▸ ha)
      show (a, rk_ent w I R (Sh.2 a) a) = (a, rk_ent w I' R' (va_up Sh.2 q k a) a)
      rw [va_up_ne _ _ hne]
      exact congrArg _ (rk_ent_congr (fun j => hI _ _ _ hne) (fun j => hR _ _ _ hne)).symm
    · show [(q, rk_ent w I' R' k q)] = [(q, rk_ent w I' R' (va_up Sh.2 q k q) q)]
      rw [va_up_self]
  have hP : va_P w.1 vwCl (([] ++ va_pl Sh.1 (rk_F w Sh.2 I R)) ++ [(q, rk_ent w I' R' k q)]) H := h.1.app (fun k9 x hx => by
    have h0 : k9 < 1 := (List.getElem?_eq_some_iff.mp hx).1
    rw [show k9 = 0 by omega] at hx
    cases hx
    exact hc)
  have hD : va_D (rk_A w) (([] ++ va_pl Sh.1 (rk_F w Sh.2 I R)) ++ [(q, rk_ent w I' R' k q)]) := rk_D1 h.2.1 (fun k9 x hx => by
    have hm := List.mem_of_getElem? hx
    simp only [va_pl, List.nil_append, List.mem_map] at hm
    obtain ⟨a, ha, rfl⟩ := hm
    exact fun z => hq (z ▸ ha)) hA
  rw [e1] at hP hD
  refine ⟨hP, hD, ?_, fun a => ?_, fun a f h1 h2 => ?_⟩
  · show va_up Sh.2 q k 0 = 0
    rw [va_up_ne _ _ (Ne.symm hq0)]
    exact h.2.2.1
  · show a ∈ Sh.1 ++ [q] ↔ va_up Sh.2 q k a ≠ 0
    by_cases hne : a = q
    · subst hne; rw [va_up_self]; simp [h0]
    · rw [va_up_ne _ _ hne, ← h.2.2.2.1 a]; simp [hne]
  · have h1' : va_up Sh.2 q k a < 50 := h1
    have h2' : rk_rk (va_up Sh.2 q k a) f ≠ 0 := h2
    show va_up Sh.2 q k (R' (va_up Sh.2 q k a) a f) = rk_rk (va_up Sh.2 q k a) f
    by_cases hne : a = q
    · subst hne
      rw [va_up_self] at h1' h2' ⊢
      exact hW h1' f h2'
    · rw [va_up_ne _ _ hne] at h1' h2' ⊢
      rw [hR _ _ _ hne]
      have g := h.2.2.2.2 a f h1' h2'
      have hb : R (Sh.2 a) a f ≠ q := fun z => by rw [z, hk0] at g; exact h2' g.symm
      rw [va_up_ne _ _ hb]
      exact g
/-- a new array of three arrays: its parts -/
def rk_mR (R : rk_Rm) (q : Nat) (r : Nat → Nat) : rk_Rm := fun c a j => if a = q then (if j < 3 then r j else 0) else R c a j
end DX
section DY
variable {w : rk_W} {l : Launch} {M : rk_M} {d mc ms : Nat} {G : List Frame → Array Value → State → State → Prop} {pc : Nat} {ls : List (Nat × rk_V)} {st : List rk_V} {Z : rk_Z} {I : rk_Mm} {R : rk_Rm}
theorem rk_inner {c : ClassId} : Jvm.Free.Multi.innerC c 6 (.int 0) = vp_cell c (6, .inl (fun _ => 0)) := by
  show ({ cls := c, slots := Array.replicate 6 (.int 0), vm := .none } : Cell) = arrV c 6 (fun _ => .int 0)
  rw [arrV_new]
theorem rk_outer {c : ClassId} {h0 : Nat} : ∀ i : Nat, Jvm.Free.Multi.outerC c 3 h0 i = arrV c 3 (fun j => if j < i then .ref (h0 + 1 + j) else .null)
  | 0 => by
    show ({ cls := c, slots := Array.replicate 3 .null, vm := .none } : Cell) = _
    rw [arrV_new]
    rfl
  | i + 1 => by
    show (Jvm.Free.Multi.outerC c 3 h0 i).setSlot i (.ref (h0 + 1 + i)) = _
    rw [rk_outer i, arrV_store]
    refine congrArg (arrV c 3) (funext fun j => ?_)
    by_cases e : j = i
    · subst e
      simp [updV]
    · by_cases h : j < i
      · simp [updV, e, h, Nat.lt_succ_of_lt h]
      · simp [updV, e, h, show ¬ j < i + 1 by omega]
theorem rk_mna {idx : Nat} (hcl : Cond.classLink M.1.cls idx "[[I" ∈ rk_tbl) (har : Cond.arrayClass .int ∈ rk_tbl) (hcells : Z.2.1 + 4 ≤ mc) (hslots : Z.2.2 + 21 ≤ ms) (hd : decode M.2.1 pc = .ok (.multianewarray idx 2, 4)) (kk : ∀ (q : Nat) (r : Nat → Nat), (Z.1.2 q = 0 ∧ q ≠ 0) → (∀ i, i < 3 → Z.1.2 (r i) = 0 ∧ r i ≠ 0 ∧ r i ≠ q) → (∀ i j, i < 3 → j < 3 → r i = r j → i = j) → rk_Wp w l M d mc ms G (pc + 4) ls (rk_a 21 q :: st) (rk_nS (rk_nS (rk_nS (rk_nS Z.1 (r 0) 22) (r 1) 22) (r 2) 22) q 21, Z.2.1 + 4, Z.2.2 + 21) (rk_nI (rk_nI (rk_nI (rk_nI I (r 0)) (r 1)) (r 2)) q) (rk_mR R q r)) : rk_Wp w l M d mc ms G pc ls (rk_i 6 :: rk_i 3 :: st) Z I R := by
  intro p e Rm s m args below meth cd H locs la C a1 a2 a3 a4 a5
  have hKN := C.2.2.2.2.2.2.2.2.1
  have hts := C.2.2.2.2.2.1
  have c1 := C.2.2.2.2.2.2.2.2.2.2.2.1
  have c2 := C.2.2.2.2.2.2.2.2.2.2.2.2
  intro T hT Xs
  obtain ⟨vm₁, cA, comp, -, fA, fC, hO, -, X', step⟩ := Xs.multianewarray2F (ty := .int) (n := 3) (k := 6) C.1 C.2.2.2.2.1 (hts _ hcl) hKN.2.2.1.2.2.2.2 (hts _ har) (g := F0 m pc la ((rk_i 6 :: rk_i 3 :: st).map (rk_v w))) rfl (by rw [C.2.1]; exact hd) rfl (by decide) (by decide) (by decide) (by decide) (by decide) rfl rfl (by show Z.2.1 + (1 + 3) ≤ _; omega) (by show Z.2.2 + (3 + 3 * 6) ≤ _; omega)
  have X2 : Stand p l e Rm s m args below meth cd (Jvm.Free.Multi.fill (T.setVm vm₁) cA comp 3 6 (.int 0) 3) locs (Z.2.1 + 4) (Z.2.2 + 21) := X'
  have step2 : ∀ target, Steps p.tables e below ((Jvm.Free.Multi.fill (T.setVm vm₁) cA comp 3 6 (.int 0) 3).setTop (F0 m (pc + 4) la (.ref T.heap.size :: st.map (rk_v w)))) target → Steps p.tables e below (T.setTop (F0 m pc la ((rk_i 6 :: rk_i 3 :: st).map (rk_v w)))) target := step
  have hTh : (T.setVm vm₁).heap = H := hT
  obtain ⟨f1, f2, -, -⟩ := Jvm.Free.Multi.fill_facts (T.setVm vm₁) cA comp 3 6 (.int 0) 3
  have f3 := fun (x : Nat) (hx : x < (T.setVm vm₁).heap.size) => Jvm.Free.Multi.fill_old (T.setVm vm₁) cA comp 3 6 (.int 0) (a := x) hx 3
  have f4 := Jvm.Free.Multi.fill_inner (T.setVm vm₁) cA comp 3 6 (.int 0) 3
  generalize Jvm.Free.Multi.fill (T.setVm vm₁) cA comp 3 6 (.int 0) 3 = F at X2 step2 f1 f2 f3 f4
  rw [hTh] at f1 f2 f3 f4
  have r0 : va_RA s (w.2.1 0) .int := (hKN.1.2 0 _ rfl).2
  have r7 : va_RA s (w.2.1 7) (.array .int) := (hKN.1.2 7 _ rfl).2
  have ec : comp = w.2.1 0 := Option.some.inj (fC.symm.trans r0)
  have eA : cA = w.2.1 7 := Option.some.inj (fA.symm.trans r7)
  subst ec
  subst eA
  have hA : ∀ x, H.size ≤ x → rk_A w x := fun x hx => by
    have h1 := hKN.2.2.2.2.2.2.2.2
    have h2 := a4.1
    show w.2.2.1 ≤ x
    omega
  have hN0 : ∀ x, rk_A w x → x ≠ 0 := fun x h => by
    have h8 := hKN.2.2.2.2.2.2.2.1
    have h9 : w.2.2.1 ≤ x := h
    omega
  have hlt : ∀ a, a ∈ Z.1.1 → a < H.size := fun a ha => by
    obtain ⟨k9, hk9⟩ := va_pl_get (X := []) (f := rk_F w Z.1.2 I R) ha
    exact (a3.1 k9 _ hk9).lt
  have g0 : rk_HR w Z.1 I R F.heap := ⟨a3.1.kept (fun k9 x hx => f3 x.1 ((a3.1 k9 x hx).lt)), a3.2⟩
  have cell : ∀ j, j < 3 → ∀ (I' : rk_Mm) (R' : rk_Rm), (∀ i, I' 22 (H.size + 1 + j) i = 0) → va_at w.1 vwCl (H.size + 1 + j, rk_ent w I' R' 22 (H.size + 1 + j)) F.heap := fun j hj I' R' hz => by
    have e1 : rk_ent w I' R' 22 (H.size + 1 + j) = .inl (w.2.1 0, 6, .inl (fun _ => 0)) := by
      rw [rk_inr (k := 22) rfl rfl, show I' 22 (H.size + 1 + j) = fun _ => 0 from funext hz]
    rw [e1]
    exact (f4 j hj).trans (congrArg some rk_inner)
  have g1 := rk_HRadd (q := H.size + 1 + 0) (k := 22) (I' := rk_nI I (H.size + 1 + 0)) (R' := R) g0 (fun z => by have := hlt _ z; omega) (hA _ (by omega)) (hN0 _ (hA _ (by omega))) (by decide) (fun c a j hn => rk_nI_n hn) (fun _ _ _ _ => rfl) (fun _ f hf => absurd (by simp [rk_rk, show rk_kd 22 = .inr (0, 6, 0) from rfl]) hf) (cell 0 (by decide) _ _ (fun i => rk_nI_s))
  have g2 := rk_HRadd (q := H.size + 1 + 1) (k := 22) (I' := rk_nI (rk_nI I (H.size + 1 + 0)) (H.size + 1 + 1)) (R' := R) g1 (fun z => by
    have z2 : H.size + 1 + 1 ∈ Z.1.1 ++ [H.size + 1 + 0] := z
    rcases List.mem_append.mp z2 with h | h
    · have := hlt _ h; omega
    · have := List.mem_singleton.mp h; omega) (hA _ (by omega)) (hN0 _ (hA _ (by omega))) (by decide) (fun c a j hn => rk_nI_n hn) (fun _ _ _ _ => rfl) (fun _ f hf => absurd (by simp [rk_rk, show rk_kd 22 = .inr (0, 6, 0) from rfl]) hf) (cell 1 (by decide) _ _ (fun i => rk_nI_s))
  have g3 := rk_HRadd (q := H.size + 1 + 2) (k := 22) (I' := rk_nI (rk_nI (rk_nI I (H.size + 1 + 0)) (H.size + 1 + 1)) (H.size + 1 + 2)) (R' := R) g2 (fun z => by
    have z2 : H.size + 1 + 2 ∈ (Z.1.1 ++ [H.size + 1 + 0]) ++ [H.size + 1 + 1] := z
    rcases List.mem_append.mp z2 with h | h
    · rcases List.mem_append.mp h with h | h
      · have := hlt _ h; omega
      · have := List.mem_singleton.mp h; omega
    · have := List.mem_singleton.mp h; omega) (hA _ (by omega)) (hN0 _ (hA _ (by omega))) (by decide) (fun c a j hn => rk_nI_n hn) (fun _ _ _ _ => rfl) (fun _ f hf => absurd (by simp [rk_rk, show rk_kd 22 = .inr (0, 6, 0) from rfl]) hf) (cell 2 (by decide) _ _ (fun i => rk_nI_s))
  have hold : ∀ x, H.size ≤ x → Z.1.2 x = 0 := fun x hx => Classical.byContradiction fun z => by
    have := hlt x ((a3.2.2.2.1 x).mpr z)
    omega
  have g4 := rk_HRadd (q := H.size) (k := 21) (I' := rk_nI (rk_nI (rk_nI (rk_nI I (H.size + 1 + 0)) (H.size + 1 + 1)) (H.size + 1 + 2)) H.size) (R' := rk_mR R H.size (fun i => H.size + 1 + i)) g3 (fun z => by
    have z2 : H.size ∈ ((Z.1.1 ++ [H.size + 1 + 0]) ++ [H.size + 1 + 1]) ++ [H.size + 1 + 2] := z
    rcases List.mem_append.mp z2 with h | h
    · rcases List.mem_append.mp h with h | h
      · rcases List.mem_append.mp h with h | h
        · have := hlt _ h; omega
        · have := List.mem_singleton.mp h; omega
      · have := List.mem_singleton.mp h; omega
    · have := List.mem_singleton.mp h; omega) (hA _ (by omega)) (hN0 _ (hA _ (by omega))) (by decide) (fun c a j hn => rk_nI_n hn) (fun c a j hn => if_neg hn) (fun _ f hf => by
    have h3 : f < 3 := Classical.byContradiction fun z => hf (by simp only [rk_rk, show rk_kd 21 = .inr (7, 3, 22) from rfl]; exact if_neg z)
    have e21 : rk_rk 21 f = 22 := by simp only [rk_rk, show rk_kd 21 = .inr (7, 3, 22) from rfl]; exact if_pos h3
    rw [e21]
    have eR : rk_mR R H.size (fun i => H.size + 1 + i) 21 H.size f = H.size + 1 + f := by unfold rk_mR; rw [if_pos rfl, if_pos h3]
    rw [eR, va_up_ne _ _ (by omega)]
    show va_up (va_up (va_up Z.1.2 (H.size + 1 + 0) 22) (H.size + 1 + 1) 22) (H.size + 1 + 2) 22 (H.size + 1 + f) = 22
    rcases (by omega : f = 0 ∨ f = 1 ∨ f = 2) with rfl | rfl | rfl
    · rw [va_up_ne _ _ (by omega), va_up_ne _ _ (by omega), va_up_self]
    · rw [va_up_ne _ _ (by omega), va_up_self]
    · rw [va_up_self]) (by
    have e1 : rk_ent w (rk_nI (rk_nI (rk_nI (rk_nI I (H.size + 1 + 0)) (H.size + 1 + 1)) (H.size + 1 + 2)) H.size) (rk_mR R H.size (fun i => H.size + 1 + i)) 21 H.size = .inl (w.2.1 7, 3, .inr (.inr (.inr (.inr (fun j => rk_op (rk_mR R H.size (fun i => H.size + 1 + i) 21 H.size j)))))) := rk_inq (k := 21) (ek := 22) rfl (by decide) rfl
    rw [e1]
    refine f2.trans (congrArg some ?_)
    rw [rk_outer, vp_cell_q]
    refine congrArg (arrV (w.2.1 7) 3) (funext fun j => ?_)
    unfold rk_mR
    rw [if_pos rfl]
    by_cases h3 : j < 3
    · rw [if_pos h3, if_pos h3]
      simp only [rk_op, va_rf]
      rw [if_neg (by omega)]
    · rw [if_neg h3, if_neg h3]
      rfl)
  have ok : ∀ v : List rk_V, rk_oks w Z.1.2 v → rk_oks w (rk_nS (rk_nS (rk_nS (rk_nS Z.1 (H.size + 1 + 0) 22) (H.size + 1 + 1) 22) (H.size + 1 + 2) 22) H.size 21).2 v := fun v hv => by
    show rk_oks w (va_up (va_up (va_up (va_up Z.1.2 (H.size + 1 + 0) 22) (H.size + 1 + 1) 22) (H.size + 1 + 2) 22) H.size 21) v
    refine rk_oks_up ?_ (rk_oks_up ?_ (rk_oks_up ?_ (rk_oks_up (hold _ (by omega)) hv)))
    · rw [va_up_ne _ _ (by omega), va_up_ne _ _ (by omega), va_up_ne _ _ (by omega)]; exact hold _ (by omega)
    · rw [va_up_ne _ _ (by omega), va_up_ne _ _ (by omega)]; exact hold _ (by omega)
    · rw [va_up_ne _ _ (by omega)]; exact hold _ (by omega)
  have hS1 : va_S (rk_A w) s.heap F.heap locs := ⟨by rw [f1]; have := a4.1; omega, fun x h1 h2 => (f3 x (Nat.lt_of_lt_of_le h1 a4.1)).trans (a4.2.1 x h1 h2), a4.2.2⟩
  obtain ⟨t, b1, b2⟩ := kk H.size (fun i => H.size + 1 + i) ⟨hold _ (by omega), hN0 _ (hA _ (by omega))⟩ (fun i _ => ⟨hold _ (by omega), by omega, by omega⟩) (fun i j _ _ h => by have h9 : H.size + 1 + i = H.size + 1 + j := h; omega) p e Rm s m args below meth cd F.heap locs la C (rk_oc (rk_kin (by decide) (by decide) (va_up_self _ _ _)) (ok _ (rk_ot (rk_ot a1)))) (ok _ a2) g4 hS1 a5 F rfl X2
  refine ⟨t, step2 t ?_, b2⟩
  have e9 : T.heap.size = H.size := by rw [hT]
  rw [e9]
  exact b1
end DY

