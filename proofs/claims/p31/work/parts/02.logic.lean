/-! values of the judgement: an int, a long, a cell of a kind, a text constant -/
abbrev rk_V : Type := Int32 ⊕ (Int64 ⊕ ((Nat × Nat) ⊕ Nat))
abbrev rk_i (x : Int32) : rk_V := Sum.inl x
abbrev rk_l (x : Int64) : rk_V := Sum.inr (Sum.inl x)
abbrev rk_a (k a : Nat) : rk_V := Sum.inr (Sum.inr (Sum.inl (k, a)))
abbrev rk_t (i : Nat) : rk_V := Sum.inr (Sum.inr (Sum.inr i))
/-- the world's fixed part: classes and slots, array classes, the first new address, frozen arrays, text constants -/
abbrev rk_W : Type := va_G × (Nat → ClassId) × Nat × (Nat → Nat × Nat × (Nat → Int32)) × (Nat → Nat) × (Nat → Nat)
abbrev rk_fz (w : rk_W) (i : Nat) : Nat × Nat × (Nat → Int32) := w.2.2.2.1 i
abbrev rk_A (w : rk_W) : Nat → Prop := fun q => w.2.2.1 ≤ q
def rk_v (w : rk_W) : rk_V → Value
  | .inl x => .int x
  | .inr (.inl x) => .long x
  | .inr (.inr (.inl q)) => .ref q.2
  | .inr (.inr (.inr i)) => .ref (w.2.2.2.2.1 i)
abbrev rk_Mm : Type := Nat → Nat → Nat → Int32
abbrev rk_Rm : Type := Nat → Nat → Nat → Nat
abbrev rk_Sh : Type := List Nat × (Nat → Nat)
abbrev rk_S : Type := rk_Sh × rk_Mm × rk_Rm
def rk_ok (w : rk_W) (kd : Nat → Nat) : rk_V → Prop
  | .inl _ => True
  | .inr (.inl _) => True
  | .inr (.inr (.inl q)) => (q.1 < 100 ∧ kd q.2 = q.1 ∧ q.1 ≠ 0) ∨ (100 ≤ q.1 ∧ q.1 < 106 ∧ q.2 = (rk_fz w (q.1 - 100)).1) ∨ (110 ≤ q.1 ∧ q.1 < 115 ∧ q.2 = w.2.2.2.2.2 (q.1 - 110))
  | .inr (.inr (.inr i)) => i < 5
def rk_oks (w : rk_W) (kd : Nat → Nat) (l : List rk_V) : Prop := ∀ v ∈ l, rk_ok w kd v
/-- the kinds: an object's class and the kinds of its fields (0: no cell), or an array's class, length and its elements' kind -/
def rk_kd (k : Nat) : (Nat × List Nat) ⊕ (Nat × Nat × Nat) := match k % 50 with
  | 1 => .inl (0, [13, 0])
  | 2 => .inl (1, [14, 0])
  | 3 => .inl (2, [0, 0, 0, 0, 0, 0, 0])
  | 4 => .inl (3, [15, 0])
  | 5 => .inl (4, [0, 0, 0, 0, 0, 0, 0])
  | 6 => .inl (5, [4, 0, 0, 16, 0])
  | 7 => .inl (6, [17, 18, 19])
  | 8 => .inl (7, [20, 0, 21])
  | 9 => .inl (8, [23, 0, 0])
  | 10 => .inl (9, [7, 8, 1, 0, 0, 0, 0, 0])
  | 11 => .inl (10, [10, 2, 24, 25, 6, 4, 9])
  | 13 => .inr (3, 16, 3)
  | 14 => .inr (6, 7, 10)
  | 15 => .inr (1, 80, 0)
  | 16 => .inr (0, 4, 0)
  | 17 => .inr (0, 10, 0)
  | 18 => .inr (0, 3, 0)
  | 19 => .inr (0, 3, 0)
  | 20 => .inr (4, 24, 5)
  | 21 => .inr (7, 3, 22)
  | 22 => .inr (0, 6, 0)
  | 23 => .inr (5, 11, 8)
  | 24 => .inr (6, 2, 10)
  | 25 => .inr (2, 2, 0)
  | 26 => .inr (0, 8, 0)
  | 27 => .inr (0, 24, 0)
  | _ => .inr (0, 200, 0)
def rk_rk (k f : Nat) : Nat := match rk_kd k with
  | .inl q => q.2.getD f 0
  | .inr y => if f < y.2.1 then y.2.2 else 0
def rk_op (x : Nat) : Option Nat := if x = 0 then none else some x
def rk_fs (I : Nat → Nat → Int32) (R : Nat → Nat → Nat) (a : Nat) : Nat → List Nat → List Value
  | _, [] => []
  | k, f :: fs => (if f = 0 then .int (I a k) else va_rf (rk_op (R a k))) :: rk_fs I R a (k + 1) fs
def rk_ent (w : rk_W) (I : rk_Mm) (R : rk_Rm) (k a : Nat) : va_E := match rk_kd k with
  | .inl q => .inr (q.1, rk_fs (I (k % 50)) (R (k % 50)) a 0 q.2)
  | .inr y => .inl (w.2.1 y.1, y.2.1, if y.2.2 = 0 then .inl (I (k % 50) a) else .inr (.inr (.inr (.inr (fun j => rk_op (R (k % 50) a j))))))
abbrev rk_F (w : rk_W) (kd : Nat → Nat) (I : rk_Mm) (R : rk_Rm) : Nat → va_E := fun a => rk_ent w I R (kd a) a
def rk_WT (kd : Nat → Nat) (R : rk_Rm) : Prop := ∀ a f : Nat, kd a < 50 → rk_rk (kd a) f ≠ 0 → kd (R (kd a) a f) = rk_rk (kd a) f
def rk_HR (w : rk_W) (Sh : rk_Sh) (I : rk_Mm) (R : rk_Rm) (H : Heap) : Prop :=
  va_P w.1 vwCl ([] ++ va_pl Sh.1 (rk_F w Sh.2 I R)) H ∧ va_D (rk_A w) ([] ++ va_pl Sh.1 (rk_F w Sh.2 I R)) ∧ Sh.2 0 = 0 ∧ (∀ a, a ∈ Sh.1 ↔ Sh.2 a ≠ 0) ∧ rk_WT Sh.2 R
abbrev rk_tys (w : rk_W) : List (ClassId × FieldType) := [(w.2.1 0, .int), (w.2.1 1, .char), (w.2.1 2, .boolean), (w.2.1 3, .object RX2), (w.2.1 4, .object RX4), (w.2.1 5, .object RX7), (w.2.1 6, .object RX9), (w.2.1 7, .array .int)]

def rk_tbl : List Cond := lw_tbl.filter goodWord
theorem rk_tg : ∀ q ∈ rk_tbl, goodWord q = true := fun q h => (List.mem_filter.mp h).2
theorem rk_gi : GoodIn rk_tbl rk_tbl := fun q h => ⟨h, good_of_word (rk_tg q h)⟩
theorem rk_in {q : Cond} (h : q ∈ lw_tbl) (hg : goodWord q = true) : q ∈ rk_tbl := List.mem_filter.mpr ⟨h, hg⟩
def rk_nest : List (String × Nat × MethodName × String) := [("RopeWalk", 9, ⟨RX9, "<init>", "()V"⟩, "RopeWalk"), (RX7, 22, ⟨RX4, "<init>", "()V"⟩, "RopeWalk"), (RX0, 17, ⟨RX2, "<init>", "()V"⟩, "RopeWalk"), (RX1, 17, ⟨RX9, "<init>", "()V"⟩, "RopeWalk"), ("RopeWalk", 33, ⟨RX5, "<init>", "()V"⟩, "RopeWalk"), (RX5, 11, ⟨RX3, "<init>", "()V"⟩, "RopeWalk"),
  (RX9, 58, ⟨"RopeWalk", "inRange", "(III)Z"⟩, "RopeWalk"), (RX9, 72, ⟨"RopeWalk", "isFibre", "(I)Z"⟩, "RopeWalk"), (RX9, 92, ⟨"RopeWalk", "isMake", "(II)Z"⟩, "RopeWalk"), (RX7, 37, ⟨"RopeWalk", "inRange", "(III)Z"⟩, "RopeWalk"), (RX0, 26, ⟨"RopeWalk", "inRange", "(III)Z"⟩, "RopeWalk")]
def rk_snm : List String := ["FIRST_SETTINGS", "LEAST_SETTINGS", "MOST_SETTINGS", "FIRST_STRENGTHS", "FIRST_TWISTS"]
def rk_nestF : List (String × Nat × String) := [(RX6, 21, "FIRST_SETTINGS"), (RX6, 30, "FIRST_STRENGTHS"), (RX6, 33, "FIRST_TWISTS"), (RX9, 62, "LEAST_SETTINGS"), (RX9, 66, "MOST_SETTINGS")]
/-- the class of the arrays of int arrays -/
def rk_AOA (U : State) : Prop := (Cond.arrayOver (.array .int)).before #[] U = true
theorem rk_AOA_sp {u : State} (h : rk_AOA u) : ∃ comp c k, u.vm.findClass (FieldType.array .int).toString = some comp ∧ (u.vm.classes.findIdx? fun (x : Class) => match x.kind with | .array component _ => component == comp | _ => false) = some c ∧ u.vm.classes[c]? = some k ∧ k.kind = .array comp (.array .int) ∧ u.vm.findClass ("[" ++ (FieldType.array .int).toString) = some c := by
  unfold rk_AOA at h
  simp only [Cond.before, Cond.holds, Cond.value, beq_iff_eq] at h
  cases hc : u.vm.findClass (FieldType.array .int).toString with
  | none => simp [hc] at h
  | some comp =>
    simp only [hc, Option.bind_some, Option.bind_eq_some_iff, Option.map_eq_some_iff] at h
    obtain ⟨c, hi, k, hk, hb⟩ := h
    obtain ⟨hlt, hp, -⟩ := Array.findIdx?_eq_some_iff_getElem.mp hi
    rw [(Array.getElem?_eq_some_iff.mp hk).2] at hp
    cases hkind : k.kind with
    | array component ty =>
      rw [hkind] at hb hp
      simp at hb hp
      exact ⟨comp, c, k, rfl, hi, hk, by rw [hkind, hp, hb.1], hb.2⟩
    | _ => rw [hkind] at hb; simp at hb
theorem rk_AOA.moved {u U : State} (hvm : u.vm.Alike U.vm) (h : rk_AOA u) : rk_AOA U := by
  obtain ⟨comp, c, k, g1, g2, g3, g4, g5⟩ := rk_AOA_sp h
  obtain ⟨k', hk', he⟩ := hvm.2.2 _ _ g3
  have hi : (U.vm.classes.findIdx? fun (x : Class) => match x.kind with | .array component _ => component == comp | _ => false) = some c := by
    have hb : U.vm.bare = u.vm.bare := by first | exact hvm.bare_eq | exact hvm.bare_eq.symm
    have h1 := va_idx_bare U.vm comp
    rw [hb] at h1
    exact h1.symm.trans ((va_idx_bare u.vm comp).trans g2)
  have e1 : k'.kind = .array comp (.array .int) := by rw [he]; exact g4
  have e2 : U.vm.findClass (FieldType.array .int).toString = some comp := by rw [hvm.findClass]; exact g1
  have e3 : U.vm.findClass ("[" ++ (FieldType.array .int).toString) = some c := by rw [hvm.findClass]; exact g5
  unfold rk_AOA
  simp only [Cond.before, Cond.holds, Cond.value, beq_iff_eq]
  rw [e2, Option.bind_some]
  refine (congrArg (fun o : Option Nat => o.bind (fun c => (U.vm.classes[c]?).map (fun (k : Class) => match k.kind with | .array _ ty => decide (ty = FieldType.array .int) && decide (U.vm.findClass ("[" ++ (FieldType.array .int).toString) = some c) | _ => false))) hi).trans ?_
  simp [hk', e1, e3]
/-- what else is known: the frozen arrays' links, and that strings may be of bytes -/
def rk_XN (w : rk_W) (U : State) : Prop := (∀ q ∈ rk_nestF, va_Nw (.fieldLinkNest q.1 q.2.1 "RopeWalk" q.2.2 "[I" "RopeWalk") U) ∧ True ∧ True ∧ rk_AOA U
def rk_KN (w : rk_W) (U : State) : Prop :=
  va_K w.1 vwCl (rk_tys w) U ∧ (∀ i, i < 6 → va_X (rk_fz w i).1 (rk_fz w i).2.1 (rk_fz w i).2.2 U U.heap ∧ (rk_fz w i).1 < w.2.2.1) ∧
  ((∀ i, i < 5 → va_Z "RopeWalk" (rk_snm.getD i "") "[I" (.ref (rk_fz w i).1) (rk_A w) U U.heap) ∧ rk_XN w U) ∧
  (∀ q ∈ rk_nest, va_Nw (.methodLinkNest q.1 q.2.1 q.2.2.1 q.2.2.2) U) ∧
  True ∧ True ∧
  (∀ C ∈ [RX2, RX4, RX7, RX9], va_AO C U) ∧ 0 < w.2.2.1 ∧ w.2.2.1 ≤ U.heap.size
theorem rk_KN.call {w : rk_W} {s U : State} {H : Heap} {locs : List Loc} (h : rk_KN w s) (hS : va_S (rk_A w) s.heap H locs) (hU : U.heap = H) (hW : s.WarmedH U.vm) : rk_KN w U := by
  obtain ⟨h1, h2, h3, h4, h5, h6, h7, h8, h9⟩ := h
  have hq : ∀ a : Nat, a < s.heap.size → ¬ rk_A w a → U.heap[a]? = s.heap[a]? := fun a g1 g2 => by rw [hU]; exact hS.2.1 a g1 g2
  refine ⟨h1.moved hW.alike, fun i hi => ⟨((h2 i hi).1.kept (hq _ ?_ ?_)).moved hW.alike, (h2 i hi).2⟩, ⟨fun i hi => ((h3.1 i hi).moved hW.alike).kept hq, ⟨fun q hq => va_Nw.warmF hW (h3.2.1 q hq), trivial, trivial, h3.2.2.2.2.moved hW.alike⟩⟩, fun q hq => va_Nw.warmM hW (h4 q hq), trivial, trivial, fun C hC => (h7 C hC).moved hW.alike, h8, ?_⟩
  · exact Nat.lt_of_lt_of_le (h2 i hi).2 h9
  · exact Nat.not_le.mpr (h2 i hi).2
  · rw [hU]; exact Nat.le_trans h9 hS.1
/-- a method: its name, bytes, locals, the type that it returns -/
abbrev rk_M : Type := MethodName × ByteArray × Nat × Option FieldType
abbrev rk_ws (M : rk_M) : List Cond := Cond.code M.1 M.2.1 M.2.2.1 M.2.2.2 :: rk_tbl
abbrev rk_rm (d mc ms : Nat) : Room := { frames := d, cells := mc, slots := ms, locals := 42 * d - 4 }
def rk_Cx (w : rk_W) (M : rk_M) (d mc ms : Nat) (p : Program) (Rm : Room) (s : State) (m : MethodId) (args : Array Value) (meth : Method) (c : Code) : Prop :=
  p.tables.exec = Jvm.exec ∧ c.code = M.2.1 ∧ meth.sig.returnType = M.2.2.2 ∧ c.maxLocals = M.2.2.1 ∧ s.vm.findClass M.1.cls = some m.cls ∧ (∀ q ∈ rk_tbl, q.before args s = true) ∧ meth.locks = false ∧ meth.name = M.1.name ∧ rk_KN w s ∧ d ≤ Rm.frames ∧ 42 * d - 4 ≤ Rm.locals ∧ mc ≤ Rm.cells ∧ ms ≤ Rm.slots
abbrev rk_ms (w : rk_W) (ls : List (Nat × rk_V)) : List (Nat × Value) := ls.map (fun q => (q.1, rk_v w q.2))
abbrev rk_Z : Type := rk_Sh × Nat × Nat
/-- the judgement: from here, with these locals, stack and heap, the machine comes to the goal -/
def rk_Wp (w : rk_W) (l : Launch) (M : rk_M) (d mc ms : Nat) (G : List Frame → Array Value → State → State → Prop) (pc : Nat) (ls : List (Nat × rk_V)) (st : List rk_V) (Z : rk_Z) (I : rk_Mm) (R : rk_Rm) : Prop :=
  ∀ (p : Program) (e : Env) (Rm : Room) (s : State) (m : MethodId) (args : Array Value) (below : List Frame) (meth : Method) (c : Code) (H : Heap) (locs : List Loc) (la : Array Slot),
    rk_Cx w M d mc ms p Rm s m args meth c → rk_oks w Z.1.2 st → rk_oks w Z.1.2 (ls.map (fun q => q.2)) → rk_HR w Z.1 I R H → va_S (rk_A w) s.heap H locs → lv_has la M.2.2.1 (rk_ms w ls) → W p l e Rm s m args below meth c H locs Z.2.1 Z.2.2 (G below args s) (F0 m pc la (st.map (rk_v w)))
theorem rk_oc {w : rk_W} {kd : Nat → Nat} {v : rk_V} {st : List rk_V} (h : rk_ok w kd v) (hs : rk_oks w kd st) : rk_oks w kd (v :: st) := fun x hx => (List.mem_cons.mp hx).elim (fun e => e ▸ h) (hs x)
theorem rk_ot {w : rk_W} {kd : Nat → Nat} {v : rk_V} {st : List rk_V} (hs : rk_oks w kd (v :: st)) : rk_oks w kd st := fun x hx => hs x (List.mem_cons_of_mem _ hx)
theorem rk_oh {w : rk_W} {kd : Nat → Nat} {v : rk_V} {st : List rk_V} (hs : rk_oks w kd (v :: st)) : rk_ok w kd v := hs v List.mem_cons_self
/-- a local, by its number -/
def rk_lk (i : Nat) : List (Nat × rk_V) → Option rk_V
  | [] => none
  | q :: t => bif Nat.beq q.1 i then some q.2 else rk_lk i t
def rk_is2 : rk_V → Bool
  | .inr (.inl _) => true
  | _ => false
/-- a store of one slot -/
def rk_rm1 (i : Nat) : List (Nat × rk_V) → List (Nat × rk_V)
  | [] => []
  | q :: t => bif (Nat.beq q.1 i || (Nat.beq (q.1 + 1) i && rk_is2 q.2)) then rk_rm1 i t else q :: rk_rm1 i t
def rk_rm2 (i : Nat) : List (Nat × rk_V) → List (Nat × rk_V)
  | [] => []
  | q :: t => bif (Nat.beq q.1 i || (Nat.beq q.1 (i + 1) || (Nat.beq (q.1 + 1) i && rk_is2 q.2))) then rk_rm2 i t else q :: rk_rm2 i t
theorem rk_lk_mem {i : Nat} {v : rk_V} : ∀ {ls : List (Nat × rk_V)}, rk_lk i ls = some v → (i, v) ∈ ls
  | [], h => by cases h
  | q :: t, h => by
    simp only [rk_lk] at h
    cases hb : Nat.beq q.1 i with
    | true =>
      rw [hb] at h
      have e1 : q.1 = i := Nat.eq_of_beq_eq_true hb
      have e2 : q.2 = v := Option.some.inj h
      rw [← e1, ← e2]
      exact List.mem_cons_self
    | false =>
      rw [hb] at h
      exact List.mem_cons_of_mem _ (rk_lk_mem h)
theorem rk_lv {w : rk_W} {la : Array Slot} {n i : Nat} {v : rk_V} {ls : List (Nat × rk_V)} (h : lv_has la n (rk_ms w ls)) (hl : rk_lk i ls = some v) : la[i]? = some (.val (rk_v w v)) := h.2.2 (i, rk_v w v) (List.mem_map.mpr ⟨(i, v), rk_lk_mem hl, rfl⟩)
theorem rk_lo {w : rk_W} {kd : Nat → Nat} {i : Nat} {v : rk_V} {ls : List (Nat × rk_V)} (h : rk_oks w kd (ls.map (fun q => q.2))) (hl : rk_lk i ls = some v) : rk_ok w kd v := h v (List.mem_map.mpr ⟨(i, v), rk_lk_mem hl, rfl⟩)
theorem rk_is2_cat (w : rk_W) (v : rk_V) : ((rk_v w v).category == 2) = rk_is2 v := by
  rcases v with x | x | x | x <;> rfl
theorem rk_beq (a b : Nat) : (a == b) = Nat.beq a b := by
  cases h : Nat.beq a b with
  | true => simp [Nat.eq_of_beq_eq_true h]
  | false => simp [Nat.ne_of_beq_eq_false h]
theorem rk_rm1_map (w : rk_W) (i : Nat) : ∀ ls : List (Nat × rk_V), (rk_ms w ls).filter (fun q => !(q.1 == i) && !(q.1 + 1 == i && q.2.category == 2)) = rk_ms w (rk_rm1 i ls)
  | [] => rfl
  | q :: t => by
    have ih := rk_rm1_map w i t
    simp only [rk_ms, List.map_cons, rk_rm1, List.filter_cons, rk_is2_cat] at ih ⊢
    rw [ih]
    rw [rk_beq q.1 i, rk_beq (q.1 + 1) i]
    cases Nat.beq q.1 i <;> cases Nat.beq (q.1 + 1) i <;> cases rk_is2 q.2 <;> rfl
theorem rk_rm2_map (w : rk_W) (i : Nat) : ∀ ls : List (Nat × rk_V), (rk_ms w ls).filter (fun q => !(q.1 == i) && (!(q.1 == i + 1) && !(q.1 + 1 == i && q.2.category == 2))) = rk_ms w (rk_rm2 i ls)
  | [] => rfl
  | q :: t => by
    have ih := rk_rm2_map w i t
    simp only [rk_ms, List.map_cons, rk_rm2, List.filter_cons, rk_is2_cat] at ih ⊢
    rw [ih]
    rw [rk_beq q.1 i, rk_beq (q.1 + 1) i, rk_beq q.1 (i + 1)]
    cases Nat.beq q.1 i <;> cases Nat.beq (q.1 + 1) i <;> cases Nat.beq q.1 (i + 1) <;> cases rk_is2 q.2 <;> rfl
theorem rk_rm1_ok {w : rk_W} {kd : Nat → Nat} {i : Nat} : ∀ {ls : List (Nat × rk_V)}, rk_oks w kd (ls.map (fun q => q.2)) → rk_oks w kd ((rk_rm1 i ls).map (fun q => q.2))
  | [], h => h
  | q :: t, h => by
    have ih := rk_rm1_ok (i := i) (rk_ot h)
    simp only [rk_rm1]
    cases (Nat.beq q.1 i || (Nat.beq (q.1 + 1) i && rk_is2 q.2)) with
    | true => exact ih
    | false => exact rk_oc (rk_oh h) ih
theorem rk_rm2_ok {w : rk_W} {kd : Nat → Nat} {i : Nat} : ∀ {ls : List (Nat × rk_V)}, rk_oks w kd (ls.map (fun q => q.2)) → rk_oks w kd ((rk_rm2 i ls).map (fun q => q.2))
  | [], h => h
  | q :: t, h => by
    have ih := rk_rm2_ok (i := i) (rk_ot h)
    simp only [rk_rm2]
    cases (Nat.beq q.1 i || (Nat.beq q.1 (i + 1) || (Nat.beq (q.1 + 1) i && rk_is2 q.2))) with
    | true => exact ih
    | false => exact rk_oc (rk_oh h) ih
