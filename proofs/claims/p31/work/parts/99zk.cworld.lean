section FA
theorem rk_inL {q : Cond} (i : Nat) (h : tables_1[i]? = some q) : q ∈ lw_tbl := List.mem_append_right _ (List.mem_of_getElem? h)
theorem rk_Xof {args : Array Value} {s : State} {tm : Term} {N : Nat} {f : Nat → Int32} (hN : N < 2 ^ 31) (harr : (Cond.arrayOf tm .int).before args s = true) (hlen : (Cond.eq (.length tm) (.int (Int32.ofNat N))).before args s = true) (hel : ∀ j, j < N → (Cond.eq (.elem tm (.int (Int32.ofNat j))) (.int (f j))).before args s = true) : ∃ t : Nat, tm.eval args s none [] s = some (.ref t) ∧ va_X t N f s s.heap ∧ t < s.heap.size := by
  have hv := va_eqt hlen
  have hv2 := hv
  obtain ⟨t, cell, ht, hat, hv3⟩ := Term.length_spec hv2
  have hsz : cell.slots.size < 2 ^ 31 := by
    simp only [Term.eval, ht, hat, Option.bind_eq_bind, Option.bind_some] at hv
    by_cases hlt : cell.slots.size < 2147483648
    · exact hlt
    · simp [hlt] at hv
  obtain ⟨t2, ht2, cell2, h1, h2, h3, h4, h5, h6, h7⟩ := va_Tof (ty := .int) (f := fun j => .int (f j)) (A := fun _ => False) hN harr hv2 (fun j hj => va_eqt (hel j hj)) (fun _ _ h => h)
  cases ht.symm.trans ht2
  obtain ⟨hcell, -⟩ := State.arrayAt?_spec hat
  cases hcell.symm.trans h1
  have e : cell.slots.size = N := by
    have h8 : (cell.slots.size.toInt32).toNatClampNeg = N := by rw [h5]; exact Int32.toNatClampNeg_ofNat_of_lt hN
    have h9 : (cell.slots.size.toInt32).toNatClampNeg = cell.slots.size := Int32.toNatClampNeg_ofNat_of_lt hsz
    omega
  exact ⟨t, ht, ⟨cell, h1, h2, h3, e, h6⟩, (Array.getElem?_eq_some_iff.mp h1).1⟩
theorem rk_dCof {args : Array Value} {s : State} (hts : ∀ q ∈ rk_tbl, q.before args s = true) : ∀ k : Nat, ∃ z : ClassId × (Nat → Nat), ∀ q, vwCl[k]? = some q → u_Kn s q.1 q.2.1 q.2.2 z.1 z.2 := by
  intro k
  match k with
  | 0 => obtain ⟨c, i, h⟩ := u_known (C := RX0) (T := TX0) (N := 2) (n := 2) hts rk_u1 (hts _ (rk_inT 132 (by decide +kernel) (by decide +kernel))); exact ⟨(c, i), fun q hq => by cases hq; exact h⟩
  | 1 => obtain ⟨c, i, h⟩ := u_known (C := RX1) (T := TX1) (N := 2) (n := 2) hts rk_u2 (hts _ (rk_inT 224 (by decide +kernel) (by decide +kernel))); exact ⟨(c, i), fun q hq => by cases hq; exact h⟩
  | 2 => obtain ⟨c, i, h⟩ := u_known (C := RX2) (T := TX2) (N := 7) (n := 7) hts rk_u3 (hts _ (rk_inT 139 (by decide +kernel) (by decide +kernel))); exact ⟨(c, i), fun q hq => by cases hq; exact h⟩
  | 3 => obtain ⟨c, i, h⟩ := u_known (C := RX3) (T := TX3) (N := 2) (n := 2) hts rk_u4 (hts _ (rk_inT 247 (by decide +kernel) (by decide +kernel))); exact ⟨(c, i), fun q hq => by cases hq; exact h⟩
  | 4 => obtain ⟨c, i, h⟩ := u_known (C := RX4) (T := TX4) (N := 7) (n := 7) hts rk_u5 (hts _ (rk_inT 68 (by decide +kernel) (by decide +kernel))); exact ⟨(c, i), fun q hq => by cases hq; exact h⟩
  | 5 => obtain ⟨c, i, h⟩ := u_known (C := RX5) (T := TX5) (N := 5) (n := 5) hts rk_u6 (hts _ (rk_inT 241 (by decide +kernel) (by decide +kernel))); exact ⟨(c, i), fun q hq => by cases hq; exact h⟩
  | 6 => obtain ⟨c, i, h⟩ := u_known (C := RX6) (T := TX6) (N := 3) (n := 3) hts rk_u7 (hts _ (rk_inT 29 (by decide +kernel) (by decide +kernel))); exact ⟨(c, i), fun q hq => by cases hq; exact h⟩
  | 7 => obtain ⟨c, i, h⟩ := u_known (C := RX7) (T := TX7) (N := 3) (n := 3) hts rk_u8 (hts _ (rk_inT 59 (by decide +kernel) (by decide +kernel))); exact ⟨(c, i), fun q hq => by cases hq; exact h⟩
  | 8 => obtain ⟨c, i, h⟩ := u_known (C := RX8) (T := TX8) (N := 3) (n := 3) hts rk_u9 (hts _ (rk_inT 276 (by decide +kernel) (by decide +kernel))); exact ⟨(c, i), fun q hq => by cases hq; exact h⟩
  | 9 => obtain ⟨c, i, h⟩ := u_known (C := RX9) (T := TX9) (N := 8) (n := 8) hts rk_u10 (hts _ (rk_inT 23 (by decide +kernel) (by decide +kernel))); exact ⟨(c, i), fun q hq => by cases hq; exact h⟩
  | 10 => obtain ⟨c, i, h⟩ := u_known (C := RX10) (T := TX10) (N := 7) (n := 7) hts rk_u11 (hts _ (rk_inT 15 (by decide +kernel) (by decide +kernel))); exact ⟨(c, i), fun q hq => by cases hq; exact h⟩
  | k + 11 => exact ⟨(0, fun _ => 0), fun q hq => by simp [vwCl] at hq⟩
abbrev rk_tyL : List FieldType := [.int, .char, .boolean, .object RX2, .object RX4, .object RX7, .object RX9, .array .int]
theorem rk_tCof {args : Array Value} {s : State} (hts : ∀ q ∈ lw_tbl, q.before args s = true) : ∀ k : Nat, ∃ c : ClassId, ∀ ty, rk_tyL[k]? = some ty → ArrOfT s c ty ∧ va_RA s c ty := by
  intro k
  match k with
  | 0 => obtain ⟨c, kA, comp, h1, h2, h3⟩ := Cond.arrayClass_spec (args := args) (first := s) (o := none) (s := s) (idx := []) (type := .int) (hts _ (rk_inL 57 (by decide +kernel))); exact ⟨c, fun ty hty => by cases hty; exact ⟨fun n z => ⟨(fun k h => by cases h), kA, h2, comp, h3⟩, h1⟩⟩
  | 1 => obtain ⟨c, kA, comp, h1, h2, h3⟩ := Cond.arrayClass_spec (args := args) (first := s) (o := none) (s := s) (idx := []) (type := .char) (hts _ (rk_inL 260 (by decide +kernel))); exact ⟨c, fun ty hty => by cases hty; exact ⟨fun n z => ⟨(fun k h => by cases h), kA, h2, comp, h3⟩, h1⟩⟩
  | 2 => obtain ⟨c, kA, comp, h1, h2, h3⟩ := Cond.arrayClass_spec (args := args) (first := s) (o := none) (s := s) (idx := []) (type := .boolean) (hts _ (rk_inL 259 (by decide +kernel))); exact ⟨c, fun ty hty => by cases hty; exact ⟨fun n z => ⟨(fun k h => by cases h), kA, h2, comp, h3⟩, h1⟩⟩
  | 3 => obtain ⟨comp, c, kA, h1, h2, h3, h4, h5⟩ := Cond.arrayOver_spec (args := args) (first := s) (o := none) (s := s) (idx := []) (n := RX2) (hts _ (rk_inL 138 (by decide +kernel))); exact ⟨c, fun ty hty => by cases hty; exact ⟨fun n z => ⟨(fun k h => by cases h), kA, h3, comp, h4⟩, kA, comp, h3, h4, h1, h5⟩⟩
  | 4 => obtain ⟨comp, c, kA, h1, h2, h3, h4, h5⟩ := Cond.arrayOver_spec (args := args) (first := s) (o := none) (s := s) (idx := []) (n := RX4) (hts _ (rk_inL 65 (by decide +kernel))); exact ⟨c, fun ty hty => by cases hty; exact ⟨fun n z => ⟨(fun k h => by cases h), kA, h3, comp, h4⟩, kA, comp, h3, h4, h1, h5⟩⟩
  | 5 => obtain ⟨comp, c, kA, h1, h2, h3, h4, h5⟩ := Cond.arrayOver_spec (args := args) (first := s) (o := none) (s := s) (idx := []) (n := RX7) (hts _ (rk_inL 282 (by decide +kernel))); exact ⟨c, fun ty hty => by cases hty; exact ⟨fun n z => ⟨(fun k h => by cases h), kA, h3, comp, h4⟩, kA, comp, h3, h4, h1, h5⟩⟩
  | 6 => obtain ⟨comp, c, kA, h1, h2, h3, h4, h5⟩ := Cond.arrayOver_spec (args := args) (first := s) (o := none) (s := s) (idx := []) (n := RX9) (hts _ (rk_inL 230 (by decide +kernel))); exact ⟨c, fun ty hty => by cases hty; exact ⟨fun n z => ⟨(fun k h => by cases h), kA, h3, comp, h4⟩, kA, comp, h3, h4, h1, h5⟩⟩
  | 7 => obtain ⟨comp, c, kA, g1, g2, g3, g4, g5⟩ := rk_AOA_sp (u := s) (hts (.arrayOver (.array .int)) (rk_inL 67 (by decide +kernel))); exact ⟨c, fun ty hty => by cases hty; exact ⟨fun n z => ⟨(fun k h => by cases h), kA, g3, comp, g4⟩, g5⟩⟩
  | k + 8 => exact ⟨0, fun ty hty => by simp [rk_tyL] at hty⟩
abbrev rk_pre : Cond := Jvm.Cond.and given_1 narrow_1
theorem rk_fz0 {args : Array Value} {s : State} (h : rk_pre.before args s = true) : ∃ t : Nat, (Term.static "RopeWalk" "FIRST_SETTINGS" "[I").eval args s none [] s = some (.ref t) ∧ va_X t 10 (fun j : Nat => if j = 0 then (1000 : Int32) else if j = 1 then (30 : Int32) else if j = 2 then (12 : Int32) else if j = 3 then (15 : Int32) else if j = 4 then (6 : Int32) else if j = 5 then (5 : Int32) else if j = 6 then (10 : Int32) else if j = 7 then (12 : Int32) else if j = 8 then (100 : Int32) else 50) s s.heap ∧ t < s.heap.size := by
  have hs := flat_of_before _ h
  refine rk_Xof (tm := .static "RopeWalk" "FIRST_SETTINGS" "[I") (by decide) (hs _ (by decide +kernel)) (hs _ (by decide +kernel)) (fun j hj => hs _ ?_)
  exact (by decide +kernel : ∀ j, j < 10 → Cond.eq (.elem (.static "RopeWalk" "FIRST_SETTINGS" "[I") (.int (Int32.ofNat j))) (.int ((fun j : Nat => if j = 0 then (1000 : Int32) else if j = 1 then (30 : Int32) else if j = 2 then (12 : Int32) else if j = 3 then (15 : Int32) else if j = 4 then (6 : Int32) else if j = 5 then (5 : Int32) else if j = 6 then (10 : Int32) else if j = 7 then (12 : Int32) else if j = 8 then (100 : Int32) else 50) j)) ∈ flatC rk_pre) j hj
theorem rk_fz1 {args : Array Value} {s : State} (h : rk_pre.before args s = true) : ∃ t : Nat, (Term.static "RopeWalk" "LEAST_SETTINGS" "[I").eval args s none [] s = some (.ref t) ∧ va_X t 10 (sp_lst) s s.heap ∧ t < s.heap.size := by
  have hs := flat_of_before _ h
  refine rk_Xof (tm := .static "RopeWalk" "LEAST_SETTINGS" "[I") (by decide) (hs _ (by decide +kernel)) (hs _ (by decide +kernel)) (fun j hj => hs _ ?_)
  exact (by decide +kernel : ∀ j, j < 10 → Cond.eq (.elem (.static "RopeWalk" "LEAST_SETTINGS" "[I") (.int (Int32.ofNat j))) (.int ((sp_lst) j)) ∈ flatC rk_pre) j hj
theorem rk_fz2 {args : Array Value} {s : State} (h : rk_pre.before args s = true) : ∃ t : Nat, (Term.static "RopeWalk" "MOST_SETTINGS" "[I").eval args s none [] s = some (.ref t) ∧ va_X t 10 (sp_mst) s s.heap ∧ t < s.heap.size := by
  have hs := flat_of_before _ h
  refine rk_Xof (tm := .static "RopeWalk" "MOST_SETTINGS" "[I") (by decide) (hs _ (by decide +kernel)) (hs _ (by decide +kernel)) (fun j hj => hs _ ?_)
  exact (by decide +kernel : ∀ j, j < 10 → Cond.eq (.elem (.static "RopeWalk" "MOST_SETTINGS" "[I") (.int (Int32.ofNat j))) (.int ((sp_mst) j)) ∈ flatC rk_pre) j hj
theorem rk_fz3 {args : Array Value} {s : State} (h : rk_pre.before args s = true) : ∃ t : Nat, (Term.static "RopeWalk" "FIRST_STRENGTHS" "[I").eval args s none [] s = some (.ref t) ∧ va_X t 3 (fun j : Nat => if j = 0 then (60 : Int32) else if j = 1 then (45 : Int32) else 30) s s.heap ∧ t < s.heap.size := by
  have hs := flat_of_before _ h
  refine rk_Xof (tm := .static "RopeWalk" "FIRST_STRENGTHS" "[I") (by decide) (hs _ (by decide +kernel)) (hs _ (by decide +kernel)) (fun j hj => hs _ ?_)
  exact (by decide +kernel : ∀ j, j < 3 → Cond.eq (.elem (.static "RopeWalk" "FIRST_STRENGTHS" "[I") (.int (Int32.ofNat j))) (.int ((fun j : Nat => if j = 0 then (60 : Int32) else if j = 1 then (45 : Int32) else 30) j)) ∈ flatC rk_pre) j hj
theorem rk_fz4 {args : Array Value} {s : State} (h : rk_pre.before args s = true) : ∃ t : Nat, (Term.static "RopeWalk" "FIRST_TWISTS" "[I").eval args s none [] s = some (.ref t) ∧ va_X t 3 (fun j : Nat => if j = 0 then (32 : Int32) else if j = 1 then (28 : Int32) else 24) s s.heap ∧ t < s.heap.size := by
  have hs := flat_of_before _ h
  refine rk_Xof (tm := .static "RopeWalk" "FIRST_TWISTS" "[I") (by decide) (hs _ (by decide +kernel)) (hs _ (by decide +kernel)) (fun j hj => hs _ ?_)
  exact (by decide +kernel : ∀ j, j < 3 → Cond.eq (.elem (.static "RopeWalk" "FIRST_TWISTS" "[I") (.int (Int32.ofNat j))) (.int ((fun j : Nat => if j = 0 then (32 : Int32) else if j = 1 then (28 : Int32) else 24) j)) ∈ flatC rk_pre) j hj
theorem rk_nest_in : ∀ q ∈ rk_nest, Cond.methodLinkNest q.1 q.2.1 q.2.2.1 q.2.2.2 ∈ lw_tbl := by
  unfold rk_nest
  exact List.forall_mem_cons.mpr ⟨rk_inL 24 (by decide +kernel), List.forall_mem_cons.mpr ⟨rk_inL 69 (by decide +kernel), List.forall_mem_cons.mpr ⟨rk_inL 140 (by decide +kernel), List.forall_mem_cons.mpr ⟨rk_inL 231 (by decide +kernel), List.forall_mem_cons.mpr ⟨rk_inL 242 (by decide +kernel), List.forall_mem_cons.mpr ⟨rk_inL 248 (by decide +kernel), List.forall_mem_cons.mpr ⟨rk_inL 351 (by decide +kernel), List.forall_mem_cons.mpr ⟨rk_inL 431 (by decide +kernel), List.forall_mem_cons.mpr ⟨rk_inL 525 (by decide +kernel), List.forall_mem_cons.mpr ⟨rk_inL 412 (by decide +kernel), List.forall_mem_cons.mpr ⟨rk_inL 624 (by decide +kernel), fun _ h => absurd h List.not_mem_nil⟩⟩⟩⟩⟩⟩⟩⟩⟩⟩⟩
theorem rk_nestF_in : ∀ q ∈ rk_nestF, Cond.fieldLinkNest q.1 q.2.1 "RopeWalk" q.2.2 "[I" "RopeWalk" ∈ lw_tbl := by
  unfold rk_nestF
  exact List.forall_mem_cons.mpr ⟨rk_inL 34 (by decide +kernel), List.forall_mem_cons.mpr ⟨rk_inL 39 (by decide +kernel), List.forall_mem_cons.mpr ⟨rk_inL 41 (by decide +kernel), List.forall_mem_cons.mpr ⟨rk_inL 354 (by decide +kernel), List.forall_mem_cons.mpr ⟨rk_inL 356 (by decide +kernel), fun _ h => absurd h List.not_mem_nil⟩⟩⟩⟩⟩
/-- the world at the law's entry -/
theorem rk_world {s : State} {b L : Nat} {xs : Nat → Int32} (hts : ∀ q ∈ lw_tbl, q.before #[Value.ref b] s = true) (hX : va_X b L xs s s.heap) (hb : b < s.heap.size) (hg : rk_pre.before #[Value.ref b] s = true) : ∃ w : rk_W, cl_W w ∧ rk_KN w s ∧ w.2.2.1 = s.heap.size ∧ (rk_fz w 5).1 = b ∧ (rk_fz w 5).2.1 = L := by
  have hs := flat_of_before _ hg
  have htk : ∀ q ∈ rk_tbl, q.before #[Value.ref b] s = true := fun q h => hts q (List.mem_filter.mp h).1
  obtain ⟨D, hD⟩ := Classical.axiomOfChoice (rk_dCof htk)
  obtain ⟨T, hT⟩ := Classical.axiomOfChoice (rk_tCof hts)
  have hA : ∀ a : Nat, a < s.heap.size → ¬ (fun q : Nat => s.heap.size ≤ q) a := fun a h => Nat.not_le.mpr h
  obtain ⟨t0, e0, x0, l0⟩ := rk_fz0 hg
  obtain ⟨t1, e1, x1, l1⟩ := rk_fz1 hg
  obtain ⟨t2, e2, x2, l2⟩ := rk_fz2 hg
  obtain ⟨t3, e3, x3, l3⟩ := rk_fz3 hg
  obtain ⟨t4, e4, x4, l4⟩ := rk_fz4 hg
  refine ⟨((fun k => (D k).1, fun k => (D k).2), T, s.heap.size, (fun i => match i with | 0 => (t0, 10, fun j : Nat => if j = 0 then (1000 : Int32) else if j = 1 then (30 : Int32) else if j = 2 then (12 : Int32) else if j = 3 then (15 : Int32) else if j = 4 then (6 : Int32) else if j = 5 then (5 : Int32) else if j = 6 then (10 : Int32) else if j = 7 then (12 : Int32) else if j = 8 then (100 : Int32) else 50) | 1 => (t1, 10, sp_lst) | 2 => (t2, 10, sp_mst) | 3 => (t3, 3, fun j : Nat => if j = 0 then (60 : Int32) else if j = 1 then (45 : Int32) else 30) | 4 => (t4, 3, fun j : Nat => if j = 0 then (32 : Int32) else if j = 1 then (28 : Int32) else 24) | _ => (b, L, xs)), fun _ => 0, fun _ => 0), ?_, ⟨⟨?_, ?_⟩, ?_, ⟨?_, ?_, trivial, trivial, ?_⟩, ?_, trivial, trivial, ?_, Nat.lt_of_le_of_lt (Nat.zero_le _) hb, Nat.le_refl _⟩, rfl, rfl, rfl⟩
  · exact ⟨⟨rfl, fun j hj => rfl⟩, ⟨rfl, fun j hj => rfl⟩, ⟨rfl, fun j hj => rfl⟩, ⟨rfl, fun j hj => rfl⟩, ⟨rfl, fun j hj => rfl⟩⟩
  · exact fun c q hq => hD c q hq
  · intro k q hq
    match k, hq with
    | 0, hq => cases hq; exact hT 0 _ rfl
    | 1, hq => cases hq; exact hT 1 _ rfl
    | 2, hq => cases hq; exact hT 2 _ rfl
    | 3, hq => cases hq; exact hT 3 _ rfl
    | 4, hq => cases hq; exact hT 4 _ rfl
    | 5, hq => cases hq; exact hT 5 _ rfl
    | 6, hq => cases hq; exact hT 6 _ rfl
    | 7, hq => cases hq; exact hT 7 _ rfl
    | k + 8, hq => simp [rk_tys] at hq
  · intro i hi
    match i, hi with
    | 0, _ => exact ⟨x0, l0⟩
    | 1, _ => exact ⟨x1, l1⟩
    | 2, _ => exact ⟨x2, l2⟩
    | 3, _ => exact ⟨x3, l3⟩
    | 4, _ => exact ⟨x4, l4⟩
    | 5, _ => exact ⟨hX, hb⟩
    | i + 6, h => exact absurd h (by omega)
  · intro i hi
    match i, hi with
    | 0, _ => exact va_Zref (hts _ (rk_inL 35 (by decide +kernel))) (hts _ (rk_inL 1 (by decide +kernel))) e0 hA
    | 1, _ => exact va_Zref (hts _ (rk_inL 355 (by decide +kernel))) (hts _ (rk_inL 1 (by decide +kernel))) e1 hA
    | 2, _ => exact va_Zref (hts _ (rk_inL 357 (by decide +kernel))) (hts _ (rk_inL 1 (by decide +kernel))) e2 hA
    | 3, _ => exact va_Zref (hts _ (rk_inL 40 (by decide +kernel))) (hts _ (rk_inL 1 (by decide +kernel))) e3 hA
    | 4, _ => exact va_Zref (hts _ (rk_inL 42 (by decide +kernel))) (hts _ (rk_inL 1 (by decide +kernel))) e4 hA
    | i + 5, h => exact absurd h (by omega)
  · exact fun q hq => va_Nw.of rfl (hts _ (rk_nestF_in q hq))
  · exact hts (.arrayOver (.array .int)) (rk_inL 67 (by decide +kernel))
  · exact fun q hq => va_Nw.of rfl (hts _ (rk_nest_in q hq))
  · exact List.forall_mem_cons.mpr ⟨va_AO.of (hts _ (rk_inL 138 (by decide +kernel))), List.forall_mem_cons.mpr ⟨va_AO.of (hts _ (rk_inL 65 (by decide +kernel))), List.forall_mem_cons.mpr ⟨va_AO.of (hts _ (rk_inL 282 (by decide +kernel))), List.forall_mem_cons.mpr ⟨va_AO.of (hts _ (rk_inL 230 (by decide +kernel))), fun _ h => absurd h List.not_mem_nil⟩⟩⟩⟩
end FA
