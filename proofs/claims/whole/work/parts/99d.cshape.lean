section DL0
variable {w : rk_W} {l : Launch} {M : rk_M} {d mc ms : Nat} {G : List Frame → Array Value → State → State → Prop} {pc : Nat} {ls : List (Nat × rk_V)} {st : List rk_V} {Z : rk_Z} {I : rk_Mm} {R : rk_Rm}
theorem rk_ldcS (j : Nat) {idx : Nat} {tx : String} (hd : decode M.2.1 pc = .ok (.ldc idx, 2)) (hj : (rk_strs[j]?, M.1.cls) = (some (idx, tx), RX5)) (kk : rk_Wp w l M d mc ms G (pc + 2) ls (rk_t j :: st) Z I R) : rk_Wp w l M d mc ms G pc ls st Z I R := by
  intro p e Rm s m args below meth cd H locs la C a1 a2 a3 a4 a5
  have hKN := C.2.2.2.2.2.2.2.2.1
  have h1 := congrArg Prod.fst hj
  have h2 : M.1.cls = RX5 := congrArg Prod.snd hj
  have hf := C.2.2.2.2.1
  rw [h2] at hf
  exact va_ldcS C.1 C.2.1 hf (hKN.2.2.2.2.1 j (idx, tx) h1) hd (kk p e Rm s m args below meth cd H locs la C (rk_oc (show j < 5 from (List.getElem?_eq_some_iff.mp h1).1) a1) a2 a3 a4 a5)
end DL0
section DL
variable {w : rk_W} {l : Launch} {Sh : rk_Sh} {I : rk_Mm} {R : rk_Rm}
/-- the parts of a job, one after another: the place and whether one failed, how many numbers, the numbers -/
noncomputable def cr_run (P : Nat → Int32) (L : Nat) : List Int32 → Nat → Nat → (Nat → Int32) → (Nat × Bool) × Nat × (Nat → Int32)
  | [], t, fd, A => ((t, false), fd, A)
  | c :: cs, t, fd, A => if (cr_p P L c (t, false)).1.2 = true then ((cr_p P L c (t, false)).1, fd, A) else cr_run P L cs (cr_p P L c (t, false)).1.1 (if cr_kp c = true then fd + 1 else fd) (if cr_kp c = true then sp_u A fd (cr_p P L c (t, false)).2 else A)
noncomputable def cr_st (P : Nat → Int32) (L : Nat) : List Int32 → Nat × Bool → Nat × Bool
  | [], s => s
  | c :: cs, s => cr_st P L cs (cr_p P L c s).1
noncomputable def cr_vs (P : Nat → Int32) (L : Nat) : List Int32 → Nat × Bool → List Int32
  | [], _ => []
  | c :: cs, s => if cr_kp c = true then (cr_p P L c s).2 :: cr_vs P L cs (cr_p P L c s).1 else cr_vs P L cs (cr_p P L c s).1
theorem cr_stw {P : Nat → Int32} {L : Nat} : ∀ (cs : List Int32) (s : Nat × Bool), s.2 = true → cr_st P L cs s = s := by
  intro cs
  induction cs with
  | nil => intro s _; rfl
  | cons c cs ih =>
    intro s h
    show cr_st P L cs (cr_p P L c s).1 = s
    rw [cr_pw h]
    exact ih s h
theorem cr_run_s {P : Nat → Int32} {L : Nat} : ∀ (cs : List Int32) (t fd : Nat) (A : Nat → Int32), (cr_run P L cs t fd A).1 = cr_st P L cs (t, false) ∧ ((cr_st P L cs (t, false)).2 = false → (∀ i, i < fd → (cr_run P L cs t fd A).2.2 i = A i) ∧ ∀ j, j < (cr_vs P L cs (t, false)).length → (cr_run P L cs t fd A).2.2 (fd + j) = (cr_vs P L cs (t, false)).getD j 0) := by
  intro cs
  induction cs with
  | nil => intro t fd A; exact ⟨rfl, fun _ => ⟨fun i _ => rfl, fun j h => absurd h (Nat.not_lt_zero j)⟩⟩
  | cons c cs ih =>
    intro t fd A
    show (if (cr_p P L c (t, false)).1.2 = true then ((cr_p P L c (t, false)).1, fd, A) else cr_run P L cs (cr_p P L c (t, false)).1.1 (if cr_kp c = true then fd + 1 else fd) (if cr_kp c = true then sp_u A fd (cr_p P L c (t, false)).2 else A)).1 = cr_st P L cs (cr_p P L c (t, false)).1 ∧ _
    by_cases hw : (cr_p P L c (t, false)).1.2 = true
    · have e := cr_stw (P := P) (L := L) cs _ hw
      refine ⟨by rw [if_pos hw, e], fun z => ?_⟩
      have z2 : (cr_st P L cs (cr_p P L c (t, false)).1).2 = false := z
      rw [e, hw] at z2
      cases z2
    · have hf : (cr_p P L c (t, false)).1 = ((cr_p P L c (t, false)).1.1, false) := Prod.ext rfl (by cases hh : (cr_p P L c (t, false)).1.2 with | false => rfl | true => exact absurd hh hw)
      have eR : cr_run P L (c :: cs) t fd A = cr_run P L cs (cr_p P L c (t, false)).1.1 (if cr_kp c = true then fd + 1 else fd) (if cr_kp c = true then sp_u A fd (cr_p P L c (t, false)).2 else A) := if_neg hw
      have eS : cr_st P L (c :: cs) (t, false) = cr_st P L cs ((cr_p P L c (t, false)).1.1, false) := by rw [← hf]; rfl
      rw [if_neg hw]
      by_cases hk : cr_kp c = true
      · have eV : cr_vs P L (c :: cs) (t, false) = (cr_p P L c (t, false)).2 :: cr_vs P L cs ((cr_p P L c (t, false)).1.1, false) := by rw [← hf]; exact if_pos hk
        rw [eR, eS, eV, if_pos hk, if_pos hk]
        obtain ⟨g1, g2⟩ := ih (cr_p P L c (t, false)).1.1 (fd + 1) (sp_u A fd (cr_p P L c (t, false)).2)
        refine ⟨by rw [g1, ← hf], fun z => ?_⟩
        obtain ⟨g3, g4⟩ := g2 z
        refine ⟨fun i hi => by rw [g3 i (by omega), sp_un (by omega)], fun j hj => ?_⟩
        cases j with
        | zero => exact (g3 fd (by omega)).trans sp_us
        | succ j =>
          have hj2 : j < (cr_vs P L cs ((cr_p P L c (t, false)).1.1, false)).length := by simp only [List.length_cons] at hj; omega
          have g5 := g4 j hj2
          rw [show fd + 1 + j = fd + (j + 1) by omega] at g5
          rw [g5]
          rfl
      · have eV : cr_vs P L (c :: cs) (t, false) = cr_vs P L cs ((cr_p P L c (t, false)).1.1, false) := by rw [← hf]; exact if_neg hk
        rw [eR, eS, eV, if_neg hk, if_neg hk]
        obtain ⟨g1, g2⟩ := ih (cr_p P L c (t, false)).1.1 fd A
        exact ⟨by rw [g1, ← hf], g2⟩
/-- which text says what follows a letter -/
def cr_sh (kd : Int32) : Nat := if kd = 121 then 0 else if kd = 108 then 1 else if kd = 106 then 2 else if kd = 116 ∨ kd = 102 ∨ kd = 100 then 3 else 4
def cr_tx (kd : Int32) : List Int32 := rk_sbyt.getD (cr_sh kd) []
theorem cr_sh5 {kd : Int32} : cr_sh kd < 5 := by
  unfold cr_sh
  repeat (first | decide | split)
theorem cr_sh0 {kd : Int32} : rk_slen.getD (cr_sh kd) 0 = 0 ↔ ¬ pk6 kd := by
  unfold cr_sh pk6
  by_cases h1 : kd = 121
  · simp [h1, rk_slen]
  · by_cases h2 : kd = 108
    · simp [h2, rk_slen]
    · by_cases h3 : kd = 106
      · simp [h3, rk_slen]
      · by_cases h4 : kd = 116 ∨ kd = 102 ∨ kd = 100
        · rw [if_neg h1, if_neg h2, if_neg h3, if_pos h4]
          simp only [h4, or_true, not_true, iff_false]
          decide
        · rw [if_neg h1, if_neg h2, if_neg h3, if_neg h4]
          simp only [h1, h2, h3, h4, or_false, not_false_iff, iff_true]
          rfl
theorem cr_po {P : Nat → Int32} {L b : Nat} {kd : Int32} {s : Nat × Bool} {J : Nat → Int32} (h : pk6 kd) : cr_st P L (cr_tx kd) s = (po P L kd s J b).1 ∧ ∀ j, j < (cr_vs P L (cr_tx kd) s).length → (po P L kd s J b).2 (b + 1 + j) = (cr_vs P L (cr_tx kd) s).getD j 0 := by
  have hN : ∀ s, cr_p P L 78 s = pN P L s := fun s => rfl
  have hF : ∀ s, cr_p P L 70 s = pd P L 0 2 s := fun s => rfl
  have hS : ∀ s, cr_p P L 83 s = pd P L 3 4 s := fun s => rfl
  have h43 : ∀ s, cr_p P L 43 s = (pn P L 43 s, 0) := fun s => rfl
  have h58 : ∀ s, cr_p P L 58 s = (pn P L 58 s, 0) := fun s => rfl
  have h120 : ∀ s, cr_p P L 120 s = (pn P L 120 s, 0) := fun s => rfl
  have h61 : ∀ s, cr_p P L 61 s = (pn P L 61 s, 0) := fun s => rfl
  have h38 : ∀ s, cr_p P L 38 s = (pn P L 38 s, 0) := fun s => rfl
  have k1 : cr_kp 70 = true ∧ cr_kp 83 = true ∧ cr_kp 78 = true ∧ cr_kp 43 = false ∧ cr_kp 58 = false ∧ cr_kp 120 = false ∧ cr_kp 61 = false ∧ cr_kp 38 = false := by decide
  obtain ⟨k70, k83, k78, k43, k58, k120, k61, k38⟩ := k1
  have one : ∀ kd : Int32, cr_tx kd = [78] → ¬ kd = 106 → ¬ kd = 108 → ¬ kd = 121 → cr_st P L (cr_tx kd) s = (po P L kd s J b).1 ∧ ∀ j, j < (cr_vs P L (cr_tx kd) s).length → (po P L kd s J b).2 (b + 1 + j) = (cr_vs P L (cr_tx kd) s).getD j 0 := by
    intro kd e e1 e2 e3
    rw [e]
    unfold po
    rw [if_neg e1, if_neg e2, if_neg e3]
    simp only [cr_st, cr_vs, hN, k78, if_true]
    refine ⟨trivial, fun j hj => ?_⟩
    obtain rfl : j = 0 := by simp only [List.length_cons, List.length_nil] at hj; omega
    exact sp_us
  rcases h with h | h | h | h | h | h
  · subst h
    rw [show cr_tx 121 = [70, 43, 78] from by decide]
    unfold po
    rw [if_neg (by decide), if_neg (by decide), if_pos rfl]
    simp only [cr_st, cr_vs, hN, hF, h43, k70, k43, k78, if_true]
    refine ⟨trivial, fun j hj => ?_⟩
    have hj2 : j = 0 ∨ j = 1 := by simp at hj; omega
    rcases hj2 with rfl | rfl
    · rw [sp_un (by omega)]; exact sp_us
    · exact sp_us
  · subst h
    rw [show cr_tx 108 = [70, 58, 83, 120, 78, 61, 78] from by decide]
    unfold po
    rw [if_neg (by decide), if_pos rfl]
    simp only [cr_st, cr_vs, hN, hF, hS, h58, h120, h61, k70, k58, k83, k120, k61, k78, if_true]
    refine ⟨trivial, fun j hj => ?_⟩
    have hj2 : j = 0 ∨ j = 1 ∨ j = 2 ∨ j = 3 := by simp at hj; omega
    rcases hj2 with rfl | rfl | rfl | rfl
    · rw [sp_un (by omega), sp_un (by omega), sp_un (by omega)]; exact sp_us
    · rw [sp_un (by omega), sp_un (by omega)]; exact sp_us
    · rw [sp_un (by omega)]; exact sp_us
    · exact sp_us
  · subst h
    rw [show cr_tx 106 = [78, 38, 78] from by decide]
    unfold po
    rw [if_pos rfl]
    simp only [cr_st, cr_vs, hN, h38, k38, k78, if_true]
    refine ⟨trivial, fun j hj => ?_⟩
    have hj2 : j = 0 ∨ j = 1 := by simp at hj; omega
    rcases hj2 with rfl | rfl
    · rw [sp_un (by omega)]; exact sp_us
    · exact sp_us
  · subst h; exact one _ (by decide) (by decide) (by decide) (by decide)
  · subst h; exact one _ (by decide) (by decide) (by decide) (by decide)
  · subst h; exact one _ (by decide) (by decide) (by decide) (by decide)
theorem dr_c {α : Type} {q : List α} {k : Nat} {x : α} (h : k < q.length) : q.drop k = q.getD k x :: q.drop (k + 1) := by
  rw [List.drop_eq_getElem_cons h]
  simp [h]
theorem cX5_shapeOf_s (kd : Int32) : rk_X w l rk_mX5_shapeOf 1 [rk_i kd] Sh I R (fun i => i = cr_sh kd) := by
  refine rk_bX (ls := [(0, _)]) (by decide) rfl (Nat.le_of_ble_eq_true rfl) ?_
  refine rk_iload_n 0 dX5_shapeOf_0 rfl rfl ?_
  refine rk_lsw 78 dX5_shapeOf_1 (by decide) (by decide) (by decide) ?_ (fun qz1 => ?_)
  · refine ⟨fun qz1 => ?_, fun qz1 => ?_, fun qz1 => ?_, fun qz1 => ?_, fun qz1 => ?_, fun qz1 => ?_, trivial⟩
    · skip
      have hw : kd = 100 := rk_toI qz1 (by decide)
      refine rk_pc (pc' := 75) (by decide) ?_
      refine rk_ldcS 3 dX5_shapeOf_75 rfl ?_
      refine rk_aretX dX5_shapeOf_77 rfl ?_
      first | (subst hw; rfl) | (have n1 : ∀ v : Int32, (v = 100 ∨ v = 102 ∨ v = 106 ∨ v = 108 ∨ v = 116 ∨ v = 121) → ¬ kd = v := fun v hv z => (by rw [z] at qz1; rcases hv with hv | hv | hv | hv | hv | hv <;> (subst hv; exact absurd qz1 (by decide))); unfold cr_sh; rw [if_neg (n1 121 (by decide)), if_neg (n1 108 (by decide)), if_neg (n1 106 (by decide)), if_neg (fun z => z.elim (n1 116 (by decide)) (fun z => z.elim (n1 102 (by decide)) (n1 100 (by decide))))])
    · skip
      have hw : kd = 102 := rk_toI qz1 (by decide)
      refine rk_pc (pc' := 72) (by decide) ?_
      refine rk_ldcS 3 dX5_shapeOf_72 rfl ?_
      refine rk_aretX dX5_shapeOf_74 rfl ?_
      first | (subst hw; rfl) | (have n1 : ∀ v : Int32, (v = 100 ∨ v = 102 ∨ v = 106 ∨ v = 108 ∨ v = 116 ∨ v = 121) → ¬ kd = v := fun v hv z => (by rw [z] at qz1; rcases hv with hv | hv | hv | hv | hv | hv <;> (subst hv; exact absurd qz1 (by decide))); unfold cr_sh; rw [if_neg (n1 121 (by decide)), if_neg (n1 108 (by decide)), if_neg (n1 106 (by decide)), if_neg (fun z => z.elim (n1 116 (by decide)) (fun z => z.elim (n1 102 (by decide)) (n1 100 (by decide))))])
    · skip
      have hw : kd = 106 := rk_toI qz1 (by decide)
      refine rk_pc (pc' := 66) (by decide) ?_
      refine rk_ldcS 2 dX5_shapeOf_66 rfl ?_
      refine rk_aretX dX5_shapeOf_68 rfl ?_
      first | (subst hw; rfl) | (have n1 : ∀ v : Int32, (v = 100 ∨ v = 102 ∨ v = 106 ∨ v = 108 ∨ v = 116 ∨ v = 121) → ¬ kd = v := fun v hv z => (by rw [z] at qz1; rcases hv with hv | hv | hv | hv | hv | hv <;> (subst hv; exact absurd qz1 (by decide))); unfold cr_sh; rw [if_neg (n1 121 (by decide)), if_neg (n1 108 (by decide)), if_neg (n1 106 (by decide)), if_neg (fun z => z.elim (n1 116 (by decide)) (fun z => z.elim (n1 102 (by decide)) (n1 100 (by decide))))])
    · skip
      have hw : kd = 108 := rk_toI qz1 (by decide)
      refine rk_pc (pc' := 63) (by decide) ?_
      refine rk_ldcS 1 dX5_shapeOf_63 rfl ?_
      refine rk_aretX dX5_shapeOf_65 rfl ?_
      first | (subst hw; rfl) | (have n1 : ∀ v : Int32, (v = 100 ∨ v = 102 ∨ v = 106 ∨ v = 108 ∨ v = 116 ∨ v = 121) → ¬ kd = v := fun v hv z => (by rw [z] at qz1; rcases hv with hv | hv | hv | hv | hv | hv <;> (subst hv; exact absurd qz1 (by decide))); unfold cr_sh; rw [if_neg (n1 121 (by decide)), if_neg (n1 108 (by decide)), if_neg (n1 106 (by decide)), if_neg (fun z => z.elim (n1 116 (by decide)) (fun z => z.elim (n1 102 (by decide)) (n1 100 (by decide))))])
    · skip
      have hw : kd = 116 := rk_toI qz1 (by decide)
      refine rk_pc (pc' := 69) (by decide) ?_
      refine rk_ldcS 3 dX5_shapeOf_69 rfl ?_
      refine rk_pc (pc' := 71) rfl ?_
      refine rk_aretX dX5_shapeOf_71 rfl ?_
      first | (subst hw; rfl) | (have n1 : ∀ v : Int32, (v = 100 ∨ v = 102 ∨ v = 106 ∨ v = 108 ∨ v = 116 ∨ v = 121) → ¬ kd = v := fun v hv z => (by rw [z] at qz1; rcases hv with hv | hv | hv | hv | hv | hv <;> (subst hv; exact absurd qz1 (by decide))); unfold cr_sh; rw [if_neg (n1 121 (by decide)), if_neg (n1 108 (by decide)), if_neg (n1 106 (by decide)), if_neg (fun z => z.elim (n1 116 (by decide)) (fun z => z.elim (n1 102 (by decide)) (n1 100 (by decide))))])
    · skip
      have hw : kd = 121 := rk_toI qz1 (by decide)
      refine rk_pc (pc' := 60) (by decide) ?_
      refine rk_ldcS 0 dX5_shapeOf_60 rfl ?_
      refine rk_aretX dX5_shapeOf_62 rfl ?_
      first | (subst hw; rfl) | (have n1 : ∀ v : Int32, (v = 100 ∨ v = 102 ∨ v = 106 ∨ v = 108 ∨ v = 116 ∨ v = 121) → ¬ kd = v := fun v hv z => (by rw [z] at qz1; rcases hv with hv | hv | hv | hv | hv | hv <;> (subst hv; exact absurd qz1 (by decide))); unfold cr_sh; rw [if_neg (n1 121 (by decide)), if_neg (n1 108 (by decide)), if_neg (n1 106 (by decide)), if_neg (fun z => z.elim (n1 116 (by decide)) (fun z => z.elim (n1 102 (by decide)) (n1 100 (by decide))))])
  · skip
    refine rk_ldcS 4 dX5_shapeOf_78 rfl ?_
    refine rk_aretX dX5_shapeOf_80 rfl ?_
    first | (subst hw; rfl) | (have n1 : ∀ v : Int32, (v = 100 ∨ v = 102 ∨ v = 106 ∨ v = 108 ∨ v = 116 ∨ v = 121) → ¬ kd = v := fun v hv z => (by rw [z] at qz1; rcases hv with hv | hv | hv | hv | hv | hv <;> (subst hv; exact absurd qz1 (by decide))); unfold cr_sh; rw [if_neg (n1 121 (by decide)), if_neg (n1 108 (by decide)), if_neg (n1 106 (by decide)), if_neg (fun z => z.elim (n1 116 (by decide)) (fun z => z.elim (n1 102 (by decide)) (n1 100 (by decide))))])
end DL

