section DK
variable {w : rk_W} {l : Launch} {Sh : rk_Sh} {I : rk_Mm} {R : rk_Rm}
/-- the reader's fields and its numbers -/
def rd_st (I : rk_Mm) (r a : Nat) (t kd fd : Int32) (A : Nat → Int32) : rk_Mm := md_a (md_a I 16 a A) 6 r (sp_u (sp_u (sp_u (I 6 r) 1 t) 2 kd) 4 fd)
theorem rd_r1 {r a : Nat} {t kd fd : Int32} {A : Nat → Int32} : rd_st I r a t kd fd A 6 r 1 = t := by rw [rd_st, md_as, sp_un (by decide), sp_un (by decide), sp_us]
theorem rd_r2 {r a : Nat} {t kd fd : Int32} {A : Nat → Int32} : rd_st I r a t kd fd A 6 r 2 = kd := by rw [rd_st, md_as, sp_un (by decide), sp_us]
theorem rd_r4 {r a : Nat} {t kd fd : Int32} {A : Nat → Int32} : rd_st I r a t kd fd A 6 r 4 = fd := by rw [rd_st, md_as, sp_us]
theorem rd_ra {r a : Nat} {t kd fd : Int32} {A : Nat → Int32} : rd_st I r a t kd fd A 16 a = A := by rw [rd_st, md_ac (by decide), md_as]
theorem rd_rc {r a c b : Nat} {t kd fd : Int32} {A : Nat → Int32} (h6 : c ≠ 6) (h : c ≠ 16) : rd_st I r a t kd fd A c b = I c b := by rw [rd_st, md_ac h6, md_ac h]
theorem rd_u1 {r a : Nat} {t kd fd v : Int32} {A : Nat → Int32} : rk_uI (rd_st I r a t kd fd A) 6 r 1 v = rd_st I r a v kd fd A := by
  simp only [rd_st]
  rw [md_u]
  congr 1
  funext j
  simp only [sp_u]
  by_cases h1 : j = 1
  · subst h1; simp
  · simp [h1]
theorem rd_u2 {r a : Nat} {t kd fd v : Int32} {A : Nat → Int32} : rk_uI (rd_st I r a t kd fd A) 6 r 2 v = rd_st I r a t v fd A := by
  simp only [rd_st]
  rw [md_u]
  congr 1
  funext j
  simp only [sp_u]
  by_cases h1 : j = 2
  · subst h1; simp
  · simp [h1]
theorem rd_u4 {r a : Nat} {t kd fd v : Int32} {A : Nat → Int32} : rk_uI (rd_st I r a t kd fd A) 6 r 4 v = rd_st I r a t kd v A := by
  simp only [rd_st]
  rw [md_u]
  congr 1
  funext j
  simp only [sp_u]
  by_cases h1 : j = 4
  · subst h1; simp
  · simp [h1]
theorem rd_ua {r a j : Nat} {t kd fd v : Int32} {A : Nat → Int32} : rk_uI (rd_st I r a t kd fd A) 16 a j v = rd_st I r a t kd fd (sp_u A j v) := by
  simp only [rd_st]
  rw [md_u1]
  funext c b i
  simp only [md_a, sp_u]
  by_cases h1 : c = 6 ∧ b = r
  · obtain ⟨rfl, rfl⟩ := h1; simp
  · by_cases h2 : c = 16 ∧ b = a
    · obtain ⟨rfl, rfl⟩ := h2; simp
    · simp [h1, h2]
theorem rd_i1 {r a : Nat} {v : Int32} : rk_uI I 6 r 1 v = rd_st I r a v (I 6 r 2) (I 6 r 4) (I 16 a) := by
  have e : I = rd_st I r a (I 6 r 1) (I 6 r 2) (I 6 r 4) (I 16 a) := by
    have e1 : sp_u (sp_u (sp_u (I 6 r) 1 (I 6 r 1)) 2 (I 6 r 2)) 4 (I 6 r 4) = I 6 r := by
      funext j
      simp only [sp_u]
      by_cases h1 : j = 4
      · simp [h1]
      · by_cases h2 : j = 2
        · simp [h2]
        · by_cases h3 : j = 1
          · simp [h3]
          · simp [h1, h2, h3]
    rw [rd_st, md_self, e1, md_self]
  conv => lhs; rw [e]
  rw [rd_u1]
theorem cr_iff {g : Int32} {lo hi : Nat} (hl : lo ≤ hi) (h : hi ≤ 9) : (nI lo ≤ g - 48 ∧ g - 48 ≤ nI hi) ↔ (nI (48 + lo) ≤ g ∧ g ≤ nI (48 + hi)) := by
  constructor
  · rintro ⟨h1, h2⟩
    obtain ⟨q, hq, e⟩ := rk_in_n (n := hi) rfl (by omega) ⟨Int32.le_trans (nI_pos' (by omega)) h1, h2⟩
    have hg : g = nI (48 + q) := by rw [← Int32.sub_add_cancel g 48, e, show (48 : Int32) = nI 48 from rfl, nI_add, Nat.add_comm]
    rw [e] at h1
    have hlq := (nI_leI (by omega) (by omega)).mp h1
    rw [hg]
    exact ⟨nI_le (by omega) (by omega), nI_le (by omega) (by omega)⟩
  · rintro ⟨h1, h2⟩
    obtain ⟨q, hq, e⟩ := rk_in_n (n := 48 + hi) rfl (by omega) ⟨Int32.le_trans (nI_pos' (by omega)) h1, h2⟩
    rw [e] at h1
    have hlq := (nI_leI (by omega) (by omega)).mp h1
    rw [e, show (48 : Int32) = nI 48 from rfl, pk_sub (by omega)]
    exact ⟨nI_le (by omega) (by omega), nI_le (by omega) (by omega)⟩
theorem pd_at {P : Nat → Int32} {L t lo hi : Nat} (hl : lo ≤ hi) (h : hi ≤ 9) : pd P L (nI lo) (nI hi) (t, false) = @ite _ (nI (48 + lo) ≤ pg P L t ∧ pg P L t ≤ nI (48 + hi)) (Classical.propDecidable _) ((t + 1, false), pg P L t - 48) ((t, true), 0) := by
  unfold pd
  by_cases hg : nI (48 + lo) ≤ pg P L t ∧ pg P L t ≤ nI (48 + hi)
  · rw [if_pos hg, if_pos ⟨rfl, (cr_iff hl h).mpr hg⟩]
  · rw [if_neg hg, if_neg (fun z => hg ((cr_iff hl h).mp z.2))]
def cr_cl (c : Int32) : Nat := if c = 70 then 0 else if c = 83 then 1 else if c = 78 then 2 else 3
/-- one part of a job: what is read at a place, and what number -/
noncomputable def cr_p (P : Nat → Int32) (L : Nat) (c : Int32) (s : Nat × Bool) : (Nat × Bool) × Int32 := if cr_cl c = 0 then pd P L 0 2 s else if cr_cl c = 1 then pd P L 3 4 s else if cr_cl c = 2 then pN P L s else (pn P L c s, 0)
def cr_kp (c : Int32) : Bool := decide (cr_cl c < 3)
theorem cr_pw {P : Nat → Int32} {L : Nat} {c : Int32} {s : Nat × Bool} (h : s.2 = true) : (cr_p P L c s).1 = s := by
  obtain ⟨t, b⟩ := s
  obtain rfl : b = true := h
  have hd : ∀ lo hi, pd P L lo hi (t, true) = ((t, true), 0) := fun lo hi => if_neg (fun z => by cases z.1)
  unfold cr_p
  split
  · rw [hd]
  · split
    · rw [hd]
    · split
      · unfold pN; rw [hd]; rfl
      · have e : pn P L c (t, true) = (t, true) := if_neg (fun z => by cases z.1)
        exact e
/-- a part that is not there leaves the place -/
theorem cr_pt {P : Nat → Int32} {L : Nat} {c : Int32} {t : Nat} (h : (cr_p P L c (t, false)).1.2 = true) : (cr_p P L c (t, false)).1.1 = t := by
  revert h
  have hd : ∀ lo hi, (pd P L lo hi (t, false)).1.2 = true → (pd P L lo hi (t, false)).1.1 = t := fun lo hi => by
    unfold pd; split
    · intro z; cases z
    · intro _; rfl
  unfold cr_p
  split
  · exact hd _ _
  · split
    · exact hd _ _
    · split
      · unfold pN
        split
        · exact hd _ _
        · intro z; cases z
      · unfold pn; split
        · intro z; cases z
        · intro _; rfl
theorem cr_le {P : Nat → Int32} {L : Nat} {c : Int32} {s : Nat × Bool} (hc : ¬ c = 0) (h : s.1 ≤ L) : (cr_p P L c s).1.1 ≤ L := by
  unfold cr_p
  split
  · exact ple_d (by decide) h
  · split
    · exact ple_d (by decide) h
    · split
      · exact ple_N h
      · exact ple_n hc h
/-- the answer of one part, and the reader behind it -/
def cr_q (I : rk_Mm) (r a : Nat) (kd : Int32) (A : Nat → Int32) (fd : Nat) (kp : Bool) (p : (Nat × Bool) × Int32) (x : Int32) (I' : rk_Mm) : Prop := x = (if p.1.2 = true then 0 else 1) ∧ I' = rd_st I r a (nI p.1.1) kd (nI (if kp = true ∧ p.1.2 = false then fd + 1 else fd)) (if kp = true ∧ p.1.2 = false then sp_u A fd p.2 else A)
theorem cr_qd {r a t fd : Nat} {kd : Int32} {A : Nat → Int32} {P : Nat → Int32} {L lo hi : Nat} {x : Int32} {I' : rk_Mm} (hl : lo ≤ hi) (hh : hi ≤ 9) (h : ((nI (48 + lo) ≤ pg P L t ∧ pg P L t ≤ nI (48 + hi)) ∧ x = 1 ∧ I' = rk_uI (rk_uI (rk_uI (rd_st I r a (nI t) kd (nI fd) A) 16 a fd (pg P L t - 48)) 6 r 4 (nI (fd + 1))) 6 r 1 (nI (t + 1))) ∨ (¬ (nI (48 + lo) ≤ pg P L t ∧ pg P L t ≤ nI (48 + hi)) ∧ x = 0 ∧ I' = rd_st I r a (nI t) kd (nI fd) A)) : cr_q I r a kd A fd true (pd P L (nI lo) (nI hi) (t, false)) x I' := by
  rw [pd_at hl hh]
  rcases h with ⟨h1, rfl, rfl⟩ | ⟨h1, rfl, rfl⟩
  · rw [if_pos h1, rd_ua, rd_u4, rd_u1]
    exact ⟨rfl, rfl⟩
  · rw [if_neg h1]
    exact ⟨rfl, rfl⟩
theorem cX5_readPart_r {r t L fd : Nat} {kd : Int32} {A : Nat → Int32} (hl : I 4 (R 6 r 0) 1 = nI L) (ht : t ≤ L) (hL : L ≤ 80) (hf : fd ≤ 3) (c : Int32) : ∃ Q0, rk_J w l rk_mX5_readPart 4 [rk_a 6 r, rk_i c] Sh (rd_st I r (R 6 r 3) (nI t) kd (nI fd) A) R Q0 ∧ ∀ x I' R', Q0 x I' R' → (R' = R ∧ cr_q I r (R 6 r 3) kd A fd (cr_kp c) (cr_p (I 15 (R 4 (R 6 r 0) 0)) L c (t, false)) x I') := by
  have h4 : rd_st I r (R 6 r 3) (nI t) kd (nI fd) A 4 (R 6 r 0) 1 = nI L := by rw [rd_rc (by decide) (by decide)]; exact hl
  have h15 : rd_st I r (R 6 r 3) (nI t) kd (nI fd) A 15 (R 4 (R 6 r 0) 0) = I 15 (R 4 (R 6 r 0) 0) := rd_rc (by decide) (by decide)
  by_cases c0 : c = 70
  · subst c0
    have k := cX5_readPart_F (w := w) (l := l) (Sh := Sh) (R := R) (rd_r1 (I := I) (a := R 6 r 3) (kd := kd) (fd := nI fd) (A := A)) h4 ht hL rd_r4 hf
    refine ⟨_, k, fun x I' R' h => ⟨h.1, ?_⟩⟩
    have h2 := h.2
    unfold cx_dig at h2
    rw [h15] at h2
    exact cr_qd (lo := 0) (hi := 2) (by decide) (by decide) h2
  · by_cases c1 : c = 83
    · subst c1
      have k := cX5_readPart_S (w := w) (l := l) (Sh := Sh) (R := R) (rd_r1 (I := I) (a := R 6 r 3) (kd := kd) (fd := nI fd) (A := A)) h4 ht hL rd_r4 hf
      refine ⟨_, k, fun x I' R' h => ⟨h.1, ?_⟩⟩
      have h2 := h.2
      unfold cx_dig at h2
      rw [h15] at h2
      exact cr_qd (lo := 3) (hi := 4) (by decide) (by decide) h2
    · by_cases c2 : c = 78
      · subst c2
        have k := cX5_readPart_N (w := w) (l := l) (Sh := Sh) (R := R) (rd_r1 (I := I) (a := R 6 r 3) (kd := kd) (fd := nI fd) (A := A)) h4 ht hL rd_r4 hf
        refine ⟨_, k, fun x I' R' h => ⟨h.1, ?_⟩⟩
        have h2 := h.2
        rw [h15] at h2
        show cr_q I r (R 6 r 3) kd A fd true (pN (I 15 (R 4 (R 6 r 0) 0)) L (t, false)) x I'
        have e := pd_at (P := I 15 (R 4 (R 6 r 0) 0)) (L := L) (t := t) (lo := 0) (hi := 9) (by decide) (by decide)
        rcases h2 with ⟨g1, rfl, rfl⟩ | ⟨d, hd, g1, rfl, rfl⟩
        · have e2 : pd (I 15 (R 4 (R 6 r 0) 0)) L 0 9 (t, false) = ((t, true), 0) := e.trans (if_neg g1)
          unfold pN
          rw [e2]
          exact ⟨rfl, rfl⟩
        · have g2 : nI (48 + 0) ≤ pg (I 15 (R 4 (R 6 r 0) 0)) L t ∧ pg (I 15 (R 4 (R 6 r 0) 0)) L t ≤ nI (48 + 9) := by
            rw [g1]; exact ⟨nI_le (by omega) (by omega), nI_le (by omega) (by omega)⟩
          have ed : pg (I 15 (R 4 (R 6 r 0) 0)) L t - 48 = nI d := by rw [g1, show (48 : Int32) = nI 48 from rfl, pk_sub (by omega)]; congr 1; omega
          have e2 : pd (I 15 (R 4 (R 6 r 0) 0)) L 0 9 (t, false) = ((t + 1, false), nI d) := by rw [← ed]; exact e.trans (if_pos g2)
          unfold pN
          rw [e2, if_neg (show ¬ false = true from Bool.false_ne_true), nI_clamp (by omega), rd_u1, rd_ua, rd_u4]
          exact ⟨rfl, rfl⟩
      · have hcl : cr_cl c = 3 := by unfold cr_cl; rw [if_neg c0, if_neg c1, if_neg c2]
        have ti : ∀ v : Int32, c.toInt = v.toInt → c = v := fun v h => Int32.toInt_inj.mp h
        have k := cX5_readPart_c (w := w) (l := l) (Sh := Sh) (R := R) (rd_r1 (I := I) (a := R 6 r 3) (kd := kd) (fd := nI fd) (A := A)) h4 ht hL rd_r4 hf c ⟨fun z => c0 (ti 70 z), fun z => c2 (ti 78 z), fun z => c1 (ti 83 z)⟩
        refine ⟨_, k, fun x I' R' h => ⟨h.1, ?_⟩⟩
        have h2 := h.2
        rw [h15] at h2
        unfold cr_p cr_kp
        rw [hcl, if_neg (by decide), if_neg (by decide), if_neg (by decide)]
        show cr_q I r (R 6 r 3) kd A fd false (pn (I 15 (R 4 (R 6 r 0) 0)) L c (t, false), 0) x I'
        unfold pn
        rcases h2 with ⟨g1, rfl, rfl⟩ | ⟨g1, rfl, rfl⟩
        · rw [if_pos ⟨rfl, g1⟩, rd_u1]
          exact ⟨rfl, rfl⟩
        · rw [if_neg (fun z => g1 z.2)]
          exact ⟨rfl, rfl⟩
end DK

