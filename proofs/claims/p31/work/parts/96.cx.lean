section DE
variable {rg : Nat → Nat} {I I1 I2 I3 : rk_Mm} {R R2 R3 : rk_Rm} {N : Nat → Int32} {T : Int} {x n L : Nat} {Hs Sv : Nat → Nat → Int32} {F P : Nat → Int32} {g : Nat → Nat}
/-- the whole class's cells -/
def cl_xs (rg : Nat → Nat) (R : rk_Rm) (x : Nat) : Prop := rg x = 100 ∧ rg (R 11 x 2) = 100 ∧ rg (R 11 x 3) = 100 ∧ cl_ys rg R (R 11 x 0) 0 ∧ (∀ b, b < 2 → cl_ys rg R (R 24 (R 11 x 2) b) (8 + b)) ∧ cl_ts rg R (R 11 x 6) ∧ rg (R 11 x 4) = 92 ∧ rg (R 6 (R 11 x 4) 3) = 92 ∧ R 6 (R 11 x 4) 0 = R 11 x 5 ∧ rg (R 11 x 5) = 96 ∧ rg (R 4 (R 11 x 5) 0) = 96
/-- the whole class at a state: now, the history, what is saved, the pad -/
def cl_X (rg : Nat → Nat) (I : rk_Mm) (R : rk_Rm) (x : Nat) (N : Nat → Int32) (n : Nat) (Hs : Nat → Nat → Int32) (F : Nat → Int32) (Sv : Nat → Nat → Int32) (P : Nat → Int32) (L : Nat) : Prop := cl_xs rg R x ∧ cl_y rg I R (R 11 x 0) 0 N ∧ (∃ g, cl_hs rg R (R 11 x 1) g ∧ cl_hc rg I R (R 11 x 1) g n Hs) ∧ (∀ b, b < 2 → I 25 (R 11 x 3) b = F b ∧ (F b = 0 ∨ F b = 1) ∧ (F b ≠ 0 → cl_y rg I R (R 24 (R 11 x 2) b) (8 + b) (Sv b))) ∧ I 4 (R 11 x 5) 1 = nI L ∧ ∀ j, j < L → I 15 (R 4 (R 11 x 5) 0) j = P j
/-- a state is well made -/
def vs_ok (T : Int) (N : Nat → Int32) : Prop := sp_iv T N ∧ sp_jv N
def va_ok (T : Int) (N : Nat → Int32) (n : Nat) (Hs : Nat → Nat → Int32) (F : Nat → Int32) (Sv : Nat → Nat → Int32) (P : Nat → Int32) (L : Nat) : Prop := vs_ok T N ∧ n ≤ 6 ∧ (∀ i, i < n → vs_ok T (Hs i)) ∧ (∀ b, b < 2 → F b ≠ 0 → vs_ok T (Sv b)) ∧ L ≤ 80 ∧ True
theorem cl_hs.fr {S : Nat → Prop} {I' : rk_Mm} {R' : rk_Rm} {hs : Nat} (h : cl_hs rg R hs g) (f : cl_fr rg S I R I' R') (hS : ∀ z, (z = 88 ∨ (1 ≤ z / 4 ∧ z / 4 ≤ 7)) → ¬ S z) : cl_hs rg R' hs g := by
  have e2 := f.2.2 2 (by decide) (by decide) (by decide)
  have e14 := f.2.1 14 (R 2 hs 0) (by rw [h.2.1]; exact hS _ (Or.inl rfl))
  unfold cl_hs
  rw [e2, e14]
  refine ⟨h.1, h.2.1, fun i hi => ?_, h.2.2.2⟩
  have hg := h.2.2.1 i hi
  exact ⟨hg.1, hg.2.1, hg.2.2.fr f (fun z hz => hS z (by omega))⟩
theorem cl_hc.fr {S : Nat → Prop} {I' : rk_Mm} {R' : rk_Rm} {hs : Nat} (hc : cl_hc rg I R hs g n Hs) (h : cl_hs rg R hs g) (f : cl_fr rg S I R I' R') (hS : ∀ z, (z = 88 ∨ ∃ i, i < n ∧ z / 4 = g i) → ¬ S z) (hn : n ≤ 6) (hv : ∀ i, i < n → vs_ok T (Hs i)) : cl_hc rg I' R' hs g n Hs := by
  have e2 := f.2.2 2 (by decide) (by decide) (by decide)
  have e14 := f.2.1 14 (R 2 hs 0) (by rw [h.2.1]; exact hS _ (Or.inl rfl))
  refine ⟨by rw [f.1 2 hs (by rw [h.1]; exact hS _ (Or.inl rfl))]; exact hc.1, fun i hi => ?_⟩
  rw [e2, e14]
  exact (hc.2 i hi).fr0 f (fun z hz => hS z (Or.inr ⟨i, hi, hz⟩)) (hv i hi).1
theorem cl_act1 {a : sp_R} {r : Int32} (V : va_ok T N n Hs F Sv P L) (hh : cl_hs rg R (R 11 x 1) g) (hc : cl_hc rg I R (R 11 x 1) g n Hs) (y1 : cl_y rg I1 R (R 14 (R 2 (R 11 x 1) 0) n) (g n) N) (f1 : cl_fr rg (fun z => z / 4 = g n) I R I1 R) (q : cl_Q rg I1 R (R 11 x 0) 0 N a r I2 R2) : cl_hs rg R2 (R 11 x 1) g ∧ cl_hc rg I2 R2 (R 11 x 1) g n Hs ∧ cl_y rg I2 R2 (R2 14 (R2 2 (R 11 x 1) 0) n) (g n) N := by
  have hn := V.2.1
  have hgn := hh.2.2.1 n (by omega)
  have f2 := q.2.1
  have h1 : cl_hc rg I1 R (R 11 x 1) g n Hs := hc.fr hh f1 (fun z hz hz2 => by
    rcases hz with hz | ⟨i, hi, hz⟩
    · omega
    · have := hh.2.2.2 i n (by omega) (by omega) (by omega); omega) hn V.2.2.1
  refine ⟨hh.fr f2 (by omega), h1.fr hh f2 (fun z hz hz2 => by
    rcases hz with hz | ⟨i, hi, hz⟩
    · omega
    · have := hh.2.2.1 i (by omega); omega) hn V.2.2.1, ?_⟩
  rw [f2.2.2 2 (by decide) (by decide) (by decide), f2.2.1 14 _ (by rw [hh.2.1]; omega)]
  exact y1.fr0 f2 (by omega) V.1.1
/-- an act of the class: its answer and the state behind it -/
def cl_A (rg : Nat → Nat) (I : rk_Mm) (R : rk_Rm) (x : Nat) (a : sp_R) (N : Nat → Int32) (n : Nat) (Hs : Nat → Nat → Int32) (F : Nat → Int32) (Sv : Nat → Nat → Int32) (P : Nat → Int32) (L : Nat) (r : Int32) (I' : rk_Mm) (R' : rk_Rm) : Prop := r = a.1 ∧ cl_X rg I' R' x (a.2.getD N) (a.2.elim n (fun _ => hs_n n)) (a.2.elim Hs (fun _ => hs_p n Hs N)) F Sv P L ∧ cl_fr rg (fun z => z < 104) I R I' R'
theorem cl_xs.fr {S : Nat → Prop} {I' : rk_Mm} {R' : rk_Rm} (h : cl_xs rg R x) (f : cl_fr rg S I R I' R') (hS : ∀ z, S z → z < 92) (hy : cl_ys rg R' (R 11 x 0) 0) (ht : cl_ts rg R' (R 11 x 6)) (hb : ∀ b, b < 2 → cl_ys rg R' (R 24 (R 11 x 2) b) (8 + b)) : cl_xs rg R' x := by
  obtain ⟨h1, h2, h3, h4, h5, h6, h7, h8, h9, h10, h11⟩ := h
  unfold cl_xs
  rw [f.2.2 11 (by decide) (by decide) (by decide), f.2.2 6 (by decide) (by decide) (by decide), f.2.2 4 (by decide) (by decide) (by decide), f.2.2 24 (by decide) (by decide) (by decide)]
  exact ⟨h1, h2, h3, hy, hb, ht, h7, h8, h9, h10, h11⟩
theorem cl_ts.fr {S : Nat → Prop} {I' : rk_Mm} {R' : rk_Rm} {tr : Nat} (h : cl_ts rg R tr) (f : cl_fr rg S I R I' R') (hS : ∀ z, 40 ≤ z → z < 88 → ¬ S z) : cl_ts rg R' tr := by
  unfold cl_ts
  rw [f.2.2 9 (by decide) (by decide) (by decide), f.2.2 23 (by decide) (by decide) (by decide)]
  exact ⟨h.1, h.2.1, fun i hi => (h.2.2 i hi).fr f (hS _ (by omega) (by omega))⟩
/-- what changes neither the slots nor the pad: the rest of the class -/
theorem cl_X.re {S : Nat → Prop} {N' : Nat → Int32} {n' : Nat} {Hs' : Nat → Nat → Int32} {I' : rk_Mm} {R' : rk_Rm} (X : cl_X rg I R x N n Hs F Sv P L) (V : va_ok T N n Hs F Sv P L) (f : cl_fr rg S I R I' R') (hS : ∀ z, S z → z < 32 ∨ z = 88) (hy : cl_y rg I' R' (R 11 x 0) 0 N') (hh : ∃ g, cl_hs rg R' (R 11 x 1) g ∧ cl_hc rg I' R' (R 11 x 1) g n' Hs') : cl_X rg I' R' x N' n' Hs' F Sv P L := by
  obtain ⟨X1, X2, X3, X4, X5, X6⟩ := X
  have no : ∀ z, 32 ≤ z → z ≠ 88 → ¬ S z := fun z h1 h2 h3 => by have := hS z h3; omega
  have e11 := f.2.2 11 (by decide) (by decide) (by decide)
  refine ⟨X1.fr f (fun z hz => by have := hS z hz; omega) hy.1 (X1.2.2.2.2.2.1.fr f (fun z h1 h2 => no z (by omega) (by omega))) (fun b hb => (X1.2.2.2.2.1 b hb).fr f (fun z hz => no z (by omega) (by omega))), ?_⟩
  rw [e11, f.2.2 24 (by decide) (by decide) (by decide), f.2.2 4 (by decide) (by decide) (by decide)]
  refine ⟨hy, hh, fun b hb => ?_, ?_, fun j hj => ?_⟩
  · obtain ⟨k1, k2, k3⟩ := X4 b hb
    refine ⟨by rw [f.1 25 _ (by rw [X1.2.2.1]; exact no _ (by omega) (by omega))]; exact k1, k2, fun h => ?_⟩
    exact (k3 h).fr0 f (fun z hz => no z (by omega) (by omega)) (V.2.2.2.1 b hb h).1
  · rw [f.1 4 _ (by rw [X1.2.2.2.2.2.2.2.2.2.1]; exact no _ (by omega) (by omega))]; exact X5
  · rw [f.1 15 _ (by rw [X1.2.2.2.2.2.2.2.2.2.2]; exact no _ (by omega) (by omega))]; exact X6 j hj
theorem cl_act2 {a : sp_R} {r r' : Int32} (X : cl_X rg I R x N n Hs F Sv P L) (V : va_ok T N n Hs F Sv P L) (ok : sp_ok a) (iv : ∀ r M, a = (r, some M) → sp_iv (T + 1) M) (hh : cl_hs rg R (R 11 x 1) g) (hc : cl_hc rg I R (R 11 x 1) g n Hs) (y1 : cl_y rg I1 R (R 14 (R 2 (R 11 x 1) 0) n) (g n) N) (f1 : cl_fr rg (fun z => z / 4 = g n) I R I1 R) (q : cl_Q rg I1 R (R 11 x 0) 0 N a r I2 R2)
    (s : r' = r ∧ (r < 0 → I3 = I2 ∧ R3 = R2) ∧ (0 ≤ r → ∃ g', cl_hs rg R3 (R 11 x 1) g' ∧ cl_hc rg I3 R3 (R 11 x 1) g' (hs_n n) (hs_p n Hs N)) ∧ cl_fr rg (fun z => z = 88) I2 R2 I3 R3) : cl_A rg I R x a N n Hs F Sv P L r' I3 R3 := by
  obtain ⟨s1, s2, s3, s4⟩ := s
  have hn := V.2.1
  have hgn := hh.2.2.1 n (by omega)
  obtain ⟨k1, k2, k3⟩ := cl_act1 V hh hc y1 f1 q
  have f13 : cl_fr rg (fun z => z < 32 ∨ z = 88) I R I3 R3 := ((f1.mo (fun z hz => by omega)).tr (q.2.1.mo (fun z hz => by omega))).tr (s4.mo (fun z hz => by omega))
  refine ⟨by rw [s1, q.1], ?_, f13.mo (fun z hz => by omega)⟩
  rcases ha : a.2 with _ | M
  · have hneg := ok.1 ha
    rw [← q.1] at hneg
    obtain ⟨rfl, rfl⟩ := s2 hneg
    have hy := q.2.2
    rw [ha] at hy
    exact X.re V f13 (fun z hz => hz) hy ⟨g, k1, k2⟩
  · obtain ⟨hpos, hj⟩ := ok.2 M ha
    rw [← q.1] at hpos
    have hy := q.2.2
    rw [ha] at hy
    have hy3 : cl_y rg I3 R3 (R 11 x 0) 0 M := hy.fr0 s4 (by omega) (iv a.1 M (Prod.ext rfl ha))
    exact X.re V f13 (fun z hz => hz) hy3 (s3 hpos)
end DE
section DF
variable {w : rk_W} {l : Launch} {Sh : rk_Sh} {rg : Nat → Nat} {I : rk_Mm} {R : rk_Rm} {N : Nat → Int32} {T : Int} {x n L : Nat} {Hs Sv : Nat → Nat → Int32} {F P : Nat → Int32}
theorem cX10_set_s (hw : cl_W w) (V : va_ok T N n Hs F Sv P L) (X : cl_X rg I R x N n Hs F Sv P L) (s v : Int32) : rk_J w l rk_mX10_set 7 [rk_a 11 x, rk_i s, rk_i v] Sh I R (cl_A rg I R x (sp_set N s v) N n Hs F Sv P L) := by
  obtain ⟨g, hh, hc⟩ := X.2.2.1
  have hgn := hh.2.2.1 n (by have := V.2.1; omega)
  have hp := cX1_prepare_s (w := w) (l := l) (Sh := Sh) V.1.1 X.2.1 (Or.inl (by decide)) hh hc.1 V.2.1
  have ok := sp_ok_set V.1.1 V.1.2 s v
  have iv : ∀ r M, sp_set N s v = (r, some M) → sp_iv (T + 1) M := fun r M e => sp_iv_T (sp_iv_set V.1.1 e) (by omega)
  refine rk_bJ (ls := [(0, _), (1, _), (2, _)]) (by decide) rfl (Nat.le_of_ble_eq_true rfl) ?_
  refine rk_aload_n 0 dX10_set_0 rfl rfl ?_
  refine rk_g11_1 rk_kX10_19 dX10_set_1 ?_
  refine rk_aload_n 0 dX10_set_4 rfl rfl ?_
  refine rk_g11_0 rk_kX10_10 dX10_set_5 ?_
  refine rk_cVv (hp) rk_eX1_prepare rfl ⟨rfl, rfl⟩ rk_kX10_50 dX10_set_8 rfl (by decide) (Nat.le_of_ble_eq_true rfl) ⟨Nat.le_refl _, Nat.le_refl _⟩ (fun Iz1 Rz1 hz1 => ?_)
  obtain ⟨qhz1, y1, f1⟩ := hz1
  obtain rfl := qhz1.symm
  have y0 := X.2.1.fr0 f1 (by omega) V.1.1
  refine rk_aload_n 0 dX10_set_11 rfl rfl ?_
  refine rk_pc (pc' := 12) rfl ?_
  refine rk_g11_1 rk_kX10_19 dX10_set_12 ?_
  refine rk_aload_n 0 dX10_set_15 rfl rfl ?_
  refine rk_g11_0 rk_kX10_10 dX10_set_16 ?_
  refine rk_iload_n 1 dX10_set_19 rfl rfl ?_
  refine rk_iload_n 2 dX10_set_20 rfl rfl ?_
  refine rk_cVi (cX9_changeSetting_s hw V.1.1 y0 s v) rk_eX9_changeSetting rfl ⟨rfl, rfl⟩ rk_kX10_54 dX10_set_21 rfl (by decide) (Nat.le_of_ble_eq_true rfl) ⟨Nat.le_refl _, Nat.le_refl _⟩ (fun xz2 Iz2 Rz2 hz2 => ?_)
  have k := cl_act1 V hh hc y1 f1 hz2
  refine rk_pc (pc' := 24) rfl ?_
  refine rk_cVi (cX1_settle_s (T := T) (N := N) k.1 k.2.1 V.2.1 (fun i hi => (V.2.2.1 i hi).1) (fun _ => ⟨V.1.1, k.2.2⟩)) rk_eX1_settle rfl ⟨rfl, rfl⟩ rk_kX10_58 dX10_set_24 rfl (by decide) (Nat.le_of_ble_eq_true rfl) ⟨Nat.le_refl _, Nat.le_refl _⟩ (fun xz3 Iz3 Rz3 hz3 => ?_)
  refine rk_iretJ dX10_set_27 rfl rfl ?_
  exact cl_act2 X V ok iv hh hc y1 f1 hz2 hz3
theorem cX10_fibre_s (V : va_ok T N n Hs F Sv P L) (X : cl_X rg I R x N n Hs F Sv P L) (f st tw : Int32) : rk_J w l rk_mX10_fibre 7 [rk_a 11 x, rk_i f, rk_i st, rk_i tw] Sh I R (cl_A rg I R x (sp_fibre N f st tw) N n Hs F Sv P L) := by
  obtain ⟨g, hh, hc⟩ := X.2.2.1
  have hgn := hh.2.2.1 n (by have := V.2.1; omega)
  have hp := cX1_prepare_s (w := w) (l := l) (Sh := Sh) V.1.1 X.2.1 (Or.inl (by decide)) hh hc.1 V.2.1
  have ok := sp_ok_fibre V.1.1 V.1.2 f st tw
  have iv : ∀ r M, sp_fibre N f st tw = (r, some M) → sp_iv (T + 1) M := fun r M e => sp_iv_T (sp_iv_fibre V.1.1 e) (by omega)
  refine rk_bJ (ls := [(0, _), (1, _), (2, _), (3, _)]) (by decide) rfl (Nat.le_of_ble_eq_true rfl) ?_
  refine rk_aload_n 0 dX10_fibre_0 rfl rfl ?_
  refine rk_g11_1 rk_kX10_19 dX10_fibre_1 ?_
  refine rk_aload_n 0 dX10_fibre_4 rfl rfl ?_
  refine rk_g11_0 rk_kX10_10 dX10_fibre_5 ?_
  refine rk_cVv (hp) rk_eX1_prepare rfl ⟨rfl, rfl⟩ rk_kX10_50 dX10_fibre_8 rfl (by decide) (Nat.le_of_ble_eq_true rfl) ⟨Nat.le_refl _, Nat.le_refl _⟩ (fun Iz1 Rz1 hz1 => ?_)
  obtain ⟨qhz1, y1, f1⟩ := hz1
  obtain rfl := qhz1.symm
  have y0 := X.2.1.fr0 f1 (by omega) V.1.1
  refine rk_aload_n 0 dX10_fibre_11 rfl rfl ?_
  refine rk_pc (pc' := 12) rfl ?_
  refine rk_g11_1 rk_kX10_19 dX10_fibre_12 ?_
  refine rk_aload_n 0 dX10_fibre_15 rfl rfl ?_
  refine rk_g11_0 rk_kX10_10 dX10_fibre_16 ?_
  refine rk_iload_n 1 dX10_fibre_19 rfl rfl ?_
  refine rk_iload_n 2 dX10_fibre_20 rfl rfl ?_
  refine rk_iload_n 3 dX10_fibre_21 rfl rfl ?_
  refine rk_pc (pc' := 22) rfl ?_
  refine rk_cVi (cX9_changeFibre_s V.1.1 y0 f st tw) rk_eX9_changeFibre rfl ⟨rfl, rfl⟩ rk_kX10_62 dX10_fibre_22 rfl (by decide) (Nat.le_of_ble_eq_true rfl) ⟨Nat.le_refl _, Nat.le_refl _⟩ (fun xz2 Iz2 Rz2 hz2 => ?_)
  have k := cl_act1 V hh hc y1 f1 hz2
  refine rk_cVi (cX1_settle_s (T := T) (N := N) k.1 k.2.1 V.2.1 (fun i hi => (V.2.2.1 i hi).1) (fun _ => ⟨V.1.1, k.2.2⟩)) rk_eX1_settle rfl ⟨rfl, rfl⟩ rk_kX10_58 dX10_fibre_25 rfl (by decide) (Nat.le_of_ble_eq_true rfl) ⟨Nat.le_refl _, Nat.le_refl _⟩ (fun xz3 Iz3 Rz3 hz3 => ?_)
  refine rk_iretJ dX10_fibre_28 rfl rfl ?_
  exact cl_act2 X V ok iv hh hc y1 f1 hz2 hz3
theorem cX10_spin_s (V : va_ok T N n Hs F Sv P L) (X : cl_X rg I R x N n Hs F Sv P L) (f ft : Int32) : rk_J w l rk_mX10_spin 7 [rk_a 11 x, rk_i f, rk_i ft] Sh I R (cl_A rg I R x (sp_spin N f ft) N n Hs F Sv P L) := by
  obtain ⟨g, hh, hc⟩ := X.2.2.1
  have hgn := hh.2.2.1 n (by have := V.2.1; omega)
  have hp := cX1_prepare_s (w := w) (l := l) (Sh := Sh) V.1.1 X.2.1 (Or.inl (by decide)) hh hc.1 V.2.1
  have ok := sp_ok_spin V.1.1 V.1.2 f ft
  have iv : ∀ r M, sp_spin N f ft = (r, some M) → sp_iv (T + 1) M := fun r M e => sp_iv_T (sp_iv_spin V.1.1 e) (by omega)
  refine rk_bJ (ls := [(0, _), (1, _), (2, _)]) (by decide) rfl (Nat.le_of_ble_eq_true rfl) ?_
  refine rk_aload_n 0 dX10_spin_0 rfl rfl ?_
  refine rk_g11_1 rk_kX10_19 dX10_spin_1 ?_
  refine rk_aload_n 0 dX10_spin_4 rfl rfl ?_
  refine rk_g11_0 rk_kX10_10 dX10_spin_5 ?_
  refine rk_cVv (hp) rk_eX1_prepare rfl ⟨rfl, rfl⟩ rk_kX10_50 dX10_spin_8 rfl (by decide) (Nat.le_of_ble_eq_true rfl) ⟨Nat.le_refl _, Nat.le_refl _⟩ (fun Iz1 Rz1 hz1 => ?_)
  obtain ⟨qhz1, y1, f1⟩ := hz1
  obtain rfl := qhz1.symm
  have y0 := X.2.1.fr0 f1 (by omega) V.1.1
  refine rk_aload_n 0 dX10_spin_11 rfl rfl ?_
  refine rk_pc (pc' := 12) rfl ?_
  refine rk_g11_1 rk_kX10_19 dX10_spin_12 ?_
  refine rk_aload_n 0 dX10_spin_15 rfl rfl ?_
  refine rk_g11_0 rk_kX10_10 dX10_spin_16 ?_
  refine rk_iload_n 1 dX10_spin_19 rfl rfl ?_
  refine rk_iload_n 2 dX10_spin_20 rfl rfl ?_
  refine rk_cVi (cX9_spinYarn_s V.1.1 y0 f ft) rk_eX9_spinYarn rfl ⟨rfl, rfl⟩ rk_kX10_66 dX10_spin_21 rfl (by decide) (Nat.le_of_ble_eq_true rfl) ⟨Nat.le_refl _, Nat.le_refl _⟩ (fun xz2 Iz2 Rz2 hz2 => ?_)
  have k := cl_act1 V hh hc y1 f1 hz2
  refine rk_pc (pc' := 24) rfl ?_
  refine rk_cVi (cX1_settle_s (T := T) (N := N) k.1 k.2.1 V.2.1 (fun i hi => (V.2.2.1 i hi).1) (fun _ => ⟨V.1.1, k.2.2⟩)) rk_eX1_settle rfl ⟨rfl, rfl⟩ rk_kX10_58 dX10_spin_24 rfl (by decide) (Nat.le_of_ble_eq_true rfl) ⟨Nat.le_refl _, Nat.le_refl _⟩ (fun xz3 Iz3 Rz3 hz3 => ?_)
  refine rk_iretJ dX10_spin_27 rfl rfl ?_
  exact cl_act2 X V ok iv hh hc y1 f1 hz2 hz3
theorem cX10_lay_s (V : va_ok T N n Hs F Sv P L) (X : cl_X rg I R x N n Hs F Sv P L) (f s b ft : Int32) : rk_J w l rk_mX10_lay 7 [rk_a 11 x, rk_i f, rk_i s, rk_i b, rk_i ft] Sh I R (cl_A rg I R x (sp_lay N f s b ft) N n Hs F Sv P L) := by
  obtain ⟨g, hh, hc⟩ := X.2.2.1
  have hgn := hh.2.2.1 n (by have := V.2.1; omega)
  have hp := cX1_prepare_s (w := w) (l := l) (Sh := Sh) V.1.1 X.2.1 (Or.inl (by decide)) hh hc.1 V.2.1
  have ok := sp_ok_lay V.1.1 V.1.2 f s b ft
  have iv : ∀ r M, sp_lay N f s b ft = (r, some M) → sp_iv (T + 1) M := fun r M e => sp_iv_lay V.1.1 e
  refine rk_bJ (ls := [(0, _), (1, _), (2, _), (3, _), (4, _)]) (by decide) rfl (Nat.le_of_ble_eq_true rfl) ?_
  refine rk_aload_n 0 dX10_lay_0 rfl rfl ?_
  refine rk_g11_1 rk_kX10_19 dX10_lay_1 ?_
  refine rk_aload_n 0 dX10_lay_4 rfl rfl ?_
  refine rk_g11_0 rk_kX10_10 dX10_lay_5 ?_
  refine rk_cVv (hp) rk_eX1_prepare rfl ⟨rfl, rfl⟩ rk_kX10_50 dX10_lay_8 rfl (by decide) (Nat.le_of_ble_eq_true rfl) ⟨Nat.le_refl _, Nat.le_refl _⟩ (fun Iz1 Rz1 hz1 => ?_)
  obtain ⟨qhz1, y1, f1⟩ := hz1
  obtain rfl := qhz1.symm
  have y0 := X.2.1.fr0 f1 (by omega) V.1.1
  refine rk_aload_n 0 dX10_lay_11 rfl rfl ?_
  refine rk_pc (pc' := 12) rfl ?_
  refine rk_g11_1 rk_kX10_19 dX10_lay_12 ?_
  refine rk_aload_n 0 dX10_lay_15 rfl rfl ?_
  refine rk_g11_0 rk_kX10_10 dX10_lay_16 ?_
  refine rk_iload_n 1 dX10_lay_19 rfl rfl ?_
  refine rk_iload_n 2 dX10_lay_20 rfl rfl ?_
  refine rk_iload_n 3 dX10_lay_21 rfl rfl ?_
  refine rk_pc (pc' := 22) rfl ?_
  refine rk_iload dX10_lay_22 rfl ?_
  refine rk_cVi (cX9_layRope_s V.1.1 y0 f s b ft) rk_eX9_layRope rfl ⟨rfl, rfl⟩ rk_kX10_69 dX10_lay_24 rfl (by decide) (Nat.le_of_ble_eq_true rfl) ⟨Nat.le_refl _, Nat.le_refl _⟩ (fun xz2 Iz2 Rz2 hz2 => ?_)
  have k := cl_act1 V hh hc y1 f1 hz2
  refine rk_cVi (cX1_settle_s (T := T) (N := N) k.1 k.2.1 V.2.1 (fun i hi => (V.2.2.1 i hi).1) (fun _ => ⟨V.1.1, k.2.2⟩)) rk_eX1_settle rfl ⟨rfl, rfl⟩ rk_kX10_58 dX10_lay_27 rfl (by decide) (Nat.le_of_ble_eq_true rfl) ⟨Nat.le_refl _, Nat.le_refl _⟩ (fun xz3 Iz3 Rz3 hz3 => ?_)
  refine rk_iretJ dX10_lay_30 rfl rfl ?_
  exact cl_act2 X V ok iv hh hc y1 f1 hz2 hz3
theorem cX10_join_s (hT : T ≤ 1000000) (V : va_ok T N n Hs F Sv P L) (X : cl_X rg I R x N n Hs F Sv P L) (p q : Int32) : rk_J w l rk_mX10_join 7 [rk_a 11 x, rk_i p, rk_i q] Sh I R (cl_A rg I R x (sp_join N p q) N n Hs F Sv P L) := by
  obtain ⟨g, hh, hc⟩ := X.2.2.1
  have hgn := hh.2.2.1 n (by have := V.2.1; omega)
  have hp := cX1_prepare_s (w := w) (l := l) (Sh := Sh) V.1.1 X.2.1 (Or.inl (by decide)) hh hc.1 V.2.1
  have ok := sp_ok_join V.1.1 V.1.2 p q
  have iv : ∀ r M, sp_join N p q = (r, some M) → sp_iv (T + 1) M := fun r M e => sp_iv_T (sp_iv_join hT V.1.1 e) (by omega)
  refine rk_bJ (ls := [(0, _), (1, _), (2, _)]) (by decide) rfl (Nat.le_of_ble_eq_true rfl) ?_
  refine rk_aload_n 0 dX10_join_0 rfl rfl ?_
  refine rk_g11_1 rk_kX10_19 dX10_join_1 ?_
  refine rk_aload_n 0 dX10_join_4 rfl rfl ?_
  refine rk_g11_0 rk_kX10_10 dX10_join_5 ?_
  refine rk_cVv (hp) rk_eX1_prepare rfl ⟨rfl, rfl⟩ rk_kX10_50 dX10_join_8 rfl (by decide) (Nat.le_of_ble_eq_true rfl) ⟨Nat.le_refl _, Nat.le_refl _⟩ (fun Iz1 Rz1 hz1 => ?_)
  obtain ⟨qhz1, y1, f1⟩ := hz1
  obtain rfl := qhz1.symm
  have y0 := X.2.1.fr0 f1 (by omega) V.1.1
  refine rk_aload_n 0 dX10_join_11 rfl rfl ?_
  refine rk_pc (pc' := 12) rfl ?_
  refine rk_g11_1 rk_kX10_19 dX10_join_12 ?_
  refine rk_aload_n 0 dX10_join_15 rfl rfl ?_
  refine rk_g11_0 rk_kX10_10 dX10_join_16 ?_
  refine rk_iload_n 1 dX10_join_19 rfl rfl ?_
  refine rk_iload_n 2 dX10_join_20 rfl rfl ?_
  refine rk_cVi (cX9_joinPieces_s V.1.1 y0 p q) rk_eX9_joinPieces rfl ⟨rfl, rfl⟩ rk_kX10_73 dX10_join_21 rfl (by decide) (Nat.le_of_ble_eq_true rfl) ⟨Nat.le_refl _, Nat.le_refl _⟩ (fun xz2 Iz2 Rz2 hz2 => ?_)
  have k := cl_act1 V hh hc y1 f1 hz2
  refine rk_pc (pc' := 24) rfl ?_
  refine rk_cVi (cX1_settle_s (T := T) (N := N) k.1 k.2.1 V.2.1 (fun i hi => (V.2.2.1 i hi).1) (fun _ => ⟨V.1.1, k.2.2⟩)) rk_eX1_settle rfl ⟨rfl, rfl⟩ rk_kX10_58 dX10_join_24 rfl (by decide) (Nat.le_of_ble_eq_true rfl) ⟨Nat.le_refl _, Nat.le_refl _⟩ (fun xz3 Iz3 Rz3 hz3 => ?_)
  refine rk_iretJ dX10_join_27 rfl rfl ?_
  exact cl_act2 X V ok iv hh hc y1 f1 hz2 hz3
theorem cX10_test_s (V : va_ok T N n Hs F Sv P L) (X : cl_X rg I R x N n Hs F Sv P L) (p : Int32) : rk_J w l rk_mX10_test 7 [rk_a 11 x, rk_i p] Sh I R (cl_A rg I R x (sp_test N p) N n Hs F Sv P L) := by
  obtain ⟨g, hh, hc⟩ := X.2.2.1
  have hgn := hh.2.2.1 n (by have := V.2.1; omega)
  have hp := cX1_prepare_s (w := w) (l := l) (Sh := Sh) V.1.1 X.2.1 (Or.inl (by decide)) hh hc.1 V.2.1
  have ok := sp_ok_test V.1.1 V.1.2 p
  have iv : ∀ r M, sp_test N p = (r, some M) → sp_iv (T + 1) M := fun r M e => sp_iv_T (sp_iv_test V.1.1 e) (by omega)
  refine rk_bJ (ls := [(0, _), (1, _)]) (by decide) rfl (Nat.le_of_ble_eq_true rfl) ?_
  refine rk_aload_n 0 dX10_test_0 rfl rfl ?_
  refine rk_g11_1 rk_kX10_19 dX10_test_1 ?_
  refine rk_aload_n 0 dX10_test_4 rfl rfl ?_
  refine rk_g11_0 rk_kX10_10 dX10_test_5 ?_
  refine rk_cVv (hp) rk_eX1_prepare rfl ⟨rfl, rfl⟩ rk_kX10_50 dX10_test_8 rfl (by decide) (Nat.le_of_ble_eq_true rfl) ⟨Nat.le_refl _, Nat.le_refl _⟩ (fun Iz1 Rz1 hz1 => ?_)
  obtain ⟨qhz1, y1, f1⟩ := hz1
  obtain rfl := qhz1.symm
  have y0 := X.2.1.fr0 f1 (by omega) V.1.1
  refine rk_aload_n 0 dX10_test_11 rfl rfl ?_
  refine rk_pc (pc' := 12) rfl ?_
  refine rk_g11_1 rk_kX10_19 dX10_test_12 ?_
  refine rk_aload_n 0 dX10_test_15 rfl rfl ?_
  refine rk_g11_0 rk_kX10_10 dX10_test_16 ?_
  refine rk_iload_n 1 dX10_test_19 rfl rfl ?_
  refine rk_cVi (cX9_testPiece_s V.1.1 y0 p) rk_eX9_testPiece rfl ⟨rfl, rfl⟩ rk_kX10_76 dX10_test_20 rfl (by decide) (Nat.le_of_ble_eq_true rfl) ⟨Nat.le_refl _, Nat.le_refl _⟩ (fun xz2 Iz2 Rz2 hz2 => ?_)
  have k := cl_act1 V hh hc y1 f1 hz2
  refine rk_cVi (cX1_settle_s (T := T) (N := N) k.1 k.2.1 V.2.1 (fun i hi => (V.2.2.1 i hi).1) (fun _ => ⟨V.1.1, k.2.2⟩)) rk_eX1_settle rfl ⟨rfl, rfl⟩ rk_kX10_58 dX10_test_23 rfl (by decide) (Nat.le_of_ble_eq_true rfl) ⟨Nat.le_refl _, Nat.le_refl _⟩ (fun xz3 Iz3 Rz3 hz3 => ?_)
  refine rk_pc (pc' := 26) rfl ?_
  refine rk_iretJ dX10_test_26 rfl rfl ?_
  exact cl_act2 X V ok iv hh hc y1 f1 hz2 hz3
theorem cX10_order_s (V : va_ok T N n Hs F Sv P L) (X : cl_X rg I R x N n Hs F Sv P L) (f st ft mn tr pr : Int32) : rk_J w l rk_mX10_order 7 [rk_a 11 x, rk_i f, rk_i st, rk_i ft, rk_i mn, rk_i tr, rk_i pr] Sh I R (cl_A rg I R x (sp_order N f st ft mn tr pr) N n Hs F Sv P L) := by
  obtain ⟨g, hh, hc⟩ := X.2.2.1
  have hgn := hh.2.2.1 n (by have := V.2.1; omega)
  have hp := cX1_prepare_s (w := w) (l := l) (Sh := Sh) V.1.1 X.2.1 (Or.inl (by decide)) hh hc.1 V.2.1
  have ok := sp_ok_order V.1.1 V.1.2 f st ft mn tr pr
  have iv : ∀ r M, sp_order N f st ft mn tr pr = (r, some M) → sp_iv (T + 1) M := fun r M e => sp_iv_T (sp_iv_order V.1.1 e) (by omega)
  refine rk_bJ (ls := [(0, _), (1, _), (2, _), (3, _), (4, _), (5, _), (6, _)]) (by decide) rfl (Nat.le_of_ble_eq_true rfl) ?_
  refine rk_aload_n 0 dX10_order_0 rfl rfl ?_
  refine rk_g11_1 rk_kX10_19 dX10_order_1 ?_
  refine rk_aload_n 0 dX10_order_4 rfl rfl ?_
  refine rk_g11_0 rk_kX10_10 dX10_order_5 ?_
  refine rk_cVv (hp) rk_eX1_prepare rfl ⟨rfl, rfl⟩ rk_kX10_50 dX10_order_8 rfl (by decide) (Nat.le_of_ble_eq_true rfl) ⟨Nat.le_refl _, Nat.le_refl _⟩ (fun Iz1 Rz1 hz1 => ?_)
  obtain ⟨qhz1, y1, f1⟩ := hz1
  obtain rfl := qhz1.symm
  have y0 := X.2.1.fr0 f1 (by omega) V.1.1
  refine rk_aload_n 0 dX10_order_11 rfl rfl ?_
  refine rk_pc (pc' := 12) rfl ?_
  refine rk_g11_1 rk_kX10_19 dX10_order_12 ?_
  refine rk_aload_n 0 dX10_order_15 rfl rfl ?_
  refine rk_g11_0 rk_kX10_10 dX10_order_16 ?_
  refine rk_iload_n 1 dX10_order_19 rfl rfl ?_
  refine rk_iload_n 2 dX10_order_20 rfl rfl ?_
  refine rk_iload_n 3 dX10_order_21 rfl rfl ?_
  refine rk_pc (pc' := 22) rfl ?_
  refine rk_iload dX10_order_22 rfl ?_
  refine rk_iload dX10_order_24 rfl ?_
  refine rk_iload dX10_order_26 rfl ?_
  refine rk_cVi (cX9_takeOrder_s V.1.1 y0 f st ft mn tr pr) rk_eX9_takeOrder rfl ⟨rfl, rfl⟩ rk_kX10_79 dX10_order_28 rfl (by decide) (Nat.le_of_ble_eq_true rfl) ⟨Nat.le_refl _, Nat.le_refl _⟩ (fun xz2 Iz2 Rz2 hz2 => ?_)
  have k := cl_act1 V hh hc y1 f1 hz2
  refine rk_cVi (cX1_settle_s (T := T) (N := N) k.1 k.2.1 V.2.1 (fun i hi => (V.2.2.1 i hi).1) (fun _ => ⟨V.1.1, k.2.2⟩)) rk_eX1_settle rfl ⟨rfl, rfl⟩ rk_kX10_58 dX10_order_31 rfl (by decide) (Nat.le_of_ble_eq_true rfl) ⟨Nat.le_refl _, Nat.le_refl _⟩ (fun xz3 Iz3 Rz3 hz3 => ?_)
  refine rk_iretJ dX10_order_34 rfl rfl ?_
  exact cl_act2 X V ok iv hh hc y1 f1 hz2 hz3
theorem cX10_fill_s (V : va_ok T N n Hs F Sv P L) (X : cl_X rg I R x N n Hs F Sv P L) (o : Int32) : rk_J w l rk_mX10_fill 7 [rk_a 11 x, rk_i o] Sh I R (cl_A rg I R x (sp_fill N o) N n Hs F Sv P L) := by
  obtain ⟨g, hh, hc⟩ := X.2.2.1
  have hgn := hh.2.2.1 n (by have := V.2.1; omega)
  have hp := cX1_prepare_s (w := w) (l := l) (Sh := Sh) V.1.1 X.2.1 (Or.inl (by decide)) hh hc.1 V.2.1
  have ok := sp_ok_fill V.1.1 V.1.2 o
  have iv : ∀ r M, sp_fill N o = (r, some M) → sp_iv (T + 1) M := fun r M e => sp_iv_T (sp_iv_fill V.1.1 e) (by omega)
  refine rk_bJ (ls := [(0, _), (1, _)]) (by decide) rfl (Nat.le_of_ble_eq_true rfl) ?_
  refine rk_aload_n 0 dX10_fill_0 rfl rfl ?_
  refine rk_g11_1 rk_kX10_19 dX10_fill_1 ?_
  refine rk_aload_n 0 dX10_fill_4 rfl rfl ?_
  refine rk_g11_0 rk_kX10_10 dX10_fill_5 ?_
  refine rk_cVv (hp) rk_eX1_prepare rfl ⟨rfl, rfl⟩ rk_kX10_50 dX10_fill_8 rfl (by decide) (Nat.le_of_ble_eq_true rfl) ⟨Nat.le_refl _, Nat.le_refl _⟩ (fun Iz1 Rz1 hz1 => ?_)
  obtain ⟨qhz1, y1, f1⟩ := hz1
  obtain rfl := qhz1.symm
  have y0 := X.2.1.fr0 f1 (by omega) V.1.1
  refine rk_aload_n 0 dX10_fill_11 rfl rfl ?_
  refine rk_pc (pc' := 12) rfl ?_
  refine rk_g11_1 rk_kX10_19 dX10_fill_12 ?_
  refine rk_aload_n 0 dX10_fill_15 rfl rfl ?_
  refine rk_g11_0 rk_kX10_10 dX10_fill_16 ?_
  refine rk_iload_n 1 dX10_fill_19 rfl rfl ?_
  refine rk_cVi (cX9_fillOrder_s V.1.1 y0 o) rk_eX9_fillOrder rfl ⟨rfl, rfl⟩ rk_kX10_83 dX10_fill_20 rfl (by decide) (Nat.le_of_ble_eq_true rfl) ⟨Nat.le_refl _, Nat.le_refl _⟩ (fun xz2 Iz2 Rz2 hz2 => ?_)
  have k := cl_act1 V hh hc y1 f1 hz2
  refine rk_cVi (cX1_settle_s (T := T) (N := N) k.1 k.2.1 V.2.1 (fun i hi => (V.2.2.1 i hi).1) (fun _ => ⟨V.1.1, k.2.2⟩)) rk_eX1_settle rfl ⟨rfl, rfl⟩ rk_kX10_58 dX10_fill_23 rfl (by decide) (Nat.le_of_ble_eq_true rfl) ⟨Nat.le_refl _, Nat.le_refl _⟩ (fun xz3 Iz3 Rz3 hz3 => ?_)
  refine rk_pc (pc' := 26) rfl ?_
  refine rk_iretJ dX10_fill_26 rfl rfl ?_
  exact cl_act2 X V ok iv hh hc y1 f1 hz2 hz3
theorem cX10_drop_s (V : va_ok T N n Hs F Sv P L) (X : cl_X rg I R x N n Hs F Sv P L) (o : Int32) : rk_J w l rk_mX10_drop 7 [rk_a 11 x, rk_i o] Sh I R (cl_A rg I R x (sp_drop N o) N n Hs F Sv P L) := by
  obtain ⟨g, hh, hc⟩ := X.2.2.1
  have hgn := hh.2.2.1 n (by have := V.2.1; omega)
  have hp := cX1_prepare_s (w := w) (l := l) (Sh := Sh) V.1.1 X.2.1 (Or.inl (by decide)) hh hc.1 V.2.1
  have ok := sp_ok_drop V.1.1 V.1.2 o
  have iv : ∀ r M, sp_drop N o = (r, some M) → sp_iv (T + 1) M := fun r M e => sp_iv_T (sp_iv_drop V.1.1 e) (by omega)
  refine rk_bJ (ls := [(0, _), (1, _)]) (by decide) rfl (Nat.le_of_ble_eq_true rfl) ?_
  refine rk_aload_n 0 dX10_drop_0 rfl rfl ?_
  refine rk_g11_1 rk_kX10_19 dX10_drop_1 ?_
  refine rk_aload_n 0 dX10_drop_4 rfl rfl ?_
  refine rk_g11_0 rk_kX10_10 dX10_drop_5 ?_
  refine rk_cVv (hp) rk_eX1_prepare rfl ⟨rfl, rfl⟩ rk_kX10_50 dX10_drop_8 rfl (by decide) (Nat.le_of_ble_eq_true rfl) ⟨Nat.le_refl _, Nat.le_refl _⟩ (fun Iz1 Rz1 hz1 => ?_)
  obtain ⟨qhz1, y1, f1⟩ := hz1
  obtain rfl := qhz1.symm
  have y0 := X.2.1.fr0 f1 (by omega) V.1.1
  refine rk_aload_n 0 dX10_drop_11 rfl rfl ?_
  refine rk_pc (pc' := 12) rfl ?_
  refine rk_g11_1 rk_kX10_19 dX10_drop_12 ?_
  refine rk_aload_n 0 dX10_drop_15 rfl rfl ?_
  refine rk_g11_0 rk_kX10_10 dX10_drop_16 ?_
  refine rk_iload_n 1 dX10_drop_19 rfl rfl ?_
  refine rk_cVi (cX9_dropOrder_s V.1.1 y0 o) rk_eX9_dropOrder rfl ⟨rfl, rfl⟩ rk_kX10_86 dX10_drop_20 rfl (by decide) (Nat.le_of_ble_eq_true rfl) ⟨Nat.le_refl _, Nat.le_refl _⟩ (fun xz2 Iz2 Rz2 hz2 => ?_)
  have k := cl_act1 V hh hc y1 f1 hz2
  refine rk_cVi (cX1_settle_s (T := T) (N := N) k.1 k.2.1 V.2.1 (fun i hi => (V.2.2.1 i hi).1) (fun _ => ⟨V.1.1, k.2.2⟩)) rk_eX1_settle rfl ⟨rfl, rfl⟩ rk_kX10_58 dX10_drop_23 rfl (by decide) (Nat.le_of_ble_eq_true rfl) ⟨Nat.le_refl _, Nat.le_refl _⟩ (fun xz3 Iz3 Rz3 hz3 => ?_)
  refine rk_pc (pc' := 26) rfl ?_
  refine rk_iretJ dX10_drop_26 rfl rfl ?_
  exact cl_act2 X V ok iv hh hc y1 f1 hz2 hz3
theorem cX10_pass_s (V : va_ok T N n Hs F Sv P L) (X : cl_X rg I R x N n Hs F Sv P L) (d : Int32) : rk_J w l rk_mX10_pass 7 [rk_a 11 x, rk_i d] Sh I R (cl_A rg I R x (sp_pass N d) N n Hs F Sv P L) := by
  obtain ⟨g, hh, hc⟩ := X.2.2.1
  have hgn := hh.2.2.1 n (by have := V.2.1; omega)
  have hp := cX1_prepare_s (w := w) (l := l) (Sh := Sh) V.1.1 X.2.1 (Or.inl (by decide)) hh hc.1 V.2.1
  have ok := sp_ok_pass V.1.1 V.1.2 d
  have iv : ∀ r M, sp_pass N d = (r, some M) → sp_iv (T + 1) M := fun r M e => sp_iv_T (sp_iv_pass V.1.1 e) (by omega)
  refine rk_bJ (ls := [(0, _), (1, _)]) (by decide) rfl (Nat.le_of_ble_eq_true rfl) ?_
  refine rk_aload_n 0 dX10_pass_0 rfl rfl ?_
  refine rk_g11_1 rk_kX10_19 dX10_pass_1 ?_
  refine rk_aload_n 0 dX10_pass_4 rfl rfl ?_
  refine rk_g11_0 rk_kX10_10 dX10_pass_5 ?_
  refine rk_cVv (hp) rk_eX1_prepare rfl ⟨rfl, rfl⟩ rk_kX10_50 dX10_pass_8 rfl (by decide) (Nat.le_of_ble_eq_true rfl) ⟨Nat.le_refl _, Nat.le_refl _⟩ (fun Iz1 Rz1 hz1 => ?_)
  obtain ⟨qhz1, y1, f1⟩ := hz1
  obtain rfl := qhz1.symm
  have y0 := X.2.1.fr0 f1 (by omega) V.1.1
  refine rk_aload_n 0 dX10_pass_11 rfl rfl ?_
  refine rk_pc (pc' := 12) rfl ?_
  refine rk_g11_1 rk_kX10_19 dX10_pass_12 ?_
  refine rk_aload_n 0 dX10_pass_15 rfl rfl ?_
  refine rk_g11_0 rk_kX10_10 dX10_pass_16 ?_
  refine rk_iload_n 1 dX10_pass_19 rfl rfl ?_
  refine rk_cVi (cX9_passDays_s V.1.1 y0 d) rk_eX9_passDays rfl ⟨rfl, rfl⟩ rk_kX10_89 dX10_pass_20 rfl (by decide) (Nat.le_of_ble_eq_true rfl) ⟨Nat.le_refl _, Nat.le_refl _⟩ (fun xz2 Iz2 Rz2 hz2 => ?_)
  have k := cl_act1 V hh hc y1 f1 hz2
  refine rk_cVi (cX1_settle_s (T := T) (N := N) k.1 k.2.1 V.2.1 (fun i hi => (V.2.2.1 i hi).1) (fun _ => ⟨V.1.1, k.2.2⟩)) rk_eX1_settle rfl ⟨rfl, rfl⟩ rk_kX10_58 dX10_pass_23 rfl (by decide) (Nat.le_of_ble_eq_true rfl) ⟨Nat.le_refl _, Nat.le_refl _⟩ (fun xz3 Iz3 Rz3 hz3 => ?_)
  refine rk_pc (pc' := 26) rfl ?_
  refine rk_iretJ dX10_pass_26 rfl rfl ?_
  exact cl_act2 X V ok iv hh hc y1 f1 hz2 hz3
end DF

