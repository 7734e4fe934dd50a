section DI
variable {w : rk_W} {l : Launch} {M : rk_M} {d mc ms : Nat} {G : List Frame → Array Value → State → State → Prop} {pc : Nat} {ls : List (Nat × rk_V)} {st : List rk_V} {Z : rk_Z} {I : rk_Mm} {R : rk_Rm}
theorem rk_slt {i : Nat} (hi : i < 5) : rk_slen.getD i 0 < 8 := by
  rcases (by omega : i = 0 ∨ i = 1 ∨ i = 2 ∨ i = 3 ∨ i = 4) with rfl | rfl | rfl | rfl | rfl <;> decide
theorem rk_tgv {i idx : Nat} (hi : i < 5) (hlink : Cond.fieldLink M.1.cls idx "java/lang/String" "value" "[B" ∈ rk_tbl) (hd : decode M.2.1 pc = .ok (.getfield idx, 3)) (kk : rk_Wp w l M d mc ms G (pc + 3) ls (rk_a (110 + i) (w.2.2.2.2.2 i) :: st) Z I R) : rk_Wp w l M d mc ms G pc ls (rk_t i :: st) Z I R := by
  intro p e Rm s m args below meth cd H locs la C a1 a2 a3 a4 a5
  have hKN := C.2.2.2.2.2.2.2.2.1
  exact vk_getf C.1 C.2.1 (hKN.2.2.2.2.2.1.1 i hi).2.2.1 a4 C.2.2.2.2.1 (C.2.2.2.2.2.1 _ hlink) (fun _ h => h) hd (kk p e Rm s m args below meth cd H locs la C (rk_oc (Or.inr (Or.inr ⟨by show 110 ≤ 110 + i; omega, by show 110 + i < 115; omega, by show w.2.2.2.2.2 i = w.2.2.2.2.2 (110 + i - 110); rw [Nat.add_sub_cancel_left]⟩)) (rk_ot a1)) a2 a3 a4 a5)
theorem rk_tgc {i idx : Nat} (hi : i < 5) (hlink : Cond.fieldLink M.1.cls idx "java/lang/String" "coder" "B" ∈ rk_tbl) (hd : decode M.2.1 pc = .ok (.getfield idx, 3)) (kk : rk_Wp w l M d mc ms G (pc + 3) ls (rk_i 0 :: st) Z I R) : rk_Wp w l M d mc ms G pc ls (rk_t i :: st) Z I R := by
  intro p e Rm s m args below meth cd H locs la C a1 a2 a3 a4 a5
  have hKN := C.2.2.2.2.2.2.2.2.1
  exact vk_getf C.1 C.2.1 (hKN.2.2.2.2.2.1.1 i hi).2.1 a4 C.2.2.2.2.1 (C.2.2.2.2.2.1 _ hlink) (fun _ h => h) hd (kk p e Rm s m args below meth cd H locs la C (rk_oc trivial (rk_ot a1)) a2 a3 a4 a5)
theorem rk_tok {i a : Nat} {kd : Nat → Nat} (hi : i < 5) (h : rk_ok w kd (rk_a (110 + i) a)) : a = w.2.2.2.2.2 i := by
  rcases h with h | h | h
  · exact absurd h.1 (by show ¬ 110 + i < 100; omega)
  · exact absurd h.2.1 (by show ¬ 110 + i < 106; omega)
  · have := h.2.2
    rw [show (110 + i, a).1 - 110 = i by show 110 + i - 110 = i; omega] at this
    exact this
theorem rk_tal {i a : Nat} (hi : i < 5) (hd : decode M.2.1 pc = .ok (.arraylength, 1)) (kk : rk_Wp w l M d mc ms G (pc + 1) ls (rk_i (nI (rk_slen.getD i 0)) :: st) Z I R) : rk_Wp w l M d mc ms G pc ls (rk_a (110 + i) a :: st) Z I R := by
  intro p e Rm s m args below meth cd H locs la C a1 a2 a3 a4 a5
  obtain rfl := (rk_tok hi (rk_oh a1)).symm
  have hKN := C.2.2.2.2.2.2.2.2.1
  exact va_tlen C.1 C.2.1 (hKN.2.2.2.2.2.1.1 i hi).2.2.2 a4 rfl hd (kk p e Rm s m args below meth cd H locs la C (rk_oc trivial (rk_ot a1)) a2 a3 a4 a5)
theorem rk_tbal {i a : Nat} {x : Int32} (k : Nat) (hi : i < 5) (hx : x = nI k) (hk : k < rk_slen.getD i 0) (hd : decode M.2.1 pc = .ok (.baload, 1)) (kk : rk_Wp w l M d mc ms G (pc + 1) ls (rk_i ((rk_sbyt.getD i []).getD k 0) :: st) Z I R) : rk_Wp w l M d mc ms G pc ls (rk_i x :: rk_a (110 + i) a :: st) Z I R := by
  intro p e Rm s m args below meth cd H locs la C a1 a2 a3 a4 a5
  obtain rfl := (rk_tok hi (rk_oh (rk_ot a1))).symm
  have hKN := C.2.2.2.2.2.2.2.2.1
  have h8 := rk_slt hi
  subst hx
  exact va_tb C.1 C.2.1 (hKN.2.2.2.2.2.1.1 i hi).2.2.2 a4 (vp_in_nI hk (by omega)) (v := .int ((rk_sbyt.getD i []).getD k 0)) (by rw [nI_clamp (by omega)]) hd (kk p e Rm s m args below meth cd H locs la C (rk_oc trivial (rk_ot (rk_ot a1))) a2 a3 a4 a5)
theorem rk_gcs {idx : Nat} (hlink : Cond.fieldLink M.1.cls idx "java/lang/String" "COMPACT_STRINGS" "Z" ∈ rk_tbl) (hd : decode M.2.1 pc = .ok (.getstatic idx, 3)) (kk : rk_Wp w l M d mc ms G (pc + 3) ls (rk_i 1 :: st) Z I R) : rk_Wp w l M d mc ms G pc ls st Z I R := by
  intro p e Rm s m args below meth cd H locs la C a1 a2 a3 a4 a5
  have hKN := C.2.2.2.2.2.2.2.2.1
  exact va_gets C.1 C.2.1 hKN.2.2.1.2.2.1 a4 C.2.2.2.2.1 (C.2.2.2.2.2.1 _ hlink) (fun _ h => h) hd (kk p e Rm s m args below meth cd H locs la C (rk_oc trivial a1) a2 a3 a4 a5)
theorem rk_cVT {M' : rk_M} {d' n idx i : Nat} {as st0 : List rk_V} {x : Int32} (hi : i < 5) (hcls : M'.1.cls = "java/lang/String") (hC : rk_P w l M' d' (rk_t i :: as) Z.1 I R x) (hM : rk_MeV M' n) (hn : as.length = n) (hlink : Cond.methodLink M.1.cls idx M'.1 ∈ rk_tbl) (hd : decode M.2.1 pc = .ok (.invokevirtual idx, 3)) (hs : st0 = rk_rev (rk_t i :: as) st) (hroom : d' + 1 ≤ d) (hst : rk_cats st ≤ 8) (hz : Z.2.1 ≤ mc ∧ Z.2.2 ≤ ms) (kk : rk_Wp w l M d mc ms G (pc + 3) ls (rk_i x :: st) Z I R) : rk_Wp w l M d mc ms G pc ls st0 Z I R := by
  subst hs
  intro p e Rm s m args below meth cd H locs la C a1 a2 a3 a4 a5
  obtain ⟨o1, o2⟩ := rk_okrev a1
  have hKN := C.2.2.2.2.2.2.2.2.1
  have hMet := hC o1
  have hts := C.2.2.2.2.2.1
  have hB : CallB Rm s args M.1.cls idx M'.1 M'.2.1 M'.2.2.1 M'.2.2.2 (rk_ws M') (rk_rm d' 0 0) 0 0 n := callB_of n hts (rk_gws hM.1) rfl rfl rfl (hts _ hM.1.2.1) (hts _ hlink) hM.1.2.2.1 ⟨by show d' + 1 ≤ Rm.frames; have := C.2.2.2.2.2.2.2.2.2.1; omega, by show 8 + (M'.2.2.1 + 11) + 40 * d' ≤ Rm.locals; have := C.2.2.2.2.2.2.2.2.2.2.1; have := hM.1.2.2.2.1; omega⟩
  have hrecv := vk_recv hKN.2.2.2.2.2.1 hi a4
  rw [← hcls] at hrecv
  have hrun : va_Run p l e Rm s m args below meth cd H locs Z.2.1 Z.2.2 0 0 (F0 m pc la ((rk_rev (rk_t i :: as) st).map (rk_v w))) (st.map (rk_v w)) (rk_Qc w (fun r u => u = (Z.1, I, R) ∧ r = some (rk_i x)) ((rk_t i :: as).map (rk_v w)).toArray) (rk_A w) := va_runV (rest := st.map (rk_v w)) (As := as.map (rk_v w)) ⟨C.1, C.2.1, C.2.2.2.1, C.2.2.2.2.1, hts⟩ hMet ⟨hB, hts _ hM.2.1, hts _ hM.2.2⟩ ⟨rk_blind, hrecv, (fun U hU hW => ⟨rfl, hKN.call a4 hU hW, by rw [hU]; exact a3⟩)⟩ (g := F0 m pc la ((rk_rev (rk_t i :: as) st).map (rk_v w))) rfl (by rw [List.length_map]; exact hn) a5.1 (by show (rk_rev (rk_t i :: as) st).map (rk_v w) = (as.map (rk_v w)).reverse ++ .ref (w.2.2.2.2.1 i) :: st.map (rk_v w); rw [rk_rev_eq]; simp [rk_v]) (lv_room (by rw [rk_cats_eq]; exact hst)) hd ⟨Nat.le_trans hz.1 C.2.2.2.2.2.2.2.2.2.2.2.1, Nat.le_trans hz.2 C.2.2.2.2.2.2.2.2.2.2.2.2⟩
  refine rk_after hrun a4 (fun r u H1 locs1 hQ hro hH1 hS1 => ?_)
  obtain ⟨rfl, rfl⟩ := hQ
  exact kk p e Rm s m args below meth cd H1 locs1 la C (rk_oc trivial o2) a2 hH1 hS1 a5
/-- a method of two ints and a reference that is not looked at -/
theorem rk_body3 {Q : Option rk_V → rk_S → Prop} {S : rk_S} {x y : Int32} {v : Value} (hv : ¬ v.category = 2) (hp : plainName M.1.cls = true) (h3 : 3 ≤ M.2.2.1) (kk : rk_Wp w l M d 0 0 (rk_G w Q 0 0) 0 [(0, rk_i x), (1, rk_i y)] [] (S.1, 0, 0) S.2.1 S.2.2) : Met l M.1 (rk_ws M) (rk_rm d 0 0) (va_Pc [.int x, .int y, v] (fun U => rk_KN w U ∧ rk_HR w S.1 S.2.1 S.2.2 U.heap)) (rk_Qc w Q) 0 0 (rk_A w) := by
  refine Met.ofW (cc := M.2.1) (maxL := M.2.2.1) (ret := M.2.2.2) hp rfl ?_
  intro p e s m args below meth c s₁ B hml hvv
  obtain ⟨rfl, hKN, hHR⟩ := hvv
  have hlen : (lg_sl [.int x, .int y, v]).length = 3 := by cases v <;> first | rfl | exact absurd rfl hv
  have hl := lv_entry [.int x, .int y, v] (n := M.2.2.1) (by rw [hlen]; exact h3)
  have hl2 := lv_sub hl [0, 1] (l' := rk_ms w [(0, rk_i x), (1, rk_i y)]) rfl
  rw [lg_entry_eq]
  have hts : ∀ q ∈ rk_tbl, q.before ([.int x, .int y, v] : List Value).toArray s = true := fun q hq => atoms_spec (ws := rk_ws M) B.pre q (List.mem_cons_of_mem _ hq)
  exact kk p e _ s m _ below meth c s.heap [] _ ⟨B.exec, B.bytes, B.returns, hml, findClass_of_methodNamed B.named, hts, B.notSynchronized, (name_of_methodNamed B.named B.method).1, hKN, Nat.le_refl _, Nat.le_refl _, Nat.le_refl _, Nat.le_refl _⟩ (fun v h => by cases h) (fun v h => by
    rcases List.mem_cons.mp h with rfl | h
    · trivial
    · rcases List.mem_cons.mp h with rfl | h
      · trivial
      · cases h) hHR va_S.rf hl2
end DI
section DJ
variable {w : rk_W} {l : Launch} {Sh : rk_Sh} {I : rk_Mm} {R : rk_Rm}
theorem cJ3_checkIndex_s {k n : Nat} (hk : k < n) (hn : n < 2 ^ 31) : rk_Wp w l rk_mJ3_checkIndex_8e157 1 0 0 (rk_G w (fun r u => u = (Sh, I, R) ∧ r = some (rk_i (nI k))) 0 0) 0 [(0, rk_i (nI k)), (1, rk_i (nI n))] [] (Sh, 0, 0) I R := by
  refine rk_iload_n 0 dJ3_checkIndex_8e157_0 rfl rfl ?_
  refine rk_if_lt 9 dJ3_checkIndex_8e157_1 (by decide) (fun q => ?_) (fun q => ?_)
  · exact absurd q (nI_pos (by omega))
  refine rk_iload_n 0 dJ3_checkIndex_8e157_4 rfl rfl ?_
  refine rk_iload_n 1 dJ3_checkIndex_8e157_5 rfl rfl ?_
  refine rk_icmp_lt 16 dJ3_checkIndex_8e157_6 (by decide) (fun q2 => ?_) (fun q2 => ?_)
  · refine rk_iload_n 0 dJ3_checkIndex_8e157_16 rfl rfl ?_
    exact rk_iret dJ3_checkIndex_8e157_17 rfl rfl ⟨Nat.le_refl _, Nat.le_refl _⟩ ⟨rfl, rfl⟩
  · exact absurd (nI_lt hk hn) q2
theorem rk_ckx {G : List Frame → Array Value → State → State → Prop} {ls : List (Nat × rk_V)} {k n : Nat} {dd : Nat} (hdd : 2 ≤ dd) (hk : k < n) (hn : n < 2 ^ 31) (kk : rk_Wp w l rk_mJ0_checkIndex_df160 dd 0 0 G 8 ls [rk_i (nI k)] (Sh, 0, 0) I R) : rk_Wp w l rk_mJ0_checkIndex_df160 dd 0 0 G 2 ls [rk_i (nI n), rk_i (nI k)] (Sh, 0, 0) I R := by
  intro p e Rm s m args below meth cd H locs la C a1 a2 a3 a4 a5
  have hKN := C.2.2.2.2.2.2.2.2.1
  have hts := C.2.2.2.2.2.1
  have go : ∀ v : Value, ¬ v.category = 2 → v.category = 1 → W p l e Rm s m args below meth cd H locs 0 0 (G below args s) (F0 m 5 la [v, .int (nI n), .int (nI k)]) := by
    intro v hv hv1
    have hMet := rk_body3 (w := w) (l := l) (M := rk_mJ3_checkIndex_8e157) (d := 1) (S := (Sh, I, R)) (v := v) hv (by decide +kernel) (by decide) (cJ3_checkIndex_s hk hn)
    have hB : CallB Rm s args rk_mJ0_checkIndex_df160.1.cls 1059 yJ3_checkIndex_8e157 cJ3_checkIndex_8e157 3 (some .int) (rk_ws rk_mJ3_checkIndex_8e157) (rk_rm 1 0 0) 0 0 3 := callB_of 3 hts (rk_gws rk_eJ3_checkIndex_8e157.1) rfl rfl rfl (hts _ rk_eJ3_checkIndex_8e157.1.2.1) (hts _ (by exact rk_inT 803 (by decide +kernel) (by decide +kernel))) rk_eJ3_checkIndex_8e157.1.2.2.1 ⟨by show 1 + 1 ≤ Rm.frames; have := C.2.2.2.2.2.2.2.2.2.1; omega, by show 8 + (3 + 11) + 40 * 1 ≤ Rm.locals; have := C.2.2.2.2.2.2.2.2.2.2.1; omega⟩
    have hrun : va_Run p l e Rm s m args below meth cd H locs 0 0 0 0 (F0 m 5 la [v, .int (nI n), .int (nI k)]) [] (rk_Qc w (fun r u => u = (Sh, I, R) ∧ r = some (rk_i (nI k))) ([.int (nI k), .int (nI n), v] : List Value).toArray) (rk_A w) := va_runS (rest := []) (As := [.int (nI k), .int (nI n), v]) ⟨C.1, C.2.1, C.2.2.2.1, C.2.2.2.2.1, hts⟩ hMet ⟨hB, hts _ rk_eJ3_checkIndex_8e157.2⟩ ⟨(fun a U g mk h => ⟨h.1, h.2.1.call va_S.rf rfl (State.WarmedH.refl U), h.2.2⟩), (fun U hU hW => ⟨rfl, hKN.call a4 hU hW, by rw [hU]; exact a3⟩)⟩ (g := F0 m 5 la [v, .int (nI n), .int (nI k)]) rfl rfl a5.1 rfl (lv_room (by simp)) dJ0_checkIndex_df160_5 ⟨Nat.zero_le _, Nat.zero_le _⟩
    refine rk_after hrun a4 (fun r u H1 locs1 hQ hro hH1 hS1 => ?_)
    obtain ⟨rfl, rfl⟩ := hQ
    exact kk p e Rm s m args below meth cd H1 locs1 la C (rk_oc trivial (fun v h => by cases h)) a2 hH1 hS1 a5
  rcases hKN.2.2.1.2.2.2.1 with hq | ⟨t, hq⟩
  · exact va_gets C.1 C.2.1 hq a4 C.2.2.2.2.1 (hts (Cond.fieldLink "java/lang/String" 1053 "jdk/internal/util/Preconditions" "SIOOBE_FORMATTER" "Ljava/util/function/BiFunction;") (rk_inT 801 (by decide +kernel) (by decide +kernel))) (fun _ h => h) dJ0_checkIndex_df160_2 (go .null (by decide) rfl)
  · exact va_gets C.1 C.2.1 hq a4 C.2.2.2.2.1 (hts (Cond.fieldLink "java/lang/String" 1053 "jdk/internal/util/Preconditions" "SIOOBE_FORMATTER" "Ljava/util/function/BiFunction;") (rk_inT 801 (by decide +kernel) (by decide +kernel))) (fun _ h => h) dJ0_checkIndex_df160_2 (go (.ref t) (by simp [Value.category]) rfl)
theorem cJ0_checkIndex_s {k n : Nat} (hk : k < n) (hn : n < 2 ^ 31) : rk_U w l rk_mJ0_checkIndex_df160 2 [rk_i (nI k), rk_i (nI n)] Sh I R (fun I' R' => I' = I ∧ R' = R) := by
  refine rk_bU (ls := [(0, _), (1, _)]) (by decide +kernel) rfl (Nat.le_of_ble_eq_true rfl) ?_
  refine rk_iload_n 0 dJ0_checkIndex_df160_0 rfl rfl ?_
  refine rk_iload_n 1 dJ0_checkIndex_df160_1 rfl rfl ?_
  refine rk_ckx (by decide) hk hn ?_
  refine rk_pop dJ0_checkIndex_df160_8 rfl ?_
  refine rk_vretU dJ0_checkIndex_df160_9 rfl ?_
  exact ⟨rfl, rfl⟩
theorem cJ0_isEmpty_s {i : Nat} (hi : i < 5) : rk_P w l rk_mJ0_isEmpty_aae02 1 [rk_t i] Sh I R (if rk_slen.getD i 0 = 0 then 1 else 0) := by
  have h8 := rk_slt hi
  refine rk_bP (ls := [(0, _)]) (by decide +kernel) rfl (Nat.le_of_ble_eq_true rfl) ?_
  refine rk_aloadT_n 0 dJ0_isEmpty_aae02_0 rfl rfl ?_
  refine rk_tgv hi (by exact rk_inT 1185 (by decide +kernel) (by decide +kernel)) dJ0_isEmpty_aae02_1 ?_
  refine rk_tal hi dJ0_isEmpty_aae02_4 ?_
  refine rk_if_ne 12 dJ0_isEmpty_aae02_5 (by decide) (fun q => ?_) (fun q => ?_)
  · refine rk_iconst 0 dJ0_isEmpty_aae02_12 (by decide) ?_
    refine rk_iretP dJ0_isEmpty_aae02_13 rfl (by decide) ?_
    rw [if_neg (fun z => q (by rw [z]; rfl))]
  · refine rk_iconst 1 dJ0_isEmpty_aae02_8 (by decide) ?_
    refine rk_goto 13 dJ0_isEmpty_aae02_9 (by decide) ?_
    refine rk_iretP dJ0_isEmpty_aae02_13 rfl (by decide) ?_
    rw [if_pos ((nI_eq (by omega) (by decide)).mp (q.trans nI_0.symm))]
theorem cJ0_isLatin1_s {i : Nat} (hi : i < 5) : rk_P w l rk_mJ0_isLatin1_aae02 1 [rk_t i] Sh I R 1 := by
  refine rk_bP (ls := [(0, _)]) (by decide +kernel) rfl (Nat.le_of_ble_eq_true rfl) ?_
  refine rk_gcs (by exact rk_inT 785 (by decide +kernel) (by decide +kernel)) dJ0_isLatin1_aae02_0 ?_
  refine rk_if_eq 17 dJ0_isLatin1_aae02_3 (by decide) (fun q => ?_) (fun q => ?_)
  · exact absurd q (by decide)
  refine rk_aloadT_n 0 dJ0_isLatin1_aae02_6 rfl rfl ?_
  refine rk_tgc hi (by exact rk_inT 1186 (by decide +kernel) (by decide +kernel)) dJ0_isLatin1_aae02_7 ?_
  refine rk_if_ne 17 dJ0_isLatin1_aae02_10 (by decide) (fun q => ?_) (fun q => ?_)
  · exact absurd rfl q
  refine rk_iconst 1 dJ0_isLatin1_aae02_13 (by decide) ?_
  refine rk_goto 18 dJ0_isLatin1_aae02_14 (by decide) ?_
  exact rk_iretP dJ0_isLatin1_aae02_18 rfl (by decide) rfl
theorem cJ0_coder_s {i : Nat} (hi : i < 5) : rk_P w l rk_mJ0_coder_7d493 1 [rk_t i] Sh I R 0 := by
  refine rk_bP (ls := [(0, _)]) (by decide +kernel) rfl (Nat.le_of_ble_eq_true rfl) ?_
  refine rk_gcs (by exact rk_inT 785 (by decide +kernel) (by decide +kernel)) dJ0_coder_7d493_0 ?_
  refine rk_if_eq 13 dJ0_coder_7d493_3 (by decide) (fun q => ?_) (fun q => ?_)
  · exact absurd q (by decide)
  refine rk_aloadT_n 0 dJ0_coder_7d493_6 rfl rfl ?_
  refine rk_tgc hi (by exact rk_inT 1186 (by decide +kernel) (by decide +kernel)) dJ0_coder_7d493_7 ?_
  refine rk_goto 14 dJ0_coder_7d493_10 (by decide) ?_
  exact rk_iretP dJ0_coder_7d493_14 rfl (by decide) rfl
theorem cJ0_length_s {i : Nat} (hi : i < 5) : rk_P w l rk_mJ0_length_8abf5 2 [rk_t i] Sh I R (nI (rk_slen.getD i 0)) := by
  have h8 := rk_slt hi
  refine rk_bP (ls := [(0, _)]) (by decide +kernel) rfl (Nat.le_of_ble_eq_true rfl) ?_
  refine rk_aloadT_n 0 dJ0_length_8abf5_0 rfl rfl ?_
  refine rk_tgv hi (by exact rk_inT 1185 (by decide +kernel) (by decide +kernel)) dJ0_length_8abf5_1 ?_
  refine rk_tal hi dJ0_length_8abf5_4 ?_
  refine rk_aloadT_n 0 dJ0_length_8abf5_5 rfl rfl ?_
  refine rk_cVT hi rfl (cJ0_coder_s hi) rk_eJ0_coder_7d493 rfl (by exact rk_inT 781 (by decide +kernel) (by decide +kernel)) dJ0_length_8abf5_6 rfl (by decide) (Nat.le_of_ble_eq_true rfl) ⟨Nat.le_refl _, Nat.le_refl _⟩ ?_
  refine rk_ishr dJ0_length_8abf5_9 ?_
  refine rk_iretP dJ0_length_8abf5_10 rfl rfl ?_
  rcases (by omega : i = 0 ∨ i = 1 ∨ i = 2 ∨ i = 3 ∨ i = 4) with rfl | rfl | rfl | rfl | rfl <;> decide
theorem cJ1_charAt_s {i a k : Nat} (hi : i < 5) (hk : k < rk_slen.getD i 0) : rk_P w l rk_mJ1_charAt_3b067 3 [rk_a (110 + i) a, rk_i (nI k)] Sh I R ((rk_sbyt.getD i []).getD k 0) := by
  have h8 := rk_slt hi
  refine rk_bP (ls := [(0, _), (1, _)]) (by decide +kernel) rfl (Nat.le_of_ble_eq_true rfl) ?_
  refine rk_iload_n 1 dJ1_charAt_3b067_0 rfl rfl ?_
  refine rk_aload_n 0 dJ1_charAt_3b067_1 rfl rfl ?_
  refine rk_tal hi dJ1_charAt_3b067_2 ?_
  refine rk_cSv (cJ0_checkIndex_s hk (by omega)) rk_eJ0_checkIndex_df160 rfl (by exact rk_inT 798 (by decide +kernel) (by decide +kernel)) dJ1_charAt_3b067_3 rfl (by decide) (Nat.le_of_ble_eq_true rfl) ⟨Nat.le_refl _, Nat.le_refl _⟩ (fun I1 R1 h1 => ?_)
  obtain ⟨e1, e2⟩ := h1
  obtain rfl := e1.symm
  obtain rfl := e2.symm
  refine rk_aload_n 0 dJ1_charAt_3b067_6 rfl rfl ?_
  refine rk_iload_n 1 dJ1_charAt_3b067_7 rfl rfl ?_
  refine rk_tbal k hi rfl hk dJ1_charAt_3b067_8 ?_
  refine rk_sipush 255 dJ1_charAt_3b067_9 (by decide) ?_
  refine rk_iand dJ1_charAt_3b067_12 ?_
  refine rk_i2c dJ1_charAt_3b067_13 ?_
  have key : ∀ i, i < 5 → ∀ k, k < rk_slen.getD i 0 → ((((rk_sbyt.getD i []).getD k 0) &&& 255).toUInt32 % 65536).toInt32 = (rk_sbyt.getD i []).getD k 0 ∧ narrow .char (.int ((((rk_sbyt.getD i []).getD k 0) &&& 255).toUInt32 % 65536).toInt32) = .int ((((rk_sbyt.getD i []).getD k 0) &&& 255).toUInt32 % 65536).toInt32 := by decide +kernel
  exact rk_iretP dJ1_charAt_3b067_14 rfl (key i hi k hk).2 (key i hi k hk).1
theorem cJ0_charAt_s {i k : Nat} (hi : i < 5) (hk : k < rk_slen.getD i 0) : rk_P w l rk_mJ0_charAt_5068e 4 [rk_t i, rk_i (nI k)] Sh I R ((rk_sbyt.getD i []).getD k 0) := by
  refine rk_bP (ls := [(0, _), (1, _)]) (by decide +kernel) rfl (Nat.le_of_ble_eq_true rfl) ?_
  refine rk_aloadT_n 0 dJ0_charAt_5068e_0 rfl rfl ?_
  refine rk_cVT hi rfl (cJ0_isLatin1_s hi) rk_eJ0_isLatin1_aae02 rfl (by exact rk_inT 791 (by decide +kernel) (by decide +kernel)) dJ0_charAt_5068e_1 rfl (by decide) (Nat.le_of_ble_eq_true rfl) ⟨Nat.le_refl _, Nat.le_refl _⟩ ?_
  refine rk_if_eq 16 dJ0_charAt_5068e_4 (by decide) (fun q => ?_) (fun q => ?_)
  · exact absurd q (by decide)
  refine rk_aloadT_n 0 dJ0_charAt_5068e_7 rfl rfl ?_
  refine rk_tgv hi (by exact rk_inT 1185 (by decide +kernel) (by decide +kernel)) dJ0_charAt_5068e_8 ?_
  refine rk_iload_n 1 dJ0_charAt_5068e_11 rfl rfl ?_
  refine rk_cSp (cJ1_charAt_s hi hk) rk_eJ1_charAt_3b067 rfl (by exact rk_inT 795 (by decide +kernel) (by decide +kernel)) dJ0_charAt_5068e_12 rfl (by decide) (Nat.le_of_ble_eq_true rfl) ⟨Nat.le_refl _, Nat.le_refl _⟩ ?_
  have key : ∀ i, i < 5 → ∀ k, k < rk_slen.getD i 0 → narrow .char (.int ((rk_sbyt.getD i []).getD k 0)) = .int ((rk_sbyt.getD i []).getD k 0) := by decide +kernel
  exact rk_iretP dJ0_charAt_5068e_15 rfl (key i hi k hk) rfl
end DJ

