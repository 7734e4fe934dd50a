section DZ
variable {w : rk_W} {l : Launch} {M : rk_M} {d mc ms : Nat} {G : List Frame → Array Value → State → State → Prop} {pc : Nat} {ls : List (Nat × rk_V)} {st : List rk_V} {Z : rk_Z} {I : rk_Mm} {R : rk_Rm}
theorem rk_copyf (k n i : Nat) (hi : i < 5) (hk : k < 50) (hkd : rk_kd k = .inr (0, n, 0)) (hw : n ≤ (rk_fz w i).2.1) {idx a0 a : Nat} {x : Int32} (hx : x.toNatClampNeg = n ∧ ¬ x < 0) (hlink : Cond.methodLink M.1.cls idx arraycopyName ∈ rk_tbl) (hd : decode M.2.1 pc = .ok (.invokestatic idx, 3)) (hroom : 1 ≤ d) (hst : rk_cats st ≤ 8) (kk : ∀ I', I' = md_a I k a (cl_cp n (rk_fz w i).2.2 (I k a)) → rk_Wp w l M d mc ms G (pc + 3) ls st Z I' R) : rk_Wp w l M d mc ms G pc ls (rk_i x :: rk_i 0 :: rk_a k a :: rk_i 0 :: rk_a (100 + i) a0 :: st) Z I R := by
  intro p e Rm s m args below meth cd H locs la C a1 a2 a3 a4 a5
  have hts := C.2.2.2.2.2.1
  have hKN := C.2.2.2.2.2.2.2.2.1
  have hok := rk_kok (rk_oh (rk_ot (rk_ot a1))) (by omega)
  have hb : a0 = (rk_fz w i).1 := by
    rcases rk_oh (rk_ot (rk_ot (rk_ot (rk_ot a1)))) with h | h | h
    · exact absurd h.1 (by show ¬ 100 + i < 100; omega)
    · have := h.2.2
      rw [show (100 + i, a0).1 - 100 = i by show 100 + i - 100 = i; omega] at this
      exact this
    · exact absurd h.1 (by show ¬ 110 ≤ 100 + i; omega)
  subst hb
  have hX := hKN.2.1 i (by omega)
  have h9 := hKN.2.2.2.2.2.2.2.2
  obtain ⟨ha, q1, hq1⟩ := rk_at a3 hok.1 hok.2
  have hkk : k % 50 = k := by omega
  have e1 : rk_F w Z.1.2 I R a = .inl (w.2.1 0, n, .inl (I k a)) := by show rk_ent w I R (Z.1.2 a) a = _; rw [hok.1]; exact rk_inr hkd hkk
  have hr1 := hq1
  rw [e1] at hr1
  refine va_copyx C.1 C.2.1 (C.2.2.2.1.trans a5.1.symm) C.2.2.2.2.1 (hts _ hlink) (hts _ rk_cp_t.2.1) (hts _ rk_cp_t.1) (hts _ rk_cp_t.2.2) hKN.1 a3.1 a3.2.1 a4 hX.1 (Nat.lt_of_lt_of_le hX.2 h9) (fun z => by have z2 : w.2.2.1 ≤ (rk_fz w i).1 := z; have := hX.2; omega) q1 0 hr1 rfl (by decide) (by decide) hx.2 (by rw [hx.1]; show 0 + n ≤ _; omega) (by rw [hx.1]; exact Nat.le_of_eq (Nat.zero_add n)) (by have := C.2.2.2.2.2.2.2.2.2.1; omega) (by rw [rk_cats_eq]; have := C.2.2.2.2.2.2.2.2.2.2.1; have : nativeFrameWords "java/lang/System" "arraycopy" 5 = 7 := (by decide +kernel); omega) hd (fun H1 locs1 hP1 hD1 hS1 => ?_)
  refine kk _ rfl p e Rm s m args below meth cd H1 locs1 la C (rk_ot (rk_ot (rk_ot (rk_ot (rk_ot a1))))) a2 (rk_HRset a3 ha hq1 ?_ (fun c' b j hb => by rw [md_an (fun h => hb h.2)]) (fun _ _ _ _ => rfl) a3.2.2.2.2 hP1 hD1) hS1 a5
  rw [hok.1, rk_inr hkd hkk, md_as, cl_cpy hx.1]
end DZ

