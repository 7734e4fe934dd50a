/-- an array's first n numbers become another's -/
def cl_cp (n : Nat) (f g : Nat → Int32) : Nat → Int32 := fun j => if j < n then f j else g j
theorem cl_cp_in {n j : Nat} {f g : Nat → Int32} (h : j < n) : cl_cp n f g j = f j := if_pos h
section RKR
variable {w : rk_W} {l : Launch} {M : rk_M} {d mc ms : Nat} {G : List Frame → Array Value → State → State → Prop} {pc : Nat} {ls : List (Nat × rk_V)} {st : List rk_V} {Z : rk_Z} {I : rk_Mm} {R : rk_Rm}
theorem rk_cp_t : Cond.static arraycopyName ∈ rk_tbl ∧ Cond.native arraycopyName ∈ rk_tbl ∧ Cond.initialized "java/lang/System" ∈ rk_tbl := ⟨rk_inT 37 (by decide +kernel) (by decide +kernel), rk_inT 38 (by decide +kernel) (by decide +kernel), rk_inT 4 (by decide +kernel) (by decide +kernel)⟩
theorem cl_cpy {n : Nat} {x : Int32} {f g : Nat → Int32} (hx : x.toNatClampNeg = n) : va_cpy f g (0 : Int32).toNatClampNeg (0 : Int32).toNatClampNeg x.toNatClampNeg = cl_cp n f g := by
  rw [hx]
  funext j
  simp [va_cpy, cl_cp]
theorem rk_copy (k n : Nat) (hk : k < 50) (hkd : rk_kd k = .inr (0, n, 0)) {idx a0 a : Nat} {x : Int32} (hx : x.toNatClampNeg = n ∧ ¬ x < 0) (hlink : Cond.methodLink M.1.cls idx arraycopyName ∈ rk_tbl) (hd : decode M.2.1 pc = .ok (.invokestatic idx, 3)) (hroom : 1 ≤ d) (hst : rk_cats st ≤ 8) (kk : ∀ I', I' = md_a I k a (cl_cp n (I k a0) (I k a)) → rk_Wp w l M d mc ms G (pc + 3) ls st Z I' R) : rk_Wp w l M d mc ms G pc ls (rk_i x :: rk_i 0 :: rk_a k a :: rk_i 0 :: rk_a k a0 :: st) Z I R := by
  intro p e Rm s m args below meth cd H locs la C a1 a2 a3 a4 a5
  have hts := C.2.2.2.2.2.1
  have hok := rk_kok (rk_oh (rk_ot (rk_ot a1))) (by omega)
  have hok0 := rk_kok (rk_oh (rk_ot (rk_ot (rk_ot (rk_ot a1))))) (by omega)
  obtain ⟨ha, q1, hq1⟩ := rk_at a3 hok.1 hok.2
  obtain ⟨ha0, q0, hq0⟩ := rk_at a3 hok0.1 hok0.2
  have hkk : k % 50 = k := by omega
  have e1 : rk_F w Z.1.2 I R a = .inl (w.2.1 0, n, .inl (I k a)) := by show rk_ent w I R (Z.1.2 a) a = _; rw [hok.1]; exact rk_inr hkd hkk
  have e0 : rk_F w Z.1.2 I R a0 = .inl (w.2.1 0, n, .inl (I k a0)) := by show rk_ent w I R (Z.1.2 a0) a0 = _; rw [hok0.1]; exact rk_inr hkd hkk
  have hr1 := hq1
  rw [e1] at hr1
  rw [e0] at hq0
  refine va_copyi C.1 C.2.1 (C.2.2.2.1.trans a5.1.symm) C.2.2.2.2.1 (hts _ hlink) (hts _ rk_cp_t.2.1) (hts _ rk_cp_t.1) (hts _ rk_cp_t.2.2) C.2.2.2.2.2.2.2.2.1.1 a3.1 a3.2.1 a4 q0 q1 0 0 hq0 hr1 rfl rfl rfl (by decide) (by decide) hx.2 (by rw [hx.1]; exact Nat.le_of_eq (Nat.zero_add n)) (by rw [hx.1]; exact Nat.le_of_eq (Nat.zero_add n)) (fun _ _ => rfl) (by have := C.2.2.2.2.2.2.2.2.2.1; omega) (by rw [rk_cats_eq]; have := C.2.2.2.2.2.2.2.2.2.2.1; have : nativeFrameWords "java/lang/System" "arraycopy" 5 = 7 := (by decide +kernel); omega) hd (fun H1 locs1 hP1 hD1 hS1 => ?_)
  refine kk _ rfl p e Rm s m args below meth cd H1 locs1 la C (rk_ot (rk_ot (rk_ot (rk_ot (rk_ot a1))))) a2 (rk_HRset a3 ha hq1 ?_ (fun c' b j hb => by rw [md_an (fun h => hb h.2)]) (fun _ _ _ _ => rfl) a3.2.2.2.2 hP1 hD1) hS1 a5
  rw [hok.1, rk_inr hkd hkk, md_as, cl_cpy hx.1]
theorem rk_cp17 {idx a0 a : Nat} (hlink : Cond.methodLink M.1.cls idx arraycopyName ∈ rk_tbl) (hd : decode M.2.1 pc = .ok (.invokestatic idx, 3)) (hroom : 1 ≤ d) (hst : rk_cats st ≤ 8) (kk : ∀ I', I' = md_a I 17 a (cl_cp 10 (I 17 a0) (I 17 a)) → rk_Wp w l M d mc ms G (pc + 3) ls st Z I' R) : rk_Wp w l M d mc ms G pc ls (rk_i 10 :: rk_i 0 :: rk_a 17 a :: rk_i 0 :: rk_a 17 a0 :: st) Z I R := rk_copy 17 10 (by decide) rfl (by decide) hlink hd hroom hst kk
theorem rk_cp18 {idx a0 a : Nat} (hlink : Cond.methodLink M.1.cls idx arraycopyName ∈ rk_tbl) (hd : decode M.2.1 pc = .ok (.invokestatic idx, 3)) (hroom : 1 ≤ d) (hst : rk_cats st ≤ 8) (kk : ∀ I', I' = md_a I 18 a (cl_cp 3 (I 18 a0) (I 18 a)) → rk_Wp w l M d mc ms G (pc + 3) ls st Z I' R) : rk_Wp w l M d mc ms G pc ls (rk_i 3 :: rk_i 0 :: rk_a 18 a :: rk_i 0 :: rk_a 18 a0 :: st) Z I R := rk_copy 18 3 (by decide) rfl (by decide) hlink hd hroom hst kk
theorem rk_cp19 {idx a0 a : Nat} (hlink : Cond.methodLink M.1.cls idx arraycopyName ∈ rk_tbl) (hd : decode M.2.1 pc = .ok (.invokestatic idx, 3)) (hroom : 1 ≤ d) (hst : rk_cats st ≤ 8) (kk : ∀ I', I' = md_a I 19 a (cl_cp 3 (I 19 a0) (I 19 a)) → rk_Wp w l M d mc ms G (pc + 3) ls st Z I' R) : rk_Wp w l M d mc ms G pc ls (rk_i 3 :: rk_i 0 :: rk_a 19 a :: rk_i 0 :: rk_a 19 a0 :: st) Z I R := rk_copy 19 3 (by decide) rfl (by decide) hlink hd hroom hst kk
theorem rk_cp22 {idx a0 a : Nat} (hlink : Cond.methodLink M.1.cls idx arraycopyName ∈ rk_tbl) (hd : decode M.2.1 pc = .ok (.invokestatic idx, 3)) (hroom : 1 ≤ d) (hst : rk_cats st ≤ 8) (kk : ∀ I', I' = md_a I 22 a (cl_cp 6 (I 22 a0) (I 22 a)) → rk_Wp w l M d mc ms G (pc + 3) ls st Z I' R) : rk_Wp w l M d mc ms G pc ls (rk_i 6 :: rk_i 0 :: rk_a 22 a :: rk_i 0 :: rk_a 22 a0 :: st) Z I R := rk_copy 22 6 (by decide) rfl (by decide) hlink hd hroom hst kk
end RKR

