section RKR
variable {w : rk_W} {l : Launch} {M : rk_M} {d mc ms : Nat} {G : List Frame → Array Value → State → State → Prop} {pc : Nat} {ls : List (Nat × rk_V)} {st : List rk_V} {Z : rk_Z} {I : rk_Mm} {R : rk_Rm}
theorem rk_iconst {n : Int} (v : Int32) (hd : decode M.2.1 pc = .ok (.iconst n, 1)) (hv : Int32.ofInt n = v) (kk : rk_Wp w l M d mc ms G (pc + 1) (ls) (rk_i v :: st) Z I R) : rk_Wp w l M d mc ms G (pc) (ls) (st) Z I R := by
  intro p e Rm s m args below meth cd H locs la C a1 a2 a3 a4 a5
  exact lv_iconst C.1 C.2.1 hd hv (kk p e Rm s m args below meth cd H locs la C (rk_oc trivial a1) a2 a3 a4 a5)
theorem rk_bipush {n : Int} (v : Int32) (hd : decode M.2.1 pc = .ok (.bipush n, 2)) (hv : (Int8.ofInt n).toInt32 = v) (kk : rk_Wp w l M d mc ms G (pc + 2) (ls) (rk_i v :: st) Z I R) : rk_Wp w l M d mc ms G (pc) (ls) (st) Z I R := by
  intro p e Rm s m args below meth cd H locs la C a1 a2 a3 a4 a5
  exact lv_bipush C.1 C.2.1 hd hv (kk p e Rm s m args below meth cd H locs la C (rk_oc trivial a1) a2 a3 a4 a5)
theorem rk_sipush {n : Int} (v : Int32) (hd : decode M.2.1 pc = .ok (.sipush n, 3)) (hv : (Int16.ofInt n).toInt32 = v) (kk : rk_Wp w l M d mc ms G (pc + 3) (ls) (rk_i v :: st) Z I R) : rk_Wp w l M d mc ms G (pc) (ls) (st) Z I R := by
  intro p e Rm s m args below meth cd H locs la C a1 a2 a3 a4 a5
  exact lv_sipush C.1 C.2.1 hd hv (kk p e Rm s m args below meth cd H locs la C (rk_oc trivial a1) a2 a3 a4 a5)
theorem rk_lconst {n : Fin 2} (v : Int64) (hd : decode M.2.1 pc = .ok (.lconst n, 1)) (hv : Int64.ofNat (n : Nat) = v) (kk : rk_Wp w l M d mc ms G (pc + 1) (ls) (rk_l v :: st) Z I R) : rk_Wp w l M d mc ms G (pc) (ls) (st) Z I R := by
  intro p e Rm s m args below meth cd H locs la C a1 a2 a3 a4 a5
  exact lv_lconst C.1 C.2.1 hd hv (kk p e Rm s m args below meth cd H locs la C (rk_oc trivial a1) a2 a3 a4 a5)
theorem rk_ldc {idx : Nat} (v : Int32) (hd : decode M.2.1 pc = .ok (.ldc idx, 2)) (hk : Cond.constant M.1.cls idx v ∈ rk_tbl) (kk : rk_Wp w l M d mc ms G (pc + 2) (ls) (rk_i v :: st) Z I R) : rk_Wp w l M d mc ms G (pc) (ls) (st) Z I R := by
  intro p e Rm s m args below meth cd H locs la C a1 a2 a3 a4 a5
  exact lv_ldc C.1 C.2.1 C.2.2.2.2.1 (C.2.2.2.2.2.1 _ hk) hd (kk p e Rm s m args below meth cd H locs la C (rk_oc trivial a1) a2 a3 a4 a5)
theorem rk_ldc2 {idx : Nat} (v : Int64) (hd : decode M.2.1 pc = .ok (.ldc2_w idx, 3)) (hk : Cond.constantLong M.1.cls idx v ∈ rk_tbl) (kk : rk_Wp w l M d mc ms G (pc + 3) (ls) (rk_l v :: st) Z I R) : rk_Wp w l M d mc ms G (pc) (ls) (st) Z I R := by
  intro p e Rm s m args below meth cd H locs la C a1 a2 a3 a4 a5
  exact lv_ldc2 C.1 C.2.1 C.2.2.2.2.1 (C.2.2.2.2.2.1 _ hk) hd (kk p e Rm s m args below meth cd H locs la C (rk_oc trivial a1) a2 a3 a4 a5)
theorem rk_iload_n {k : Fin 4} (i : Nat) {x : Int32} (hd : decode M.2.1 pc = .ok (.iload_n k, 1)) (hi : (k : Nat) = i) (hl : rk_lk i ls = some (rk_i x)) (kk : rk_Wp w l M d mc ms G (pc + 1) (ls) (rk_i x :: st) Z I R) : rk_Wp w l M d mc ms G (pc) (ls) (st) Z I R := by
  intro p e Rm s m args below meth cd H locs la C a1 a2 a3 a4 a5
  exact lv_iload_n C.1 C.2.1 hd hi (rk_lv a5 hl) (kk p e Rm s m args below meth cd H locs la C (rk_oc trivial a1) a2 a3 a4 a5)
theorem rk_iload {i : Nat} {x : Int32} (hd : decode M.2.1 pc = .ok (.iload i, 2)) (hl : rk_lk i ls = some (rk_i x)) (kk : rk_Wp w l M d mc ms G (pc + 2) (ls) (rk_i x :: st) Z I R) : rk_Wp w l M d mc ms G (pc) (ls) (st) Z I R := by
  intro p e Rm s m args below meth cd H locs la C a1 a2 a3 a4 a5
  exact lv_iload C.1 C.2.1 hd (rk_lv a5 hl) (kk p e Rm s m args below meth cd H locs la C (rk_oc trivial a1) a2 a3 a4 a5)
theorem rk_lload_n {k : Fin 4} (i : Nat) {x : Int64} (hd : decode M.2.1 pc = .ok (.lload_n k, 1)) (hi : (k : Nat) = i) (hl : rk_lk i ls = some (rk_l x)) (kk : rk_Wp w l M d mc ms G (pc + 1) (ls) (rk_l x :: st) Z I R) : rk_Wp w l M d mc ms G (pc) (ls) (st) Z I R := by
  intro p e Rm s m args below meth cd H locs la C a1 a2 a3 a4 a5
  exact lv_lload_n C.1 C.2.1 hd hi (rk_lv a5 hl) (kk p e Rm s m args below meth cd H locs la C (rk_oc trivial a1) a2 a3 a4 a5)
theorem rk_lload {i : Nat} {x : Int64} (hd : decode M.2.1 pc = .ok (.lload i, 2)) (hl : rk_lk i ls = some (rk_l x)) (kk : rk_Wp w l M d mc ms G (pc + 2) (ls) (rk_l x :: st) Z I R) : rk_Wp w l M d mc ms G (pc) (ls) (st) Z I R := by
  intro p e Rm s m args below meth cd H locs la C a1 a2 a3 a4 a5
  exact lv_lload C.1 C.2.1 hd (rk_lv a5 hl) (kk p e Rm s m args below meth cd H locs la C (rk_oc trivial a1) a2 a3 a4 a5)
theorem rk_aload_n {k : Fin 4} (i : Nat) {k0 a : Nat} (hd : decode M.2.1 pc = .ok (.aload_n k, 1)) (hi : (k : Nat) = i) (hl : rk_lk i ls = some (rk_a k0 a)) (kk : rk_Wp w l M d mc ms G (pc + 1) (ls) (rk_a k0 a :: st) Z I R) : rk_Wp w l M d mc ms G (pc) (ls) (st) Z I R := by
  intro p e Rm s m args below meth cd H locs la C a1 a2 a3 a4 a5
  exact lv_aload_n C.1 C.2.1 hd hi (rk_lv a5 hl) (kk p e Rm s m args below meth cd H locs la C (rk_oc (rk_lo a2 hl) a1) a2 a3 a4 a5)
theorem rk_aload {i : Nat} {k0 a : Nat} (hd : decode M.2.1 pc = .ok (.aload i, 2)) (hl : rk_lk i ls = some (rk_a k0 a)) (kk : rk_Wp w l M d mc ms G (pc + 2) (ls) (rk_a k0 a :: st) Z I R) : rk_Wp w l M d mc ms G (pc) (ls) (st) Z I R := by
  intro p e Rm s m args below meth cd H locs la C a1 a2 a3 a4 a5
  exact lv_aload C.1 C.2.1 hd (rk_lv a5 hl) (kk p e Rm s m args below meth cd H locs la C (rk_oc (rk_lo a2 hl) a1) a2 a3 a4 a5)
theorem rk_aloadT_n {k : Fin 4} (i : Nat) {a : Nat} (hd : decode M.2.1 pc = .ok (.aload_n k, 1)) (hi : (k : Nat) = i) (hl : rk_lk i ls = some (rk_t a)) (kk : rk_Wp w l M d mc ms G (pc + 1) (ls) (rk_t a :: st) Z I R) : rk_Wp w l M d mc ms G (pc) (ls) (st) Z I R := by
  intro p e Rm s m args below meth cd H locs la C a1 a2 a3 a4 a5
  exact lv_aload_n C.1 C.2.1 hd hi (rk_lv a5 hl) (kk p e Rm s m args below meth cd H locs la C (rk_oc (rk_lo a2 hl) a1) a2 a3 a4 a5)
theorem rk_aloadT {i : Nat} {a : Nat} (hd : decode M.2.1 pc = .ok (.aload i, 2)) (hl : rk_lk i ls = some (rk_t a)) (kk : rk_Wp w l M d mc ms G (pc + 2) (ls) (rk_t a :: st) Z I R) : rk_Wp w l M d mc ms G (pc) (ls) (st) Z I R := by
  intro p e Rm s m args below meth cd H locs la C a1 a2 a3 a4 a5
  exact lv_aload C.1 C.2.1 hd (rk_lv a5 hl) (kk p e Rm s m args below meth cd H locs la C (rk_oc (rk_lo a2 hl) a1) a2 a3 a4 a5)
theorem rk_istore_n {k : Fin 4} (i : Nat) {x : Int32} {ls' : List (Nat × rk_V)} (hd : decode M.2.1 pc = .ok (.istore_n k, 1)) (hi : (k : Nat) = i) (hn : i < M.2.2.1) (hs : (i, rk_i x) :: rk_rm1 i ls = ls') (kk : rk_Wp w l M d mc ms G (pc + 1) (ls') (st) Z I R) : rk_Wp w l M d mc ms G (pc) (ls) (rk_i x :: st) Z I R := by
  intro p e Rm s m args below meth cd H locs la C a1 a2 a3 a4 a5
  refine lv_istore_n (lv' := rk_ms w ls') C.1 C.2.1 hd hi a5 hn (by rw [rk_rm1_map, ← hs]; rfl) (fun la' h' => ?_)
  exact kk p e Rm s m args below meth cd H locs la' C (rk_ot a1) (by rw [← hs]; exact rk_oc (trivial) (rk_rm1_ok a2)) a3 a4 h'
theorem rk_istore {i : Nat} {x : Int32} {ls' : List (Nat × rk_V)} (hd : decode M.2.1 pc = .ok (.istore i, 2)) (hn : i < M.2.2.1) (hs : (i, rk_i x) :: rk_rm1 i ls = ls') (kk : rk_Wp w l M d mc ms G (pc + 2) (ls') (st) Z I R) : rk_Wp w l M d mc ms G (pc) (ls) (rk_i x :: st) Z I R := by
  intro p e Rm s m args below meth cd H locs la C a1 a2 a3 a4 a5
  refine lv_istore (lv' := rk_ms w ls') C.1 C.2.1 hd a5 hn (by rw [rk_rm1_map, ← hs]; rfl) (fun la' h' => ?_)
  exact kk p e Rm s m args below meth cd H locs la' C (rk_ot a1) (by rw [← hs]; exact rk_oc (trivial) (rk_rm1_ok a2)) a3 a4 h'
theorem rk_lstore_n {k : Fin 4} (i : Nat) {x : Int64} {ls' : List (Nat × rk_V)} (hd : decode M.2.1 pc = .ok (.lstore_n k, 1)) (hi : (k : Nat) = i) (hn : i + 1 < M.2.2.1) (hs : (i, rk_l x) :: rk_rm2 i ls = ls') (kk : rk_Wp w l M d mc ms G (pc + 1) (ls') (st) Z I R) : rk_Wp w l M d mc ms G (pc) (ls) (rk_l x :: st) Z I R := by
  intro p e Rm s m args below meth cd H locs la C a1 a2 a3 a4 a5
  refine lv_lstore_n (lv' := rk_ms w ls') C.1 C.2.1 hd hi a5 hn (by rw [rk_rm2_map, ← hs]; rfl) (fun la' h' => ?_)
  exact kk p e Rm s m args below meth cd H locs la' C (rk_ot a1) (by rw [← hs]; exact rk_oc (trivial) (rk_rm2_ok a2)) a3 a4 h'
theorem rk_lstore {i : Nat} {x : Int64} {ls' : List (Nat × rk_V)} (hd : decode M.2.1 pc = .ok (.lstore i, 2)) (hn : i + 1 < M.2.2.1) (hs : (i, rk_l x) :: rk_rm2 i ls = ls') (kk : rk_Wp w l M d mc ms G (pc + 2) (ls') (st) Z I R) : rk_Wp w l M d mc ms G (pc) (ls) (rk_l x :: st) Z I R := by
  intro p e Rm s m args below meth cd H locs la C a1 a2 a3 a4 a5
  refine lv_lstore (lv' := rk_ms w ls') C.1 C.2.1 hd a5 hn (by rw [rk_rm2_map, ← hs]; rfl) (fun la' h' => ?_)
  exact kk p e Rm s m args below meth cd H locs la' C (rk_ot a1) (by rw [← hs]; exact rk_oc (trivial) (rk_rm2_ok a2)) a3 a4 h'
theorem rk_astore_n {k : Fin 4} (i : Nat) {k0 a : Nat} {ls' : List (Nat × rk_V)} (hd : decode M.2.1 pc = .ok (.astore_n k, 1)) (hi : (k : Nat) = i) (hn : i < M.2.2.1) (hs : (i, rk_a k0 a) :: rk_rm1 i ls = ls') (kk : rk_Wp w l M d mc ms G (pc + 1) (ls') (st) Z I R) : rk_Wp w l M d mc ms G (pc) (ls) (rk_a k0 a :: st) Z I R := by
  intro p e Rm s m args below meth cd H locs la C a1 a2 a3 a4 a5
  refine lv_astore_n (lv' := rk_ms w ls') C.1 C.2.1 hd hi a5 hn (by rw [rk_rm1_map, ← hs]; rfl) (fun la' h' => ?_)
  exact kk p e Rm s m args below meth cd H locs la' C (rk_ot a1) (by rw [← hs]; exact rk_oc (rk_oh a1) (rk_rm1_ok a2)) a3 a4 h'
theorem rk_astore {i : Nat} {k0 a : Nat} {ls' : List (Nat × rk_V)} (hd : decode M.2.1 pc = .ok (.astore i, 2)) (hn : i < M.2.2.1) (hs : (i, rk_a k0 a) :: rk_rm1 i ls = ls') (kk : rk_Wp w l M d mc ms G (pc + 2) (ls') (st) Z I R) : rk_Wp w l M d mc ms G (pc) (ls) (rk_a k0 a :: st) Z I R := by
  intro p e Rm s m args below meth cd H locs la C a1 a2 a3 a4 a5
  refine lv_astore (lv' := rk_ms w ls') C.1 C.2.1 hd a5 hn (by rw [rk_rm1_map, ← hs]; rfl) (fun la' h' => ?_)
  exact kk p e Rm s m args below meth cd H locs la' C (rk_ot a1) (by rw [← hs]; exact rk_oc (rk_oh a1) (rk_rm1_ok a2)) a3 a4 h'
theorem rk_astoreT_n {k : Fin 4} (i : Nat) {a : Nat} {ls' : List (Nat × rk_V)} (hd : decode M.2.1 pc = .ok (.astore_n k, 1)) (hi : (k : Nat) = i) (hn : i < M.2.2.1) (hs : (i, rk_t a) :: rk_rm1 i ls = ls') (kk : rk_Wp w l M d mc ms G (pc + 1) (ls') (st) Z I R) : rk_Wp w l M d mc ms G (pc) (ls) (rk_t a :: st) Z I R := by
  intro p e Rm s m args below meth cd H locs la C a1 a2 a3 a4 a5
  refine lv_astore_n (lv' := rk_ms w ls') C.1 C.2.1 hd hi a5 hn (by rw [rk_rm1_map, ← hs]; rfl) (fun la' h' => ?_)
  exact kk p e Rm s m args below meth cd H locs la' C (rk_ot a1) (by rw [← hs]; exact rk_oc (rk_oh a1) (rk_rm1_ok a2)) a3 a4 h'
theorem rk_astoreT {i : Nat} {a : Nat} {ls' : List (Nat × rk_V)} (hd : decode M.2.1 pc = .ok (.astore i, 2)) (hn : i < M.2.2.1) (hs : (i, rk_t a) :: rk_rm1 i ls = ls') (kk : rk_Wp w l M d mc ms G (pc + 2) (ls') (st) Z I R) : rk_Wp w l M d mc ms G (pc) (ls) (rk_t a :: st) Z I R := by
  intro p e Rm s m args below meth cd H locs la C a1 a2 a3 a4 a5
  refine lv_astore (lv' := rk_ms w ls') C.1 C.2.1 hd a5 hn (by rw [rk_rm1_map, ← hs]; rfl) (fun la' h' => ?_)
  exact kk p e Rm s m args below meth cd H locs la' C (rk_ot a1) (by rw [← hs]; exact rk_oc (rk_oh a1) (rk_rm1_ok a2)) a3 a4 h'
theorem rk_getM {w : rk_W} {i : Nat} {v : rk_V} : ∀ {ls : List (Nat × rk_V)}, rk_lk i ls = some v → ∃ k : Nat, (rk_ms w ls)[k]? = some (i, rk_v w v) := fun h => List.getElem?_of_mem (List.mem_map.mpr ⟨(i, _), rk_lk_mem h, rfl⟩)
theorem rk_iinc {i : Nat} {n : Int} {x : Int32} (v : Int32) {ls' : List (Nat × rk_V)} (hd : decode M.2.1 pc = .ok (.iinc i n, 3)) (hn : i < M.2.2.1) (hl : rk_lk i ls = some (rk_i x)) (hv : Int32.ofInt n = v) (hs : (i, rk_i (x + v)) :: rk_rm1 i ls = ls') (kk : rk_Wp w l M d mc ms G (pc + 3) (ls') (st) Z I R) : rk_Wp w l M d mc ms G (pc) (ls) (st) Z I R := by
  intro p e Rm s m args below meth cd H locs la C a1 a2 a3 a4 a5
  obtain ⟨j, hj⟩ := rk_getM (w := w) hl
  refine lv_iinc (v := x + v) (lv' := rk_ms w ls') C.1 C.2.1 hd a5 hj (by rw [hv]) hn (by rw [rk_rm1_map, ← hs]; rfl) (fun la' h' => ?_)
  exact kk p e Rm s m args below meth cd H locs la' C a1 (by rw [← hs]; exact rk_oc trivial (rk_rm1_ok a2)) a3 a4 h'
theorem rk_iadd {x y : Int32} (hd : decode M.2.1 pc = .ok (.iadd, 1))  (kk : rk_Wp w l M d mc ms G (pc + 1) (ls) (rk_i (x + y) :: st) Z I R) : rk_Wp w l M d mc ms G (pc) (ls) (rk_i y :: rk_i x :: st) Z I R := by
  intro p e Rm s m args below meth cd H locs la C a1 a2 a3 a4 a5
  exact lv_iadd C.1 C.2.1 hd (kk p e Rm s m args below meth cd H locs la C (rk_oc trivial (rk_ot (rk_ot a1))) a2 a3 a4 a5)
theorem rk_isub {x y : Int32} (hd : decode M.2.1 pc = .ok (.isub, 1))  (kk : rk_Wp w l M d mc ms G (pc + 1) (ls) (rk_i (x - y) :: st) Z I R) : rk_Wp w l M d mc ms G (pc) (ls) (rk_i y :: rk_i x :: st) Z I R := by
  intro p e Rm s m args below meth cd H locs la C a1 a2 a3 a4 a5
  exact lv_isub C.1 C.2.1 hd (kk p e Rm s m args below meth cd H locs la C (rk_oc trivial (rk_ot (rk_ot a1))) a2 a3 a4 a5)
theorem rk_imul {x y : Int32} (hd : decode M.2.1 pc = .ok (.imul, 1))  (kk : rk_Wp w l M d mc ms G (pc + 1) (ls) (rk_i (x * y) :: st) Z I R) : rk_Wp w l M d mc ms G (pc) (ls) (rk_i y :: rk_i x :: st) Z I R := by
  intro p e Rm s m args below meth cd H locs la C a1 a2 a3 a4 a5
  exact lv_imul C.1 C.2.1 hd (kk p e Rm s m args below meth cd H locs la C (rk_oc trivial (rk_ot (rk_ot a1))) a2 a3 a4 a5)
theorem rk_iand {x y : Int32} (hd : decode M.2.1 pc = .ok (.iand, 1))  (kk : rk_Wp w l M d mc ms G (pc + 1) (ls) (rk_i (x &&& y) :: st) Z I R) : rk_Wp w l M d mc ms G (pc) (ls) (rk_i y :: rk_i x :: st) Z I R := by
  intro p e Rm s m args below meth cd H locs la C a1 a2 a3 a4 a5
  exact lv_iand C.1 C.2.1 hd (kk p e Rm s m args below meth cd H locs la C (rk_oc trivial (rk_ot (rk_ot a1))) a2 a3 a4 a5)
theorem rk_ior {x y : Int32} (hd : decode M.2.1 pc = .ok (.ior, 1))  (kk : rk_Wp w l M d mc ms G (pc + 1) (ls) (rk_i (x ||| y) :: st) Z I R) : rk_Wp w l M d mc ms G (pc) (ls) (rk_i y :: rk_i x :: st) Z I R := by
  intro p e Rm s m args below meth cd H locs la C a1 a2 a3 a4 a5
  exact lv_ior C.1 C.2.1 hd (kk p e Rm s m args below meth cd H locs la C (rk_oc trivial (rk_ot (rk_ot a1))) a2 a3 a4 a5)
theorem rk_ishl {x y : Int32} (hd : decode M.2.1 pc = .ok (.ishl, 1))  (kk : rk_Wp w l M d mc ms G (pc + 1) (ls) (rk_i (x <<< (y &&& 31)) :: st) Z I R) : rk_Wp w l M d mc ms G (pc) (ls) (rk_i y :: rk_i x :: st) Z I R := by
  intro p e Rm s m args below meth cd H locs la C a1 a2 a3 a4 a5
  exact lv_ishl C.1 C.2.1 hd (kk p e Rm s m args below meth cd H locs la C (rk_oc trivial (rk_ot (rk_ot a1))) a2 a3 a4 a5)
theorem rk_ishr {x y : Int32} (hd : decode M.2.1 pc = .ok (.ishr, 1))  (kk : rk_Wp w l M d mc ms G (pc + 1) (ls) (rk_i (x >>> (y &&& 31)) :: st) Z I R) : rk_Wp w l M d mc ms G (pc) (ls) (rk_i y :: rk_i x :: st) Z I R := by
  intro p e Rm s m args below meth cd H locs la C a1 a2 a3 a4 a5
  exact lv_ishr C.1 C.2.1 hd (kk p e Rm s m args below meth cd H locs la C (rk_oc trivial (rk_ot (rk_ot a1))) a2 a3 a4 a5)
theorem rk_ladd {x y : Int64} (hd : decode M.2.1 pc = .ok (.ladd, 1))  (kk : rk_Wp w l M d mc ms G (pc + 1) (ls) (rk_l (x + y) :: st) Z I R) : rk_Wp w l M d mc ms G (pc) (ls) (rk_l y :: rk_l x :: st) Z I R := by
  intro p e Rm s m args below meth cd H locs la C a1 a2 a3 a4 a5
  exact lv_ladd C.1 C.2.1 hd (kk p e Rm s m args below meth cd H locs la C (rk_oc trivial (rk_ot (rk_ot a1))) a2 a3 a4 a5)
theorem rk_lmul {x y : Int64} (hd : decode M.2.1 pc = .ok (.lmul, 1))  (kk : rk_Wp w l M d mc ms G (pc + 1) (ls) (rk_l (x * y) :: st) Z I R) : rk_Wp w l M d mc ms G (pc) (ls) (rk_l y :: rk_l x :: st) Z I R := by
  intro p e Rm s m args below meth cd H locs la C a1 a2 a3 a4 a5
  exact lv_lmul C.1 C.2.1 hd (kk p e Rm s m args below meth cd H locs la C (rk_oc trivial (rk_ot (rk_ot a1))) a2 a3 a4 a5)
theorem rk_land {x y : Int64} (hd : decode M.2.1 pc = .ok (.land, 1))  (kk : rk_Wp w l M d mc ms G (pc + 1) (ls) (rk_l (x &&& y) :: st) Z I R) : rk_Wp w l M d mc ms G (pc) (ls) (rk_l y :: rk_l x :: st) Z I R := by
  intro p e Rm s m args below meth cd H locs la C a1 a2 a3 a4 a5
  exact lv_land C.1 C.2.1 hd (kk p e Rm s m args below meth cd H locs la C (rk_oc trivial (rk_ot (rk_ot a1))) a2 a3 a4 a5)
theorem rk_lor {x y : Int64} (hd : decode M.2.1 pc = .ok (.lor, 1))  (kk : rk_Wp w l M d mc ms G (pc + 1) (ls) (rk_l (x ||| y) :: st) Z I R) : rk_Wp w l M d mc ms G (pc) (ls) (rk_l y :: rk_l x :: st) Z I R := by
  intro p e Rm s m args below meth cd H locs la C a1 a2 a3 a4 a5
  exact lv_lor C.1 C.2.1 hd (kk p e Rm s m args below meth cd H locs la C (rk_oc trivial (rk_ot (rk_ot a1))) a2 a3 a4 a5)
theorem rk_idiv {x y : Int32} (hd : decode M.2.1 pc = .ok (.idiv, 1)) (hy : ¬ y = 0) (kk : rk_Wp w l M d mc ms G (pc + 1) (ls) (rk_i (x / y) :: st) Z I R) : rk_Wp w l M d mc ms G (pc) (ls) (rk_i y :: rk_i x :: st) Z I R := by
  intro p e Rm s m args below meth cd H locs la C a1 a2 a3 a4 a5
  exact lv_idiv C.1 C.2.1 hd hy (kk p e Rm s m args below meth cd H locs la C (rk_oc trivial (rk_ot (rk_ot a1))) a2 a3 a4 a5)
theorem rk_irem {x y : Int32} (hd : decode M.2.1 pc = .ok (.irem, 1)) (hy : ¬ y = 0) (kk : rk_Wp w l M d mc ms G (pc + 1) (ls) (rk_i (x - x / y * y) :: st) Z I R) : rk_Wp w l M d mc ms G (pc) (ls) (rk_i y :: rk_i x :: st) Z I R := by
  intro p e Rm s m args below meth cd H locs la C a1 a2 a3 a4 a5
  exact lv_irem C.1 C.2.1 hd hy (kk p e Rm s m args below meth cd H locs la C (rk_oc trivial (rk_ot (rk_ot a1))) a2 a3 a4 a5)
theorem rk_ldiv {x y : Int64} (hd : decode M.2.1 pc = .ok (.ldiv, 1)) (hy : ¬ y = 0) (kk : rk_Wp w l M d mc ms G (pc + 1) (ls) (rk_l (x / y) :: st) Z I R) : rk_Wp w l M d mc ms G (pc) (ls) (rk_l y :: rk_l x :: st) Z I R := by
  intro p e Rm s m args below meth cd H locs la C a1 a2 a3 a4 a5
  exact lv_ldiv C.1 C.2.1 hd hy (kk p e Rm s m args below meth cd H locs la C (rk_oc trivial (rk_ot (rk_ot a1))) a2 a3 a4 a5)
theorem rk_ineg {x : Int32} (hd : decode M.2.1 pc = .ok (.ineg, 1))  (kk : rk_Wp w l M d mc ms G (pc + 1) (ls) (rk_i (-x) :: st) Z I R) : rk_Wp w l M d mc ms G (pc) (ls) (rk_i x :: st) Z I R := by
  intro p e Rm s m args below meth cd H locs la C a1 a2 a3 a4 a5
  exact lv_ineg C.1 C.2.1 hd (kk p e Rm s m args below meth cd H locs la C (rk_oc trivial (rk_ot a1)) a2 a3 a4 a5)
theorem rk_i2l {x : Int32} (hd : decode M.2.1 pc = .ok (.i2l, 1))  (kk : rk_Wp w l M d mc ms G (pc + 1) (ls) (rk_l x.toInt64 :: st) Z I R) : rk_Wp w l M d mc ms G (pc) (ls) (rk_i x :: st) Z I R := by
  intro p e Rm s m args below meth cd H locs la C a1 a2 a3 a4 a5
  exact lv_i2l C.1 C.2.1 hd rfl (kk p e Rm s m args below meth cd H locs la C (rk_oc trivial (rk_ot a1)) a2 a3 a4 a5)
theorem rk_l2i {x : Int64} (hd : decode M.2.1 pc = .ok (.l2i, 1))  (kk : rk_Wp w l M d mc ms G (pc + 1) (ls) (rk_i x.toInt32 :: st) Z I R) : rk_Wp w l M d mc ms G (pc) (ls) (rk_l x :: st) Z I R := by
  intro p e Rm s m args below meth cd H locs la C a1 a2 a3 a4 a5
  exact lv_l2i C.1 C.2.1 hd rfl (kk p e Rm s m args below meth cd H locs la C (rk_oc trivial (rk_ot a1)) a2 a3 a4 a5)
theorem rk_i2c {x : Int32} (hd : decode M.2.1 pc = .ok (.i2c, 1))  (kk : rk_Wp w l M d mc ms G (pc + 1) (ls) (rk_i (x.toUInt32 % 65536).toInt32 :: st) Z I R) : rk_Wp w l M d mc ms G (pc) (ls) (rk_i x :: st) Z I R := by
  intro p e Rm s m args below meth cd H locs la C a1 a2 a3 a4 a5
  exact lv_i2c C.1 C.2.1 hd rfl (kk p e Rm s m args below meth cd H locs la C (rk_oc trivial (rk_ot a1)) a2 a3 a4 a5)
theorem rk_lushr {x : Int64} {y : Int32} (hd : decode M.2.1 pc = .ok (.lushr, 1))  (kk : rk_Wp w l M d mc ms G (pc + 1) (ls) (rk_l (x.toUInt64 >>> (y.toInt64.toUInt64 &&& Int64.toUInt64 63)).toInt64 :: st) Z I R) : rk_Wp w l M d mc ms G (pc) (ls) (rk_i y :: rk_l x :: st) Z I R := by
  intro p e Rm s m args below meth cd H locs la C a1 a2 a3 a4 a5
  exact lv_lushr C.1 C.2.1 hd rfl (kk p e Rm s m args below meth cd H locs la C (rk_oc trivial (rk_ot (rk_ot a1))) a2 a3 a4 a5)
theorem rk_lshl {x : Int64} {y : Int32} (hd : decode M.2.1 pc = .ok (.lshl, 1))  (kk : rk_Wp w l M d mc ms G (pc + 1) (ls) (rk_l (x <<< (y.toInt64 &&& 63)) :: st) Z I R) : rk_Wp w l M d mc ms G (pc) (ls) (rk_i y :: rk_l x :: st) Z I R := by
  intro p e Rm s m args below meth cd H locs la C a1 a2 a3 a4 a5
  exact lv_lshl C.1 C.2.1 hd rfl (kk p e Rm s m args below meth cd H locs la C (rk_oc trivial (rk_ot (rk_ot a1))) a2 a3 a4 a5)
theorem rk_iushr {x y : Int32} (hd : decode M.2.1 pc = .ok (.iushr, 1))  (kk : rk_Wp w l M d mc ms G (pc + 1) (ls) (rk_i (x.toUInt32 >>> (y.toUInt32 &&& Int32.toUInt32 31)).toInt32 :: st) Z I R) : rk_Wp w l M d mc ms G (pc) (ls) (rk_i y :: rk_i x :: st) Z I R := by
  intro p e Rm s m args below meth cd H locs la C a1 a2 a3 a4 a5
  exact lv_iushr C.1 C.2.1 hd rfl (kk p e Rm s m args below meth cd H locs la C (rk_oc trivial (rk_ot (rk_ot a1))) a2 a3 a4 a5)
theorem rk_lcmp {x y : Int64} (hd : decode M.2.1 pc = .ok (.lcmp, 1))  (kk : rk_Wp w l M d mc ms G (pc + 1) (ls) (rk_i (lg_cmp x y) :: st) Z I R) : rk_Wp w l M d mc ms G (pc) (ls) (rk_l y :: rk_l x :: st) Z I R := by
  intro p e Rm s m args below meth cd H locs la C a1 a2 a3 a4 a5
  exact W.lcmp C.1 C.2.1 hd (kk p e Rm s m args below meth cd H locs la C (rk_oc trivial (rk_ot (rk_ot a1))) a2 a3 a4 a5)
theorem rk_c1 {w : rk_W} {v : rk_V} (h : rk_is2 v = false) : (rk_v w v).category = 1 := by
  rcases v with x | x | x | x
  · rfl
  · cases h
  · rfl
  · rfl
theorem rk_dup {v : rk_V} (hd : decode M.2.1 pc = .ok (.dup, 1)) (hc : rk_is2 v = false) (kk : rk_Wp w l M d mc ms G (pc + 1) (ls) (v :: v :: st) Z I R) : rk_Wp w l M d mc ms G (pc) (ls) (v :: st) Z I R := by
  intro p e Rm s m args below meth cd H locs la C a1 a2 a3 a4 a5
  exact lv_dup C.1 C.2.1 hd (rk_c1 hc) (kk p e Rm s m args below meth cd H locs la C (rk_oc (rk_oh a1) a1) a2 a3 a4 a5)
theorem rk_pop {v : rk_V} (hd : decode M.2.1 pc = .ok (.pop, 1)) (hc : rk_is2 v = false) (kk : rk_Wp w l M d mc ms G (pc + 1) (ls) (st) Z I R) : rk_Wp w l M d mc ms G (pc) (ls) (v :: st) Z I R := by
  intro p e Rm s m args below meth cd H locs la C a1 a2 a3 a4 a5
  exact lv_pop C.1 C.2.1 hd (rk_c1 hc) (kk p e Rm s m args below meth cd H locs la C (rk_ot a1) a2 a3 a4 a5)
theorem rk_dup_x1 {v u : rk_V} (hd : decode M.2.1 pc = .ok (.dup_x1, 1)) (hc : rk_is2 v = false) (hu : rk_is2 u = false) (kk : rk_Wp w l M d mc ms G (pc + 1) (ls) (v :: u :: v :: st) Z I R) : rk_Wp w l M d mc ms G (pc) (ls) (v :: u :: st) Z I R := by
  intro p e Rm s m args below meth cd H locs la C a1 a2 a3 a4 a5
  exact lv_dup_x1 C.1 C.2.1 hd (rk_c1 hc) (rk_c1 hu) (kk p e Rm s m args below meth cd H locs la C (rk_oc (rk_oh a1) (rk_oc (rk_oh (rk_ot a1)) (rk_oc (rk_oh a1) (rk_ot (rk_ot a1))))) a2 a3 a4 a5)
theorem rk_dup2 {v u : rk_V} (hd : decode M.2.1 pc = .ok (.dup2, 1)) (hc : rk_is2 v = false) (hu : rk_is2 u = false) (kk : rk_Wp w l M d mc ms G (pc + 1) (ls) (v :: u :: v :: u :: st) Z I R) : rk_Wp w l M d mc ms G (pc) (ls) (v :: u :: st) Z I R := by
  intro p e Rm s m args below meth cd H locs la C a1 a2 a3 a4 a5
  exact lv_dup2_11 C.1 C.2.1 hd (rk_c1 hc) (rk_c1 hu) (kk p e Rm s m args below meth cd H locs la C (rk_oc (rk_oh a1) (rk_oc (rk_oh (rk_ot a1)) a1)) a2 a3 a4 a5)
theorem rk_if_eq {x : Int32} {off : Int} (tgt : Nat) (hd : decode M.2.1 pc = .ok (.ifCond .eq off, 3)) (ht : (pc : Int) + off = (tgt : Int)) (kt : x = 0 → rk_Wp w l M d mc ms G (tgt) (ls) (st) Z I R) (kf : ¬ (x = 0) → rk_Wp w l M d mc ms G (pc + 3) (ls) (st) Z I R) : rk_Wp w l M d mc ms G (pc) (ls) (rk_i x :: st) Z I R := by
  intro p e Rm s m args below meth cd H locs la C a1 a2 a3 a4 a5
  exact lv_if_eq C.1 C.2.1 hd ht (fun h => kt h p e Rm s m args below meth cd H locs la C (rk_ot a1) a2 a3 a4 a5) (fun h => kf h p e Rm s m args below meth cd H locs la C (rk_ot a1) a2 a3 a4 a5)
theorem rk_if_ne {x : Int32} {off : Int} (tgt : Nat) (hd : decode M.2.1 pc = .ok (.ifCond .ne off, 3)) (ht : (pc : Int) + off = (tgt : Int)) (kt : ¬ x = 0 → rk_Wp w l M d mc ms G (tgt) (ls) (st) Z I R) (kf : x = 0 → rk_Wp w l M d mc ms G (pc + 3) (ls) (st) Z I R) : rk_Wp w l M d mc ms G (pc) (ls) (rk_i x :: st) Z I R := by
  intro p e Rm s m args below meth cd H locs la C a1 a2 a3 a4 a5
  exact lv_if_ne C.1 C.2.1 hd ht (fun h => kt h p e Rm s m args below meth cd H locs la C (rk_ot a1) a2 a3 a4 a5) (fun h => kf h p e Rm s m args below meth cd H locs la C (rk_ot a1) a2 a3 a4 a5)
theorem rk_if_lt {x : Int32} {off : Int} (tgt : Nat) (hd : decode M.2.1 pc = .ok (.ifCond .lt off, 3)) (ht : (pc : Int) + off = (tgt : Int)) (kt : x < 0 → rk_Wp w l M d mc ms G (tgt) (ls) (st) Z I R) (kf : ¬ (x < 0) → rk_Wp w l M d mc ms G (pc + 3) (ls) (st) Z I R) : rk_Wp w l M d mc ms G (pc) (ls) (rk_i x :: st) Z I R := by
  intro p e Rm s m args below meth cd H locs la C a1 a2 a3 a4 a5
  exact lv_if_lt C.1 C.2.1 hd ht (fun h => kt h p e Rm s m args below meth cd H locs la C (rk_ot a1) a2 a3 a4 a5) (fun h => kf h p e Rm s m args below meth cd H locs la C (rk_ot a1) a2 a3 a4 a5)
theorem rk_if_ge {x : Int32} {off : Int} (tgt : Nat) (hd : decode M.2.1 pc = .ok (.ifCond .ge off, 3)) (ht : (pc : Int) + off = (tgt : Int)) (kt : 0 ≤ x → rk_Wp w l M d mc ms G (tgt) (ls) (st) Z I R) (kf : ¬ (0 ≤ x) → rk_Wp w l M d mc ms G (pc + 3) (ls) (st) Z I R) : rk_Wp w l M d mc ms G (pc) (ls) (rk_i x :: st) Z I R := by
  intro p e Rm s m args below meth cd H locs la C a1 a2 a3 a4 a5
  exact lv_if_ge C.1 C.2.1 hd ht (fun h => kt h p e Rm s m args below meth cd H locs la C (rk_ot a1) a2 a3 a4 a5) (fun h => kf h p e Rm s m args below meth cd H locs la C (rk_ot a1) a2 a3 a4 a5)
theorem rk_if_gt {x : Int32} {off : Int} (tgt : Nat) (hd : decode M.2.1 pc = .ok (.ifCond .gt off, 3)) (ht : (pc : Int) + off = (tgt : Int)) (kt : 0 < x → rk_Wp w l M d mc ms G (tgt) (ls) (st) Z I R) (kf : ¬ (0 < x) → rk_Wp w l M d mc ms G (pc + 3) (ls) (st) Z I R) : rk_Wp w l M d mc ms G (pc) (ls) (rk_i x :: st) Z I R := by
  intro p e Rm s m args below meth cd H locs la C a1 a2 a3 a4 a5
  exact lv_if_gt C.1 C.2.1 hd ht (fun h => kt h p e Rm s m args below meth cd H locs la C (rk_ot a1) a2 a3 a4 a5) (fun h => kf h p e Rm s m args below meth cd H locs la C (rk_ot a1) a2 a3 a4 a5)
theorem rk_if_le {x : Int32} {off : Int} (tgt : Nat) (hd : decode M.2.1 pc = .ok (.ifCond .le off, 3)) (ht : (pc : Int) + off = (tgt : Int)) (kt : x ≤ 0 → rk_Wp w l M d mc ms G (tgt) (ls) (st) Z I R) (kf : ¬ (x ≤ 0) → rk_Wp w l M d mc ms G (pc + 3) (ls) (st) Z I R) : rk_Wp w l M d mc ms G (pc) (ls) (rk_i x :: st) Z I R := by
  intro p e Rm s m args below meth cd H locs la C a1 a2 a3 a4 a5
  exact lv_if_le C.1 C.2.1 hd ht (fun h => kt h p e Rm s m args below meth cd H locs la C (rk_ot a1) a2 a3 a4 a5) (fun h => kf h p e Rm s m args below meth cd H locs la C (rk_ot a1) a2 a3 a4 a5)
theorem rk_icmp_eq {x y : Int32} {off : Int} (tgt : Nat) (hd : decode M.2.1 pc = .ok (.if_icmp .eq off, 3)) (ht : (pc : Int) + off = (tgt : Int)) (kt : x = y → rk_Wp w l M d mc ms G (tgt) (ls) (st) Z I R) (kf : ¬ (x = y) → rk_Wp w l M d mc ms G (pc + 3) (ls) (st) Z I R) : rk_Wp w l M d mc ms G (pc) (ls) (rk_i y :: rk_i x :: st) Z I R := by
  intro p e Rm s m args below meth cd H locs la C a1 a2 a3 a4 a5
  exact lv_icmp_eq C.1 C.2.1 hd ht (fun h => kt h p e Rm s m args below meth cd H locs la C (rk_ot (rk_ot a1)) a2 a3 a4 a5) (fun h => kf h p e Rm s m args below meth cd H locs la C (rk_ot (rk_ot a1)) a2 a3 a4 a5)
theorem rk_icmp_ne {x y : Int32} {off : Int} (tgt : Nat) (hd : decode M.2.1 pc = .ok (.if_icmp .ne off, 3)) (ht : (pc : Int) + off = (tgt : Int)) (kt : ¬ x = y → rk_Wp w l M d mc ms G (tgt) (ls) (st) Z I R) (kf : x = y → rk_Wp w l M d mc ms G (pc + 3) (ls) (st) Z I R) : rk_Wp w l M d mc ms G (pc) (ls) (rk_i y :: rk_i x :: st) Z I R := by
  intro p e Rm s m args below meth cd H locs la C a1 a2 a3 a4 a5
  exact lv_icmp_ne C.1 C.2.1 hd ht (fun h => kt h p e Rm s m args below meth cd H locs la C (rk_ot (rk_ot a1)) a2 a3 a4 a5) (fun h => kf h p e Rm s m args below meth cd H locs la C (rk_ot (rk_ot a1)) a2 a3 a4 a5)
theorem rk_icmp_lt {x y : Int32} {off : Int} (tgt : Nat) (hd : decode M.2.1 pc = .ok (.if_icmp .lt off, 3)) (ht : (pc : Int) + off = (tgt : Int)) (kt : x < y → rk_Wp w l M d mc ms G (tgt) (ls) (st) Z I R) (kf : ¬ (x < y) → rk_Wp w l M d mc ms G (pc + 3) (ls) (st) Z I R) : rk_Wp w l M d mc ms G (pc) (ls) (rk_i y :: rk_i x :: st) Z I R := by
  intro p e Rm s m args below meth cd H locs la C a1 a2 a3 a4 a5
  exact lv_icmp_lt C.1 C.2.1 hd ht (fun h => kt h p e Rm s m args below meth cd H locs la C (rk_ot (rk_ot a1)) a2 a3 a4 a5) (fun h => kf h p e Rm s m args below meth cd H locs la C (rk_ot (rk_ot a1)) a2 a3 a4 a5)
theorem rk_icmp_ge {x y : Int32} {off : Int} (tgt : Nat) (hd : decode M.2.1 pc = .ok (.if_icmp .ge off, 3)) (ht : (pc : Int) + off = (tgt : Int)) (kt : y ≤ x → rk_Wp w l M d mc ms G (tgt) (ls) (st) Z I R) (kf : ¬ (y ≤ x) → rk_Wp w l M d mc ms G (pc + 3) (ls) (st) Z I R) : rk_Wp w l M d mc ms G (pc) (ls) (rk_i y :: rk_i x :: st) Z I R := by
  intro p e Rm s m args below meth cd H locs la C a1 a2 a3 a4 a5
  exact lv_icmp_ge C.1 C.2.1 hd ht (fun h => kt h p e Rm s m args below meth cd H locs la C (rk_ot (rk_ot a1)) a2 a3 a4 a5) (fun h => kf h p e Rm s m args below meth cd H locs la C (rk_ot (rk_ot a1)) a2 a3 a4 a5)
theorem rk_icmp_gt {x y : Int32} {off : Int} (tgt : Nat) (hd : decode M.2.1 pc = .ok (.if_icmp .gt off, 3)) (ht : (pc : Int) + off = (tgt : Int)) (kt : y < x → rk_Wp w l M d mc ms G (tgt) (ls) (st) Z I R) (kf : ¬ (y < x) → rk_Wp w l M d mc ms G (pc + 3) (ls) (st) Z I R) : rk_Wp w l M d mc ms G (pc) (ls) (rk_i y :: rk_i x :: st) Z I R := by
  intro p e Rm s m args below meth cd H locs la C a1 a2 a3 a4 a5
  exact lv_icmp_gt C.1 C.2.1 hd ht (fun h => kt h p e Rm s m args below meth cd H locs la C (rk_ot (rk_ot a1)) a2 a3 a4 a5) (fun h => kf h p e Rm s m args below meth cd H locs la C (rk_ot (rk_ot a1)) a2 a3 a4 a5)
theorem rk_icmp_le {x y : Int32} {off : Int} (tgt : Nat) (hd : decode M.2.1 pc = .ok (.if_icmp .le off, 3)) (ht : (pc : Int) + off = (tgt : Int)) (kt : x ≤ y → rk_Wp w l M d mc ms G (tgt) (ls) (st) Z I R) (kf : ¬ (x ≤ y) → rk_Wp w l M d mc ms G (pc + 3) (ls) (st) Z I R) : rk_Wp w l M d mc ms G (pc) (ls) (rk_i y :: rk_i x :: st) Z I R := by
  intro p e Rm s m args below meth cd H locs la C a1 a2 a3 a4 a5
  exact lv_icmp_le C.1 C.2.1 hd ht (fun h => kt h p e Rm s m args below meth cd H locs la C (rk_ot (rk_ot a1)) a2 a3 a4 a5) (fun h => kf h p e Rm s m args below meth cd H locs la C (rk_ot (rk_ot a1)) a2 a3 a4 a5)
theorem rk_goto {off : Int} (tgt : Nat) (hd : decode M.2.1 pc = .ok (.goto off, 3)) (ht : (pc : Int) + off = (tgt : Int)) (kk : rk_Wp w l M d mc ms G (tgt) (ls) (st) Z I R) : rk_Wp w l M d mc ms G (pc) (ls) (st) Z I R := by
  intro p e Rm s m args below meth cd H locs la C a1 a2 a3 a4 a5
  exact lv_goto C.1 C.2.1 hd ht (kk p e Rm s m args below meth cd H locs la C a1 a2 a3 a4 a5)
theorem rk_pc {pc' : Nat} (h : pc = pc') (kk : rk_Wp w l M d mc ms G (pc') (ls) (st) Z I R) : rk_Wp w l M d mc ms G (pc) (ls) (st) Z I R := h ▸ kk
/-- the cases of a table, from its first value on -/
def rk_cs (K : Nat → Prop) (pc : Nat) (x : Int32) : Int → List Int → Prop
  | _, [] => True
  | lo, o :: os => (x.toInt = lo → K (((pc : Int) + o).toNat)) ∧ rk_cs K pc x (lo + 1) os
theorem rk_cs_at {K : Nat → Prop} {pc : Nat} {x : Int32} : ∀ {os : List Int} {lo : Int}, rk_cs K pc x lo os → ∀ (j : Nat) (o : Int), os[j]? = some o → x.toInt = lo + j → K (((pc : Int) + o).toNat)
  | [], _, _, j, o, h, _ => by simp at h
  | q :: os, lo, hc, 0, o, h, hx => by
    rw [List.getElem?_cons_zero] at h
    cases h
    exact hc.1 (by rw [hx]; simp)
  | q :: os, lo, hc, j + 1, o, h, hx => by
    rw [List.getElem?_cons_succ] at h
    exact rk_cs_at hc.2 j o h (by rw [hx]; omega)
theorem rk_tsw {x : Int32} {dflt lo hi : Int} {offs : Array Int} {len : Nat} (dt : Nat) (hd : decode M.2.1 pc = .ok (.tableswitch dflt lo hi offs, len)) (hsz : (offs.size : Int) = hi - lo + 1) (hpos : offs.toList.all (fun o => decide (0 ≤ (pc : Int) + o)) = true) (hdt : (pc : Int) + dflt = (dt : Int))
    (kin : rk_cs (fun t => rk_Wp w l M d mc ms G (t) (ls) (st) Z I R) pc x lo offs.toList) (kout : (x.toInt < lo ∨ hi < x.toInt) → rk_Wp w l M d mc ms G (dt) (ls) (st) Z I R) : rk_Wp w l M d mc ms G (pc) (ls) (rk_i x :: st) Z I R := by
  intro p e Rm s m args below meth cd H locs la C a1 a2 a3 a4 a5
  by_cases h1 : x.toInt < lo ∨ hi < x.toInt
  · exact lv_tableOut C.1 C.2.1 hd h1 hdt (kout h1 p e Rm s m args below meth cd H locs la C (rk_ot a1) a2 a3 a4 a5)
  · have h2 : ¬ x.toInt < lo := fun h => h1 (Or.inl h)
    have h3 : ¬ hi < x.toInt := fun h => h1 (Or.inr h)
    have hlt : (x.toInt - lo).toNat < offs.size := by omega
    obtain ⟨o, ho⟩ : ∃ o, offs[(x.toInt - lo).toNat]? = some o := ⟨_, Array.getElem?_eq_getElem hlt⟩
    have ho2 : offs.toList[(x.toInt - lo).toNat]? = some o := by rw [Array.getElem?_toList]; exact ho
    have hp : 0 ≤ (pc : Int) + o := of_decide_eq_true (List.all_eq_true.mp hpos o (List.mem_of_getElem? ho2))
    exact lv_tableIn C.1 C.2.1 hd h2 h3 ho (tgt := ((pc : Int) + o).toNat) (by omega) (rk_cs_at kin _ o ho2 (by omega) p e Rm s m args below meth cd H locs la C (rk_ot a1) a2 a3 a4 a5)
/-- the cases of a lookup switch -/
def rk_ck (K : Nat → Prop) (pc : Nat) (x : Int32) : List (Int × Int) → Prop
  | [] => True
  | q :: os => (x.toInt = q.1 → K (((pc : Int) + q.2).toNat)) ∧ rk_ck K pc x os
theorem rk_lsw {x : Int32} {dflt : Int} {ps : Array (Int × Int)} {len : Nat} (dt : Nat) (hd : decode M.2.1 pc = .ok (.lookupswitch dflt ps, len)) (hp : (ps.toList.zip (ps.toList.drop 1)).all (fun (a, next) => a.1 < next.1) = true) (hpos : ps.toList.all (fun o => decide (0 ≤ (pc : Int) + o.2)) = true) (hdt : (pc : Int) + dflt = (dt : Int))
    (kin : rk_ck (fun t => rk_Wp w l M d mc ms G (t) (ls) (st) Z I R) pc x ps.toList) (kout : (ps.toList.all (fun q => decide (x.toInt ≠ q.1)) = true) → rk_Wp w l M d mc ms G (dt) (ls) (st) Z I R) : rk_Wp w l M d mc ms G (pc) (ls) (rk_i x :: st) Z I R := by
  intro p e Rm s m args below meth cd H locs la C a1 a2 a3 a4 a5
  have key : ∀ qs : List (Int × Int), rk_ck (fun t => rk_Wp w l M d mc ms G (t) (ls) (st) Z I R) pc x qs → qs.all (fun o => decide (0 ≤ (pc : Int) + o.2)) = true → (qs.all (fun q => decide (x.toInt ≠ q.1)) = true → rk_Wp w l M d mc ms G (dt) (ls) (st) Z I R) → ∃ tgt : Nat, (pc : Int) + Op.lookupswitch.offset qs dflt x.toInt = (tgt : Int) ∧ rk_Wp w l M d mc ms G (tgt) (ls) (st) Z I R := by
    intro qs
    induction qs with
    | nil => intro _ _ h; exact ⟨dt, hdt, h rfl⟩
    | cons q qs ih =>
      intro h1 h2 h3
      simp only [List.all_cons, Bool.and_eq_true, decide_eq_true_eq] at h2
      by_cases hx : x.toInt = q.1
      · refine ⟨((pc : Int) + q.2).toNat, ?_, h1.1 hx⟩
        have := h2.1
        simp [Op.lookupswitch.offset, hx]
        omega
      · obtain ⟨t, g1, g2⟩ := ih h1.2 h2.2 (fun h => h3 (by simp only [List.all_cons, Bool.and_eq_true, decide_eq_true_eq]; exact ⟨hx, h⟩))
        refine ⟨t, ?_, g2⟩
        rw [← g1]
        have hx2 : ¬ q.1 = x.toInt := fun h => hx h.symm
        simp [Op.lookupswitch.offset, hx, hx2]
  obtain ⟨tgt, g1, g2⟩ := key ps.toList kin hpos kout
  exact lv_lookup C.1 C.2.1 hd hp rfl g1 (g2 p e Rm s m args below meth cd H locs la C (rk_ot a1) a2 a3 a4 a5)
end RKR
