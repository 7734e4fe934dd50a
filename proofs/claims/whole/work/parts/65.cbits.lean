section CB
variable {w : rk_W} {l : Launch} {Sh : rk_Sh} {I : rk_Mm} {R : rk_Rm}
theorem rk_ldcw {M : rk_M} {d mc ms : Nat} {G : List Frame → Array Value → State → State → Prop} {pc : Nat} {ls : List (Nat × rk_V)} {st : List rk_V} {Z : rk_Z} {idx : Nat} (v : Int32) (hd : decode M.2.1 pc = .ok (.ldc_w idx, 3)) (hk : Cond.constant M.1.cls idx v ∈ rk_tbl) (kk : rk_Wp w l M d mc ms G (pc + 3) (ls) (rk_i v :: st) Z I R) : rk_Wp w l M d mc ms G (pc) (ls) (st) Z I R := by
  intro p e Rm s m args below meth cd H locs la C a1 a2 a3 a4 a5
  exact lv_ldcw C.1 C.2.1 C.2.2.2.2.1 (C.2.2.2.2.2.1 _ hk) hd (kk p e Rm s m args below meth cd H locs la C (rk_oc trivial a1) a2 a3 a4 a5)
def sp_pop : Nat → Nat → Nat
  | 0, _ => 0
  | f + 1, s => s % 2 + sp_pop f (s / 2)
theorem cJ6_bitCount_s {s : Nat} (hs : s < 1024) : rk_P w l rk_mJ6_bitCount_0f7a4 1 [rk_i (nI s)] Sh I R (nI (sp_pop 10 s)) := by
  refine rk_bP (ls := [(0, _)]) (by decide) rfl (Nat.le_of_ble_eq_true rfl) ?_
  refine rk_iload_n 0 dJ6_bitCount_0f7a4_0 rfl rfl ?_
  refine rk_iload_n 0 dJ6_bitCount_0f7a4_1 rfl rfl ?_
  refine rk_iconst 1 dJ6_bitCount_0f7a4_2 (by decide) ?_
  refine rk_iushr dJ6_bitCount_0f7a4_3 ?_
  refine rk_ldcw 1431655765 dJ6_bitCount_0f7a4_4 (by first | exact rk_inT 695 (by decide +kernel) (by decide +kernel)) ?_
  refine rk_iand dJ6_bitCount_0f7a4_7 ?_
  refine rk_pc (pc' := 8) rfl ?_
  refine rk_isub dJ6_bitCount_0f7a4_8 ?_
  refine rk_istore_n 0 (ls' := [(0, _)]) dJ6_bitCount_0f7a4_9 rfl (by decide) rfl ?_
  refine rk_iload_n 0 dJ6_bitCount_0f7a4_10 rfl rfl ?_
  refine rk_ldcw 858993459 dJ6_bitCount_0f7a4_11 (by first | exact rk_inT 696 (by decide +kernel) (by decide +kernel)) ?_
  refine rk_iand dJ6_bitCount_0f7a4_14 ?_
  refine rk_iload_n 0 dJ6_bitCount_0f7a4_15 rfl rfl ?_
  refine rk_pc (pc' := 16) rfl ?_
  refine rk_iconst 2 dJ6_bitCount_0f7a4_16 (by decide) ?_
  refine rk_iushr dJ6_bitCount_0f7a4_17 ?_
  refine rk_ldcw 858993459 dJ6_bitCount_0f7a4_18 (by first | exact rk_inT 696 (by decide +kernel) (by decide +kernel)) ?_
  refine rk_iand dJ6_bitCount_0f7a4_21 ?_
  refine rk_iadd dJ6_bitCount_0f7a4_22 ?_
  refine rk_istore_n 0 (ls' := [(0, _)]) dJ6_bitCount_0f7a4_23 rfl (by decide) rfl ?_
  refine rk_pc (pc' := 24) rfl ?_
  refine rk_iload_n 0 dJ6_bitCount_0f7a4_24 rfl rfl ?_
  refine rk_iload_n 0 dJ6_bitCount_0f7a4_25 rfl rfl ?_
  refine rk_iconst 4 dJ6_bitCount_0f7a4_26 (by decide) ?_
  refine rk_iushr dJ6_bitCount_0f7a4_27 ?_
  refine rk_iadd dJ6_bitCount_0f7a4_28 ?_
  refine rk_ldcw 252645135 dJ6_bitCount_0f7a4_29 (by first | exact rk_inT 697 (by decide +kernel) (by decide +kernel)) ?_
  refine rk_pc (pc' := 32) rfl ?_
  refine rk_iand dJ6_bitCount_0f7a4_32 ?_
  refine rk_istore_n 0 (ls' := [(0, _)]) dJ6_bitCount_0f7a4_33 rfl (by decide) rfl ?_
  refine rk_iload_n 0 dJ6_bitCount_0f7a4_34 rfl rfl ?_
  refine rk_iload_n 0 dJ6_bitCount_0f7a4_35 rfl rfl ?_
  refine rk_bipush 8 dJ6_bitCount_0f7a4_36 (by decide) ?_
  refine rk_iushr dJ6_bitCount_0f7a4_38 ?_
  refine rk_pc (pc' := 39) rfl ?_
  refine rk_iadd dJ6_bitCount_0f7a4_39 ?_
  refine rk_istore_n 0 (ls' := [(0, _)]) dJ6_bitCount_0f7a4_40 rfl (by decide) rfl ?_
  refine rk_iload_n 0 dJ6_bitCount_0f7a4_41 rfl rfl ?_
  refine rk_iload_n 0 dJ6_bitCount_0f7a4_42 rfl rfl ?_
  refine rk_bipush 16 dJ6_bitCount_0f7a4_43 (by decide) ?_
  refine rk_iushr dJ6_bitCount_0f7a4_45 ?_
  refine rk_pc (pc' := 46) rfl ?_
  refine rk_iadd dJ6_bitCount_0f7a4_46 ?_
  refine rk_istore_n 0 (ls' := [(0, _)]) dJ6_bitCount_0f7a4_47 rfl (by decide) rfl ?_
  refine rk_iload_n 0 dJ6_bitCount_0f7a4_48 rfl rfl ?_
  refine rk_bipush 63 dJ6_bitCount_0f7a4_49 (by decide) ?_
  refine rk_iand dJ6_bitCount_0f7a4_51 ?_
  refine rk_iretP dJ6_bitCount_0f7a4_52 rfl rfl ?_
  revert s hs
  decide +kernel
end CB

