section EX
variable {w : rk_W} {l : Launch} {d mc ms : Nat} {G : List Frame → Array Value → State → State → Prop} {Z : rk_Z} {rg : Nat → Nat} {x m b Lx : Nat}
theorem cL_loop (hd : 20 ≤ d) (hz : Z.2.1 ≤ mc ∧ Z.2.2 ≤ ms) (hLx : (rk_fz w 5).2.1 = Lx) (hw : cl_W w) (hL : Lx ≤ 3584) (hq : ∀ k I R, rk_Wp w l rk_mL_law d mc ms G 1062 [(0, rk_a 105 b), (1, rk_a 11 x), (2, rk_a 12 m), (3, rk_i (nI k))] [] Z I R) : ∀ (n k : Nat) (I : rk_Mm) (R : rk_Rm) (T : Int), Lx + 7 ≤ k + 7 * n → k ≤ Lx → T + 40 * n ≤ 1000000 → cm rg I R x m T → rk_Wp w l rk_mL_law d mc ms G 18 [(0, rk_a 105 b), (1, rk_a 11 x), (2, rk_a 12 m), (3, rk_i (nI k))] [] Z I R := by
  intro n
  induction n with
  | zero => intro k I R T h1 h2; omega
  | succ n ih =>
    intro k I R T h1 h2 hT C
    have next : k + 7 ≤ Lx → ∀ I' R', cm rg I' R' x m (T + 40) → rk_Wp w l rk_mL_law d mc ms G 1056 [(0, rk_a 105 b), (1, rk_a 11 x), (2, rk_a 12 m), (3, rk_i (nI k))] [] Z I' R' := by
      intro hk I' R' C'
      have hi := ih (k + 7) I' R' (T + 40) (by omega) hk (by omega) C'
      rw [show nI (k + 7) = nI k + 7 by rw [show (7 : Int32) = nI 7 from rfl, nI_add]] at hi
      refine rk_iinc 7 (ls' := [(3, _), (0, _), (1, _), (2, _)]) dL_law_1056 (by decide) rfl (by decide) rfl ?_
      refine rk_goto 18 dL_law_1059 (by decide) ?_
      refine rk_ord [0, 1, 2, 3] (ls' := [(0, _), (1, _), (2, _), (3, _)]) rfl ?_
      exact hi
    have step : ∀ hk : k + 7 ≤ Lx, vp_in (nI k) Lx := fun hk => vp_in_nI (by omega) (by omega)
    subst hLx
    have hgt : nI (rk_fz w 5).2.1 - 7 < nI k ↔ ¬ k + 7 ≤ (rk_fz w 5).2.1 := by
      have e1 : (nI (rk_fz w 5).2.1 - 7).toInt = ((rk_fz w 5).2.1 : Int) - 7 := by
        rw [Int32.toInt_sub, nI_toInt (by omega), show (7 : Int32).toInt = 7 from rfl]
        unfold Int.bmod
        simp only
        split <;> omega
      have e2 : (nI k).toInt = (k : Int) := nI_toInt (by omega)
      constructor
      · intro h z
        have h2 := Int32.lt_iff_toInt_lt.mp h
        omega
      · intro h
        refine Int32.lt_iff_toInt_lt.mpr ?_
        omega
    by_cases hk : k + 7 ≤ (rk_fz w 5).2.1
    · have hi := step hk
      have nx := next hk
      refine rk_iload_n 3 dL_law_18 rfl rfl ?_
      refine rk_aload_n 0 dL_law_19 rfl rfl ?_
      refine rk_falen 105 5 (by decide) rfl dL_law_20 ?_
      refine rk_bipush 7 dL_law_21 (by decide) ?_
      refine rk_isub dL_law_23 ?_
      refine rk_icmp_gt 1062 dL_law_24 (by decide) (fun qz24 => ?_) (fun qz24 => ?_)
      · skip
        exact absurd hk (hgt.mp qz24)
      · skip
        refine rk_aload_n 0 dL_law_27 rfl rfl ?_
        refine rk_pc (pc' := 28) rfl ?_
        refine rk_iload_n 3 dL_law_28 rfl rfl ?_
        refine rk_fald 105 5 (by decide) rfl dL_law_29 (by with_reducible assumption) ?_
        refine rk_bipush 31 dL_law_30 (by decide) ?_
        refine rk_iand dL_law_32 ?_
        refine rk_tsw 1056 dL_law_33 (by decide) (by decide) (by decide) ?_ (fun qz33 => ?_)
        · refine ⟨fun qz33 => ?_, fun qz33 => ?_, fun qz33 => ?_, fun qz33 => ?_, fun qz33 => ?_, fun qz33 => ?_, fun qz33 => ?_, fun qz33 => ?_, fun qz33 => ?_, fun qz33 => ?_, fun qz33 => ?_, fun qz33 => ?_, fun qz33 => ?_, fun qz33 => ?_, fun qz33 => ?_, fun qz33 => ?_, fun qz33 => ?_, fun qz33 => ?_, fun qz33 => ?_, fun qz33 => ?_, fun qz33 => ?_, fun qz33 => ?_, fun qz33 => ?_, fun qz33 => ?_, fun qz33 => ?_, fun qz33 => ?_, fun qz33 => ?_, fun qz33 => ?_, trivial⟩
          · skip
            refine rk_pc (pc' := 160) (by decide) ?_
            exact cL_set hd hz rfl hw hk hL (by omega) C nx
          · skip
            refine rk_pc (pc' := 193) (by decide) ?_
            exact cL_fibre hd hz rfl hw hk hL (by omega) C nx
          · skip
            refine rk_pc (pc' := 236) (by decide) ?_
            exact cL_spin hd hz rfl hw hk hL (by omega) C nx
          · skip
            refine rk_pc (pc' := 269) (by decide) ?_
            exact cL_lay hd hz rfl hw hk hL (by omega) C nx
          · skip
            refine rk_pc (pc' := 322) (by decide) ?_
            exact cL_join hd hz rfl hw hk hL (by omega) C nx
          · skip
            refine rk_pc (pc' := 355) (by decide) ?_
            exact cL_test hd hz rfl hw hk hL (by omega) C nx
          · skip
            refine rk_pc (pc' := 378) (by decide) ?_
            exact cL_order hd hz rfl hw hk hL (by omega) C nx
          · skip
            refine rk_pc (pc' := 453) (by decide) ?_
            exact cL_fill hd hz rfl hw hk hL (by omega) C nx
          · skip
            refine rk_pc (pc' := 476) (by decide) ?_
            exact cL_drop hd hz rfl hw hk hL (by omega) C nx
          · skip
            refine rk_pc (pc' := 499) (by decide) ?_
            exact cL_pass hd hz rfl hw hk hL (by omega) C nx
          · skip
            refine rk_pc (pc' := 522) (by decide) ?_
            exact cL_piece hd hz rfl hw hk hL (by omega) C nx
          · skip
            refine rk_pc (pc' := 555) (by decide) ?_
            exact cL_ofOrder hd hz rfl hw hk hL (by omega) C nx
          · skip
            refine rk_pc (pc' := 588) (by decide) ?_
            exact cL_count hd hz rfl hw hk hL (by omega) C nx
          · skip
            refine rk_pc (pc' := 611) (by decide) ?_
            exact cL_account hd hz rfl hw hk hL (by omega) C nx
          · skip
            refine rk_pc (pc' := 644) (by decide) ?_
            exact cL_takes hd hz rfl hw hk hL (by omega) C nx
          · skip
            refine rk_pc (pc' := 707) (by decide) ?_
            exact cL_longest hd hz rfl hw hk hL (by omega) C nx
          · skip
            refine rk_pc (pc' := 750) (by decide) ?_
            exact cL_leastYarns hd hz rfl hw hk hL (by omega) C nx
          · skip
            refine rk_pc (pc' := 793) (by decide) ?_
            exact cL_wouldFill hd hz rfl hw hk hL (by omega) C nx
          · skip
            refine rk_pc (pc' := 826) (by decide) ?_
            exact cL_bestSet hd hz rfl hw hk hL (by omega) C nx
          · skip
            refine rk_pc (pc' := 849) (by decide) ?_
            exact cL_fewestJoined hd hz rfl hw hk hL (by omega) C nx
          · skip
            refine rk_pc (pc' := 882) (by decide) ?_
            exact cL_finesIn hd hz rfl hw hk hL (by omega) C nx
          · skip
            refine rk_pc (pc' := 905) (by decide) ?_
            exact cL_put hd hz rfl hw hk hL (by omega) C nx
          · skip
            refine rk_pc (pc' := 958) (by decide) ?_
            exact cL_wipe hd hz rfl hw hk hL (by omega) C nx
          · skip
            refine rk_pc (pc' := 971) (by decide) ?_
            exact cL_fault hd hz rfl hw hk hL (by omega) C nx
          · skip
            refine rk_pc (pc' := 984) (by decide) ?_
            exact cL_carryOut hd hz rfl hw hk hL (by omega) C nx
          · skip
            refine rk_pc (pc' := 997) (by decide) ?_
            exact cL_undo hd hz rfl hw hk hL (by omega) C nx
          · skip
            refine rk_pc (pc' := 1010) (by decide) ?_
            exact cL_save hd hz rfl hw hk hL (by omega) C nx
          · skip
            refine rk_pc (pc' := 1033) (by decide) ?_
            exact cL_restore hd hz rfl hw hk hL (by omega) C nx
        · skip
          exact nx I R (by obtain ⟨N, n, Hs, F, Sv, P, L, C⟩ := C; exact C.mo (by omega))
    · skip
      refine rk_iload_n 3 dL_law_18 rfl rfl ?_
      refine rk_aload_n 0 dL_law_19 rfl rfl ?_
      refine rk_falen 105 5 (by decide) rfl dL_law_20 ?_
      refine rk_bipush 7 dL_law_21 (by decide) ?_
      refine rk_isub dL_law_23 ?_
      refine rk_icmp_gt 1062 dL_law_24 (by decide) (fun qz24 => ?_) (fun qz24 => ?_)
      · skip
        exact hq k I R
      · skip
        exact absurd (hgt.mpr hk) qz24
end EX

