section CR
variable {w : rk_W} {l : Launch} {Sh : rk_Sh} {I : rk_Mm} {R : rk_Rm}
theorem cX6_few_loop {a fi : Nat} {N : Nat → Int32} (h : cl_ru I R a N) (hf : fi < 3) (s str x : Int32) : ∀ n k : Nat, k + n = 41 → 1 ≤ k → x = sp_first (fun y => str ≤ sp_news N fi s (nI y)) n k → rk_Wp w l rk_mX6_fewestYarns 4 0 0 (rk_GP w Sh I R x) 3 [(0, rk_a 7 a), (1, rk_i (nI fi)), (2, rk_i s), (3, rk_i str), (4, rk_i (nI k))] [] (Sh, 0, 0) I R := by
  intro n
  induction n with
  | zero =>
    intro k hk h1 hx
    obtain rfl : k = 41 := by omega
    refine rk_iload dX6_fewestYarns_3 rfl ?_
    refine rk_bipush 40 dX6_fewestYarns_5 (by decide) ?_
    refine rk_icmp_gt 31 dX6_fewestYarns_7 (by decide) (fun qz7 => ?_) (fun qz7 => ?_)
    · skip
      refine rk_bipush (-6) dX6_fewestYarns_31 (by decide) ?_
      refine rk_iretP dX6_fewestYarns_33 rfl rfl ?_
      exact hx.symm
    · skip
      exact absurd (by decide) qz7
  | succ n ih =>
    intro k hk h1 hx
    have hk40 : ¬ (40 : Int32) < nI k := Int32.not_lt.mpr (show nI k ≤ nI 40 from nI_le (by omega) (by omega))
    refine rk_iload dX6_fewestYarns_3 rfl ?_
    refine rk_bipush 40 dX6_fewestYarns_5 (by decide) ?_
    refine rk_icmp_gt 31 dX6_fewestYarns_7 (by decide) (fun qz7 => ?_) (fun qz7 => ?_)
    · skip
      exact absurd qz7 hk40
    · skip
      refine rk_aload_n 0 dX6_fewestYarns_10 rfl rfl ?_
      refine rk_iload_n 1 dX6_fewestYarns_11 rfl rfl ?_
      refine rk_iload_n 2 dX6_fewestYarns_12 rfl rfl ?_
      refine rk_iload dX6_fewestYarns_13 rfl ?_
      refine rk_pc (pc' := 15) rfl ?_
      refine rk_cVp (cX6_newStrength_s h hf _ _) rk_eX6_newStrength rfl ⟨rfl, rfl⟩ rk_kX6_101 dX6_fewestYarns_15 rfl (by decide) (Nat.le_of_ble_eq_true rfl) ⟨Nat.le_refl _, Nat.le_refl _⟩ ?_
      refine rk_iload_n 3 dX6_fewestYarns_18 rfl rfl ?_
      refine rk_icmp_lt 25 dX6_fewestYarns_19 (by decide) (fun qz19 => ?_) (fun qz19 => ?_)
      · skip
        refine rk_iinc 1 (ls' := [(4, _), (0, _), (1, _), (2, _), (3, _)]) dX6_fewestYarns_25 (by decide) rfl (by decide) rfl ?_
        refine rk_goto 3 dX6_fewestYarns_28 (by decide) ?_
        refine rk_ord [0, 1, 2, 3, 4] (ls' := [(0, _), (1, _), (2, _), (3, _), (4, _)]) rfl ?_
        rw [nI_1]
        exact ih (k + 1) (by omega) (by omega) (by rw [hx, sp_first0 (Int32.not_le.mpr qz19)])
      · skip
        refine rk_iload dX6_fewestYarns_22 rfl ?_
        refine rk_iretP dX6_fewestYarns_24 rfl rfl ?_
        rw [hx]; exact sp_first1 (Int32.not_lt.mp qz19)
theorem cX6_fewestYarns_s {a fi : Nat} {N : Nat → Int32} (h : cl_ru I R a N) (hf : fi < 3) (s str : Int32) : rk_P w l rk_mX6_fewestYarns 4 [rk_a 7 a, rk_i (nI fi), rk_i s, rk_i str] Sh I R (sp_first (fun y => str ≤ sp_news N fi s (nI y)) 40 1) := by
  refine rk_bP (ls := [(0, _), (1, _), (2, _), (3, _)]) (by decide) rfl (Nat.le_of_ble_eq_true rfl) ?_
  refine rk_iconst 1 dX6_fewestYarns_0 (by decide) ?_
  refine rk_istore (ls' := [(4, _), (0, _), (1, _), (2, _), (3, _)]) dX6_fewestYarns_1 (by decide) rfl ?_
  refine rk_ord [0, 1, 2, 3, 4] (ls' := [(0, _), (1, _), (2, _), (3, _), (4, _)]) rfl ?_
  exact cX6_few_loop h hf s str _ 40 1 rfl (by decide) rfl
end CR

