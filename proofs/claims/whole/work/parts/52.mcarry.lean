section MK
variable {w : rk_W} {l : Launch} {Sh : rk_Sh} {I : rk_Mm} {R : rk_Rm}
theorem sp_iv_T {T T' : Int} {N : Nat → Int32} (h : sp_iv T N) (e : T ≤ T') : sp_iv T' N := by
  obtain ⟨⟨c, hp⟩, h2⟩ := h
  exact ⟨⟨c, sp_pv_T hp e⟩, h2⟩
noncomputable def sp_carry (N : Nat → Int32) (k a b c d : Int32) : sp_R := if k = 102 then sp_fill N a else if k = 106 then sp_join N a b else if k = 108 then sp_lay N a b c d else if k = 116 then sp_test N a else if k = 121 then sp_spin N a b else sp_pass N a
theorem sp_iv_o {T T' : Int} {N : Nat → Int32} {x : sp_R} (h : sp_iv T N) (hT : T ≤ T') (e : ∀ r M, x = (r, some M) → sp_iv T' M) : sp_iv T' (x.2.getD N) := by
  obtain ⟨r, o⟩ := x
  cases o with
  | none => exact sp_iv_T h hT
  | some M => exact e r M rfl
theorem sp_iv_carry {T : Int} {N : Nat → Int32} {k a b c d : Int32} (hT : T ≤ 1000000) (h : sp_iv T N) : sp_iv (T + 1) ((sp_carry N k a b c d).2.getD N) := by
  refine sp_iv_o h (by omega) (fun r M e => ?_)
  unfold sp_carry at e
  split at e
  · exact sp_iv_T (sp_iv_fill h e) (by omega)
  · split at e
    · exact sp_iv_T (sp_iv_join hT h e) (by omega)
    · split at e
      · exact sp_iv_lay h e
      · split at e
        · exact sp_iv_T (sp_iv_test h e) (by omega)
        · split at e
          · exact sp_iv_T (sp_iv_spin h e) (by omega)
          · exact sp_iv_T (sp_iv_pass h e) (by omega)
theorem cX11_carry_s {m u n : Nat} {T : Int} (hu : I 12 m 3 = nI u) (hu6 : u ≤ 6) (h : sp_iv T (I 26 (R 12 m 0))) (hn : n ≤ 39) : rk_J w l rk_mX11_carry 7 [rk_a 12 m, rk_i (nI (5 * n))] Sh I R (md_Q I R m (sp_carry (I 26 (R 12 m 0)) (I 33 (R 12 m 10) (5 * n)) (I 33 (R 12 m 10) (5 * n + 1)) (I 33 (R 12 m 10) (5 * n + 2)) (I 33 (R 12 m 10) (5 * n + 3)) (I 33 (R 12 m 10) (5 * n + 4)))) := by
  obtain ⟨⟨c, hp⟩, ⟨oc, hoc, h13, hb⟩, ⟨t, ht, h10⟩, hr⟩ := h
  have hc24 := hp.1
  have h8 : 1 ≤ I 26 (R 12 m 0) 8 := Int32.le_trans (by decide) (hr.1 8 (by decide)).1
  have hfl : ∀ o, o < oc → sp_ov (I 26 (R 12 m 0)) o ∧ ∃ n, n < 2 ^ 20 ∧ I 26 (R 12 m 0) (220 + 7 * o + 3) = nI n := fun o ho => by
    obtain ⟨g1, ⟨n, _, g2, g3⟩, _⟩ := hb o ho
    exact ⟨g1, n, by omega, g3⟩
  have hdu : ∀ o, o < oc → ∃ du, du < 2 ^ 20 ∧ I 26 (R 12 m 0) (220 + 7 * o + 5) = nI du := fun o ho => by
    obtain ⟨_, _, du, g2, g3⟩ := hb o ho
    exact ⟨du, by omega, g3⟩
  refine rk_bJ (ls := [(0, _), (1, _)]) (by decide) rfl (Nat.le_of_ble_eq_true rfl) ?_
  refine rk_aload_n 0 dX11_carry_0 rfl rfl ?_
  refine rk_g12_10 rk_kX11_32 dX11_carry_1 ?_
  refine rk_iload_n 1 dX11_carry_4 rfl rfl ?_
  refine rk_iconst 1 dX11_carry_5 (by decide) ?_
  refine rk_iadd dX11_carry_6 ?_
  refine rk_rn33 (5*n + 1) dX11_carry_7 (by first | rfl | decide | assumption | (simp only [rk_lit, nI_add, pk_mul, nI_1]; done) | (simp only [rk_lit, nI_add, pk_mul, nI_1]; congr 1; omega)) (by first | decide | assumption | omega) ?_
  refine rk_pc (pc' := 8) rfl ?_
  refine rk_istore_n 2 (ls' := [(2, _), (0, _), (1, _)]) dX11_carry_8 rfl (by decide) rfl ?_
  refine rk_aload_n 0 dX11_carry_9 rfl rfl ?_
  refine rk_g12_10 rk_kX11_32 dX11_carry_10 ?_
  refine rk_iload_n 1 dX11_carry_13 rfl rfl ?_
  refine rk_iconst 2 dX11_carry_14 (by decide) ?_
  refine rk_iadd dX11_carry_15 ?_
  refine rk_pc (pc' := 16) rfl ?_
  refine rk_rn33 (5*n + 2) dX11_carry_16 (by first | rfl | decide | assumption | (simp only [rk_lit, nI_add, pk_mul, nI_1]; done) | (simp only [rk_lit, nI_add, pk_mul, nI_1]; congr 1; omega)) (by first | decide | assumption | omega) ?_
  refine rk_istore_n 3 (ls' := [(3, _), (2, _), (0, _), (1, _)]) dX11_carry_17 rfl (by decide) rfl ?_
  refine rk_aload_n 0 dX11_carry_18 rfl rfl ?_
  refine rk_g12_10 rk_kX11_32 dX11_carry_19 ?_
  refine rk_iload_n 1 dX11_carry_22 rfl rfl ?_
  refine rk_rn33 (5*n) dX11_carry_23 (by first | rfl | decide | assumption | (simp only [rk_lit, nI_add, pk_mul, nI_1]; done) | (simp only [rk_lit, nI_add, pk_mul, nI_1]; congr 1; omega)) (by first | decide | assumption | omega) ?_
  refine rk_pc (pc' := 24) rfl ?_
  refine rk_lsw 125 dX11_carry_24 (by decide) (by decide) (by decide) ?_ (fun qz24 => ?_)
  · refine ⟨fun qz24 => ?_, fun qz24 => ?_, fun qz24 => ?_, fun qz24 => ?_, fun qz24 => ?_, trivial⟩
    · skip
      have hw : I 33 (R 12 m 10) (5 * n) = 102 := rk_toI qz24 (by decide)
      refine rk_pc (pc' := 119) (by decide) ?_
      refine rk_aload_n 0 dX11_carry_119 rfl rfl ?_
      refine rk_iload_n 2 dX11_carry_120 rfl rfl ?_
      refine rk_cVi (cX11_fill_s hu hu6 hp hoc h13 hfl _) rk_eX11_fill rfl ⟨rfl, rfl⟩ rk_kX11_189 dX11_carry_121 rfl (by decide) (Nat.le_of_ble_eq_true rfl) ⟨Nat.le_refl _, Nat.le_refl _⟩ (fun xz1 Iz1 Rz1 hz1 => ?_)
      refine rk_iretJ dX11_carry_124 rfl rfl ?_
      rw [sp_carry, if_pos hw]; exact hz1
    · skip
      have hw : I 33 (R 12 m 10) (5 * n) = 106 := rk_toI qz24 (by decide)
      refine rk_pc (pc' := 106) (by decide) ?_
      refine rk_aload_n 0 dX11_carry_106 rfl rfl ?_
      refine rk_iload_n 2 dX11_carry_107 rfl rfl ?_
      refine rk_iload_n 3 dX11_carry_108 rfl rfl ?_
      refine rk_pc (pc' := 109) rfl ?_
      refine rk_cVi (cX11_join_s hu hu6 hp.2.1 hc24 _ _) rk_eX11_join rfl ⟨rfl, rfl⟩ rk_kX11_183 dX11_carry_109 rfl (by decide) (Nat.le_of_ble_eq_true rfl) ⟨Nat.le_refl _, Nat.le_refl _⟩ (fun xz1 Iz1 Rz1 hz1 => ?_)
      refine rk_iretJ dX11_carry_112 rfl rfl ?_
      rw [sp_carry, hw, if_neg (by decide), if_pos rfl]; exact hz1
    · skip
      have hw : I 33 (R 12 m 10) (5 * n) = 108 := rk_toI qz24 (by decide)
      refine rk_pc (pc' := 83) (by decide) ?_
      refine rk_aload_n 0 dX11_carry_83 rfl rfl ?_
      refine rk_iload_n 2 dX11_carry_84 rfl rfl ?_
      refine rk_iload_n 3 dX11_carry_85 rfl rfl ?_
      refine rk_aload_n 0 dX11_carry_86 rfl rfl ?_
      refine rk_g12_10 rk_kX11_32 dX11_carry_87 ?_
      refine rk_pc (pc' := 90) rfl ?_
      refine rk_iload_n 1 dX11_carry_90 rfl rfl ?_
      refine rk_iconst 3 dX11_carry_91 (by decide) ?_
      refine rk_iadd dX11_carry_92 ?_
      refine rk_rn33 (5*n + 3) dX11_carry_93 (by first | rfl | decide | assumption | (simp only [rk_lit, nI_add, pk_mul, nI_1]; done) | (simp only [rk_lit, nI_add, pk_mul, nI_1]; congr 1; omega)) (by first | decide | assumption | omega) ?_
      refine rk_aload_n 0 dX11_carry_94 rfl rfl ?_
      refine rk_g12_10 rk_kX11_32 dX11_carry_95 ?_
      refine rk_pc (pc' := 98) rfl ?_
      refine rk_iload_n 1 dX11_carry_98 rfl rfl ?_
      refine rk_iconst 4 dX11_carry_99 (by decide) ?_
      refine rk_iadd dX11_carry_100 ?_
      refine rk_rn33 (5*n + 4) dX11_carry_101 (by first | rfl | decide | assumption | (simp only [rk_lit, nI_add, pk_mul, nI_1]; done) | (simp only [rk_lit, nI_add, pk_mul, nI_1]; congr 1; omega)) (by first | decide | assumption | omega) ?_
      refine rk_cVi (cX11_lay_s hu hu6 hp.2.1 hc24 h8 _ _ _ _) rk_eX11_lay rfl ⟨rfl, rfl⟩ rk_kX11_179 dX11_carry_102 rfl (by decide) (Nat.le_of_ble_eq_true rfl) ⟨Nat.le_refl _, Nat.le_refl _⟩ (fun xz1 Iz1 Rz1 hz1 => ?_)
      refine rk_iretJ dX11_carry_105 rfl rfl ?_
      rw [sp_carry, hw, if_neg (by decide), if_neg (by decide), if_pos rfl]; exact hz1
    · skip
      have hw : I 33 (R 12 m 10) (5 * n) = 116 := rk_toI qz24 (by decide)
      refine rk_pc (pc' := 113) (by decide) ?_
      refine rk_aload_n 0 dX11_carry_113 rfl rfl ?_
      refine rk_pc (pc' := 114) rfl ?_
      refine rk_iload_n 2 dX11_carry_114 rfl rfl ?_
      refine rk_cVi (cX11_test_s hu hu6 hp _) rk_eX11_test rfl ⟨rfl, rfl⟩ rk_kX11_186 dX11_carry_115 rfl (by decide) (Nat.le_of_ble_eq_true rfl) ⟨Nat.le_refl _, Nat.le_refl _⟩ (fun xz1 Iz1 Rz1 hz1 => ?_)
      refine rk_iretJ dX11_carry_118 rfl rfl ?_
      rw [sp_carry, hw, if_neg (by decide), if_neg (by decide), if_neg (by decide), if_pos rfl]; exact hz1
    · skip
      have hw : I 33 (R 12 m 10) (5 * n) = 121 := rk_toI qz24 (by decide)
      refine rk_pc (pc' := 76) (by decide) ?_
      refine rk_aload_n 0 dX11_carry_76 rfl rfl ?_
      refine rk_iload_n 2 dX11_carry_77 rfl rfl ?_
      refine rk_iload_n 3 dX11_carry_78 rfl rfl ?_
      refine rk_cVi (cX11_spin_s hu hu6 _ _) rk_eX11_spin rfl ⟨rfl, rfl⟩ rk_kX11_176 dX11_carry_79 rfl (by decide) (Nat.le_of_ble_eq_true rfl) ⟨Nat.le_refl _, Nat.le_refl _⟩ (fun xz1 Iz1 Rz1 hz1 => ?_)
      refine rk_pc (pc' := 82) rfl ?_
      refine rk_iretJ dX11_carry_82 rfl rfl ?_
      rw [sp_carry, hw, if_neg (by decide), if_neg (by decide), if_neg (by decide), if_neg (by decide), if_pos rfl]; exact hz1
  · skip
    refine rk_aload_n 0 dX11_carry_125 rfl rfl ?_
    refine rk_iload_n 2 dX11_carry_126 rfl rfl ?_
    refine rk_cVi (cX11_pass_s hu hu6 ht hoc h10 h13 hdu _) rk_eX11_pass rfl ⟨rfl, rfl⟩ rk_kX11_192 dX11_carry_127 rfl (by decide) (Nat.le_of_ble_eq_true rfl) ⟨Nat.le_refl _, Nat.le_refl _⟩ (fun xz1 Iz1 Rz1 hz1 => ?_)
    refine rk_iretJ dX11_carry_130 rfl rfl ?_
    have n1 : ∀ v : Int32, (v = 102 ∨ v = 106 ∨ v = 108 ∨ v = 116 ∨ v = 121) → ¬ I 33 (R 12 m 10) (5 * n) = v := fun v hv z => by
      rw [z] at qz24
      rcases hv with hv | hv | hv | hv | hv <;> (subst hv; exact absurd qz24 (by decide))
    rw [sp_carry, if_neg (n1 102 (by decide)), if_neg (n1 106 (by decide)), if_neg (n1 108 (by decide)), if_neg (n1 116 (by decide)), if_neg (n1 121 (by decide))]; exact hz1
end MK

