section EN
variable {w : rk_W} {l : Launch} {Sh : rk_Sh} {I : rk_Mm} {R : rk_Rm}
/-- the row as the model makes it: its settings, then fibre after fibre -/
def md_N0 : Nat → Nat → Int32
  | 0 => (sp_u (sp_u (sp_u (sp_u (sp_u (sp_u (sp_u (sp_u (sp_u (sp_u (fun _ => 0) 0 1000) 1 30) 2 12) 3 15) 4 6) 5 5) 6 10) 7 12) 8 100) 9 50)
  | k + 1 => sp_u (sp_u (md_N0 k) (20 + 3 * k) (60 - 15 * nI k)) (20 + 3 * k + 1) (32 - 4 * nI k)
theorem cX11_init_l {s q : Nat} {Sh1 : rk_Sh} {A : rk_Mm} {J : rk_Rm} {Q : Option rk_V → rk_S → Prop} (h0 : J 12 s 0 = q) (hq : Sh1.2 q = 26) (hQ : Q none (Sh1, md_a A 26 q (md_N0 3), J)) : ∀ n k : Nat, k + n = 3 → rk_Wp w l rk_mX11_init 1 8 3706 (rk_G w Q 8 3706) 158 [(0, rk_a 62 s), (1, rk_i (nI k))] [] (Sh1, 8, 3706) (md_a A 26 q (md_N0 k)) J := by
  intro n
  induction n with
  | zero =>
    intro k hk
    obtain rfl : k = 3 := by omega
    refine rk_iload_n 1 dX11_init_158 rfl rfl ?_
    refine rk_iconst 3 dX11_init_159 (by decide) ?_
    refine rk_icmp_ge 206 dX11_init_160 (by decide) (fun qz160 => ?_) (fun qz160 => ?_)
    · skip
      refine rk_vret dX11_init_206 rfl (by first | omega | (dsimp only; omega)) ?_
      exact hQ
    · skip
      exact absurd (Int32.le_refl _) qz160
  | succ n ih =>
    intro k hk
    have hlt : ¬ (3 : Int32) ≤ nI k := nI_ge (b := 3) (by omega) (by decide)
    refine rk_iload_n 1 dX11_init_158 rfl rfl ?_
    refine rk_iconst 3 dX11_init_159 (by decide) ?_
    refine rk_icmp_ge 206 dX11_init_160 (by decide) (fun qz160 => ?_) (fun qz160 => ?_)
    · skip
      exact absurd qz160 hlt
    · skip
      refine rk_aload_n 0 dX11_init_163 rfl rfl ?_
      refine rk_gr12_0 26 rk_kX11_7 dX11_init_164 (by rw [h0]; exact hq) (by decide) ?_
      rw [h0]
      refine rk_bipush 20 dX11_init_167 (by decide) ?_
      refine rk_iconst 3 dX11_init_169 (by decide) ?_
      refine rk_pc (pc' := 170) rfl ?_
      refine rk_iload_n 1 dX11_init_170 rfl rfl ?_
      refine rk_imul dX11_init_171 ?_
      refine rk_iadd dX11_init_172 ?_
      refine rk_bipush 60 dX11_init_173 (by decide) ?_
      refine rk_bipush 15 dX11_init_175 (by decide) ?_
      refine rk_iload_n 1 dX11_init_177 rfl rfl ?_
      refine rk_pc (pc' := 178) rfl ?_
      refine rk_imul dX11_init_178 ?_
      refine rk_isub dX11_init_179 ?_
      refine rk_sn26 (20 + 3 * k) dX11_init_180 (by first | rfl | decide | assumption | (simp only [rk_lit, nI_add, pk_mul, nI_1]; done) | (simp only [rk_lit, nI_add, pk_mul, nI_1]; congr 1; omega)) (by first | decide | assumption | omega) (fun Iz1 eIz1 => ?_)
      rw [md_u] at eIz1
      obtain rfl := eIz1.symm
      refine rk_aload_n 0 dX11_init_181 rfl rfl ?_
      refine rk_gr12_0 26 rk_kX11_7 dX11_init_182 (by rw [h0]; exact hq) (by decide) ?_
      rw [h0]
      refine rk_bipush 20 dX11_init_185 (by decide) ?_
      refine rk_pc (pc' := 187) rfl ?_
      refine rk_iconst 3 dX11_init_187 (by decide) ?_
      refine rk_iload_n 1 dX11_init_188 rfl rfl ?_
      refine rk_imul dX11_init_189 ?_
      refine rk_iadd dX11_init_190 ?_
      refine rk_iconst 1 dX11_init_191 (by decide) ?_
      refine rk_iadd dX11_init_192 ?_
      refine rk_pc (pc' := 193) rfl ?_
      refine rk_bipush 32 dX11_init_193 (by decide) ?_
      refine rk_iconst 4 dX11_init_195 (by decide) ?_
      refine rk_iload_n 1 dX11_init_196 rfl rfl ?_
      refine rk_imul dX11_init_197 ?_
      refine rk_isub dX11_init_198 ?_
      refine rk_sn26 (20 + 3 * k + 1) dX11_init_199 (by first | rfl | decide | assumption | (simp only [rk_lit, nI_add, pk_mul, nI_1]; done) | (simp only [rk_lit, nI_add, pk_mul, nI_1]; congr 1; omega)) (by first | decide | assumption | omega) (fun Iz2 eIz2 => ?_)
      rw [md_u] at eIz2
      obtain rfl := eIz2.symm
      refine rk_pc (pc' := 200) rfl ?_
      refine rk_iinc 1 (ls' := [(1, _), (0, _)]) dX11_init_200 (by decide) rfl (by decide) rfl ?_
      refine rk_goto 158 dX11_init_203 (by decide) ?_
      refine rk_ord [0, 1] (ls' := [(0, _), (1, _)]) rfl ?_
      rw [nI_1]
      exact ih (k + 1) (by omega)
theorem cX11_init_s {s : Nat} (hs : Sh.2 s = 62) : rk_K w l rk_mX11_init 1 8 3706 [rk_a 62 s] Sh I R (fun u => cn_f Sh I R u s ∧ (cn_n Sh u 26 (u.2.2 12 s 0) ∧ cn_n Sh u 27 (u.2.2 12 s 1) ∧ cn_n Sh u 28 (u.2.2 12 s 2) ∧ cn_n Sh u 29 (u.2.2 12 s 4) ∧ cn_n Sh u 30 (u.2.2 12 s 5) ∧ cn_n Sh u 31 (u.2.2 12 s 6) ∧ cn_n Sh u 32 (u.2.2 12 s 9) ∧ cn_n Sh u 33 (u.2.2 12 s 10)) ∧ u.2.1 26 (u.2.2 12 s 0) = md_N0 3 ∧ ∀ j, u.2.1 30 (u.2.2 12 s 5) j = 0) := by
  have hs0 : Sh.2 s ≠ 0 := by rw [hs]; decide
  refine rk_bK (ls := [(0, _)]) (by decide) rfl (Nat.le_of_ble_eq_true rfl) ?_
  refine rk_aload_n 0 dX11_init_0 rfl rfl ?_
  refine rk_oinit (by exact rk_inT 878 (by decide +kernel) (by decide +kernel)) rk_oin rk_oco dX11_init_1 (by decide) (Nat.le_of_ble_eq_true rfl) ?_
  refine rk_aload_n 0 dX11_init_4 rfl rfl ?_
  refine rk_sipush 340 dX11_init_5 (by decide) ?_
  refine rk_na26 (by decide) (by first | omega | (dsimp only; omega)) (by first | omega | (dsimp only; omega)) dX11_init_8 (fun nz1 hn1 => ?_)
  refine rk_pf12_0 rfl rfl rk_kX11_7 (by decide) dX11_init_10 (fun Rz1 eRz1 => ?_)
  have H1 := cn_mkA (Sh := Sh) (I := I) (k := 26) hn1 eRz1
  obtain ⟨S1, T1⟩ := cn_mkAS (Sh := Sh) hn1 hs0 eRz1
  have hs1 : (rk_nS Sh nz1 26).2 s ≠ 0 := by rw [H1.1 s hs0]; exact hs0
  have v1 : (rk_nS Sh nz1 26).2 nz1 = 26 := va_up_self _ _ _
  refine rk_aload_n 0 dX11_init_13 rfl rfl ?_
  refine rk_pc (pc' := 14) rfl ?_
  refine rk_sipush 340 dX11_init_14 (by decide) ?_
  refine rk_na27 (by decide) (by first | omega | (dsimp only; omega)) (by first | omega | (dsimp only; omega)) dX11_init_17 (fun nz2 hn2 => ?_)
  refine rk_pf12_1 rfl rfl rk_kX11_13 (by decide) dX11_init_19 (fun Rz2 eRz2 => ?_)
  have H2 := cn_mkA (Sh := (rk_nS Sh nz1 26)) (I := (rk_nI I nz1)) (k := 27) hn2 eRz2
  obtain ⟨S2, T2⟩ := cn_mkAS (Sh := (rk_nS Sh nz1 26)) hn2 hs1 eRz2
  have hs2 : (rk_nS (rk_nS Sh nz1 26) nz2 27).2 s ≠ 0 := by rw [H2.1 s hs1]; exact hs1
  have v2 : (rk_nS (rk_nS Sh nz1 26) nz2 27).2 nz2 = 27 := va_up_self _ _ _
  refine rk_aload_n 0 dX11_init_22 rfl rfl ?_
  refine rk_sipush 2040 dX11_init_23 (by decide) ?_
  refine rk_na28 (by decide) (by first | omega | (dsimp only; omega)) (by first | omega | (dsimp only; omega)) dX11_init_26 (fun nz3 hn3 => ?_)
  refine rk_pf12_2 rfl rfl rk_kX11_16 (by decide) dX11_init_28 (fun Rz3 eRz3 => ?_)
  have H3 := cn_mkA (Sh := (rk_nS (rk_nS Sh nz1 26) nz2 27)) (I := (rk_nI (rk_nI I nz1) nz2)) (k := 28) hn3 eRz3
  obtain ⟨S3, T3⟩ := cn_mkAS (Sh := (rk_nS (rk_nS Sh nz1 26) nz2 27)) hn3 hs2 eRz3
  have hs3 : (rk_nS (rk_nS (rk_nS Sh nz1 26) nz2 27) nz3 28).2 s ≠ 0 := by rw [H3.1 s hs2]; exact hs2
  have v3 : (rk_nS (rk_nS (rk_nS Sh nz1 26) nz2 27) nz3 28).2 nz3 = 28 := va_up_self _ _ _
  refine rk_aload_n 0 dX11_init_31 rfl rfl ?_
  refine rk_pc (pc' := 32) rfl ?_
  refine rk_sipush 680 dX11_init_32 (by decide) ?_
  refine rk_na29 (by decide) (by first | omega | (dsimp only; omega)) (by first | omega | (dsimp only; omega)) dX11_init_35 (fun nz4 hn4 => ?_)
  refine rk_pf12_4 rfl rfl rk_kX11_19 (by decide) dX11_init_37 (fun Rz4 eRz4 => ?_)
  have H4 := cn_mkA (Sh := (rk_nS (rk_nS (rk_nS Sh nz1 26) nz2 27) nz3 28)) (I := (rk_nI (rk_nI (rk_nI I nz1) nz2) nz3)) (k := 29) hn4 eRz4
  obtain ⟨S4, T4⟩ := cn_mkAS (Sh := (rk_nS (rk_nS (rk_nS Sh nz1 26) nz2 27) nz3 28)) hn4 hs3 eRz4
  have hs4 : (rk_nS (rk_nS (rk_nS (rk_nS Sh nz1 26) nz2 27) nz3 28) nz4 29).2 s ≠ 0 := by rw [H4.1 s hs3]; exact hs3
  have v4 : (rk_nS (rk_nS (rk_nS (rk_nS Sh nz1 26) nz2 27) nz3 28) nz4 29).2 nz4 = 29 := va_up_self _ _ _
  refine rk_aload_n 0 dX11_init_40 rfl rfl ?_
  refine rk_iconst 2 dX11_init_41 (by decide) ?_
  refine rk_na30 (by decide) (by first | omega | (dsimp only; omega)) (by first | omega | (dsimp only; omega)) dX11_init_42 (fun nz5 hn5 => ?_)
  refine rk_pf12_5 rfl rfl rk_kX11_22 (by decide) dX11_init_44 (fun Rz5 eRz5 => ?_)
  have H5 := cn_mkA (Sh := (rk_nS (rk_nS (rk_nS (rk_nS Sh nz1 26) nz2 27) nz3 28) nz4 29)) (I := (rk_nI (rk_nI (rk_nI (rk_nI I nz1) nz2) nz3) nz4)) (k := 30) hn5 eRz5
  obtain ⟨S5, T5⟩ := cn_mkAS (Sh := (rk_nS (rk_nS (rk_nS (rk_nS Sh nz1 26) nz2 27) nz3 28) nz4 29)) hn5 hs4 eRz5
  have hs5 : (rk_nS (rk_nS (rk_nS (rk_nS (rk_nS Sh nz1 26) nz2 27) nz3 28) nz4 29) nz5 30).2 s ≠ 0 := by rw [H5.1 s hs4]; exact hs4
  have v5 : (rk_nS (rk_nS (rk_nS (rk_nS (rk_nS Sh nz1 26) nz2 27) nz3 28) nz4 29) nz5 30).2 nz5 = 30 := va_up_self _ _ _
  refine rk_aload_n 0 dX11_init_47 rfl rfl ?_
  refine rk_pc (pc' := 48) rfl ?_
  refine rk_bipush 80 dX11_init_48 (by decide) ?_
  refine rk_na31 (by decide) (by first | omega | (dsimp only; omega)) (by first | omega | (dsimp only; omega)) dX11_init_50 (fun nz6 hn6 => ?_)
  refine rk_pf12_6 rfl rfl rk_kX11_26 (by decide) dX11_init_52 (fun Rz6 eRz6 => ?_)
  have H6 := cn_mkA (Sh := (rk_nS (rk_nS (rk_nS (rk_nS (rk_nS Sh nz1 26) nz2 27) nz3 28) nz4 29) nz5 30)) (I := (rk_nI (rk_nI (rk_nI (rk_nI (rk_nI I nz1) nz2) nz3) nz4) nz5)) (k := 31) hn6 eRz6
  obtain ⟨S6, T6⟩ := cn_mkAS (Sh := (rk_nS (rk_nS (rk_nS (rk_nS (rk_nS Sh nz1 26) nz2 27) nz3 28) nz4 29) nz5 30)) hn6 hs5 eRz6
  have hs6 : (rk_nS (rk_nS (rk_nS (rk_nS (rk_nS (rk_nS Sh nz1 26) nz2 27) nz3 28) nz4 29) nz5 30) nz6 31).2 s ≠ 0 := by rw [H6.1 s hs5]; exact hs5
  have v6 : (rk_nS (rk_nS (rk_nS (rk_nS (rk_nS (rk_nS Sh nz1 26) nz2 27) nz3 28) nz4 29) nz5 30) nz6 31).2 nz6 = 31 := va_up_self _ _ _
  refine rk_aload_n 0 dX11_init_55 rfl rfl ?_
  refine rk_bipush 24 dX11_init_56 (by decide) ?_
  refine rk_na32 (by decide) (by first | omega | (dsimp only; omega)) (by first | omega | (dsimp only; omega)) dX11_init_58 (fun nz7 hn7 => ?_)
  refine rk_pf12_9 rfl rfl rk_kX11_29 (by decide) dX11_init_60 (fun Rz7 eRz7 => ?_)
  have H7 := cn_mkA (Sh := (rk_nS (rk_nS (rk_nS (rk_nS (rk_nS (rk_nS Sh nz1 26) nz2 27) nz3 28) nz4 29) nz5 30) nz6 31)) (I := (rk_nI (rk_nI (rk_nI (rk_nI (rk_nI (rk_nI I nz1) nz2) nz3) nz4) nz5) nz6)) (k := 32) hn7 eRz7
  obtain ⟨S7, T7⟩ := cn_mkAS (Sh := (rk_nS (rk_nS (rk_nS (rk_nS (rk_nS (rk_nS Sh nz1 26) nz2 27) nz3 28) nz4 29) nz5 30) nz6 31)) hn7 hs6 eRz7
  have hs7 : (rk_nS (rk_nS (rk_nS (rk_nS (rk_nS (rk_nS (rk_nS Sh nz1 26) nz2 27) nz3 28) nz4 29) nz5 30) nz6 31) nz7 32).2 s ≠ 0 := by rw [H7.1 s hs6]; exact hs6
  have v7 : (rk_nS (rk_nS (rk_nS (rk_nS (rk_nS (rk_nS (rk_nS Sh nz1 26) nz2 27) nz3 28) nz4 29) nz5 30) nz6 31) nz7 32).2 nz7 = 32 := va_up_self _ _ _
  refine rk_aload_n 0 dX11_init_63 rfl rfl ?_
  refine rk_pc (pc' := 64) rfl ?_
  refine rk_sipush 200 dX11_init_64 (by decide) ?_
  refine rk_na33 (by decide) (by first | omega | (dsimp only; omega)) (by first | omega | (dsimp only; omega)) dX11_init_67 (fun nz8 hn8 => ?_)
  refine rk_pf12_10 rfl rfl rk_kX11_32 (by decide) dX11_init_69 (fun Rz8 eRz8 => ?_)
  have H8 := cn_mkA (Sh := (rk_nS (rk_nS (rk_nS (rk_nS (rk_nS (rk_nS (rk_nS Sh nz1 26) nz2 27) nz3 28) nz4 29) nz5 30) nz6 31) nz7 32)) (I := (rk_nI (rk_nI (rk_nI (rk_nI (rk_nI (rk_nI (rk_nI I nz1) nz2) nz3) nz4) nz5) nz6) nz7)) (k := 33) hn8 eRz8
  obtain ⟨S8, T8⟩ := cn_mkAS (Sh := (rk_nS (rk_nS (rk_nS (rk_nS (rk_nS (rk_nS (rk_nS Sh nz1 26) nz2 27) nz3 28) nz4 29) nz5 30) nz6 31) nz7 32)) hn8 hs7 eRz8
  have hs8 : (rk_nS (rk_nS (rk_nS (rk_nS (rk_nS (rk_nS (rk_nS (rk_nS Sh nz1 26) nz2 27) nz3 28) nz4 29) nz5 30) nz6 31) nz7 32) nz8 33).2 s ≠ 0 := by rw [H8.1 s hs7]; exact hs7
  have v8 : (rk_nS (rk_nS (rk_nS (rk_nS (rk_nS (rk_nS (rk_nS (rk_nS Sh nz1 26) nz2 27) nz3 28) nz4 29) nz5 30) nz6 31) nz7 32) nz8 33).2 nz8 = 33 := va_up_self _ _ _
  have C8 := H8
  have C7 := H7.tr C8
  have C6 := H6.tr C7
  have C5 := H5.tr C6
  have C4 := H4.tr C5
  have C3 := H3.tr C4
  have C2 := H2.tr C3
  have C1 := H1.tr C2
  have r1 : Rz8 12 s 0 = nz1 := (T8 0 (by decide)).trans ((T7 0 (by decide)).trans ((T6 0 (by decide)).trans ((T5 0 (by decide)).trans ((T4 0 (by decide)).trans ((T3 0 (by decide)).trans ((T2 0 (by decide)).trans (S1)))))))
  have w1 : (rk_nS (rk_nS (rk_nS (rk_nS (rk_nS (rk_nS (rk_nS (rk_nS Sh nz1 26) nz2 27) nz3 28) nz4 29) nz5 30) nz6 31) nz7 32) nz8 33).2 nz1 = 26 := (C2.1 nz1 (by show (rk_nS Sh nz1 26).2 nz1 ≠ 0; rw [v1]; decide)).trans v1
  have u1 : Sh.2 nz1 = 0 := hn1.1
  have r2 : Rz8 12 s 1 = nz2 := (T8 1 (by decide)).trans ((T7 1 (by decide)).trans ((T6 1 (by decide)).trans ((T5 1 (by decide)).trans ((T4 1 (by decide)).trans ((T3 1 (by decide)).trans (S2))))))
  have w2 : (rk_nS (rk_nS (rk_nS (rk_nS (rk_nS (rk_nS (rk_nS (rk_nS Sh nz1 26) nz2 27) nz3 28) nz4 29) nz5 30) nz6 31) nz7 32) nz8 33).2 nz2 = 27 := (C3.1 nz2 (by show (rk_nS (rk_nS Sh nz1 26) nz2 27).2 nz2 ≠ 0; rw [v2]; decide)).trans v2
  have u2 : Sh.2 nz2 = 0 := (cn_up0 (hn2.1) (by decide)).2
  have r3 : Rz8 12 s 2 = nz3 := (T8 2 (by decide)).trans ((T7 2 (by decide)).trans ((T6 2 (by decide)).trans ((T5 2 (by decide)).trans ((T4 2 (by decide)).trans (S3)))))
  have w3 : (rk_nS (rk_nS (rk_nS (rk_nS (rk_nS (rk_nS (rk_nS (rk_nS Sh nz1 26) nz2 27) nz3 28) nz4 29) nz5 30) nz6 31) nz7 32) nz8 33).2 nz3 = 28 := (C4.1 nz3 (by show (rk_nS (rk_nS (rk_nS Sh nz1 26) nz2 27) nz3 28).2 nz3 ≠ 0; rw [v3]; decide)).trans v3
  have u3 : Sh.2 nz3 = 0 := (cn_up0 ((cn_up0 (hn3.1) (by decide)).2) (by decide)).2
  have r4 : Rz8 12 s 4 = nz4 := (T8 4 (by decide)).trans ((T7 4 (by decide)).trans ((T6 4 (by decide)).trans ((T5 4 (by decide)).trans (S4))))
  have w4 : (rk_nS (rk_nS (rk_nS (rk_nS (rk_nS (rk_nS (rk_nS (rk_nS Sh nz1 26) nz2 27) nz3 28) nz4 29) nz5 30) nz6 31) nz7 32) nz8 33).2 nz4 = 29 := (C5.1 nz4 (by show (rk_nS (rk_nS (rk_nS (rk_nS Sh nz1 26) nz2 27) nz3 28) nz4 29).2 nz4 ≠ 0; rw [v4]; decide)).trans v4
  have u4 : Sh.2 nz4 = 0 := (cn_up0 ((cn_up0 ((cn_up0 (hn4.1) (by decide)).2) (by decide)).2) (by decide)).2
  have r5 : Rz8 12 s 5 = nz5 := (T8 5 (by decide)).trans ((T7 5 (by decide)).trans ((T6 5 (by decide)).trans (S5)))
  have w5 : (rk_nS (rk_nS (rk_nS (rk_nS (rk_nS (rk_nS (rk_nS (rk_nS Sh nz1 26) nz2 27) nz3 28) nz4 29) nz5 30) nz6 31) nz7 32) nz8 33).2 nz5 = 30 := (C6.1 nz5 (by show (rk_nS (rk_nS (rk_nS (rk_nS (rk_nS Sh nz1 26) nz2 27) nz3 28) nz4 29) nz5 30).2 nz5 ≠ 0; rw [v5]; decide)).trans v5
  have u5 : Sh.2 nz5 = 0 := (cn_up0 ((cn_up0 ((cn_up0 ((cn_up0 (hn5.1) (by decide)).2) (by decide)).2) (by decide)).2) (by decide)).2
  have r6 : Rz8 12 s 6 = nz6 := (T8 6 (by decide)).trans ((T7 6 (by decide)).trans (S6))
  have w6 : (rk_nS (rk_nS (rk_nS (rk_nS (rk_nS (rk_nS (rk_nS (rk_nS Sh nz1 26) nz2 27) nz3 28) nz4 29) nz5 30) nz6 31) nz7 32) nz8 33).2 nz6 = 31 := (C7.1 nz6 (by show (rk_nS (rk_nS (rk_nS (rk_nS (rk_nS (rk_nS Sh nz1 26) nz2 27) nz3 28) nz4 29) nz5 30) nz6 31).2 nz6 ≠ 0; rw [v6]; decide)).trans v6
  have u6 : Sh.2 nz6 = 0 := (cn_up0 ((cn_up0 ((cn_up0 ((cn_up0 ((cn_up0 (hn6.1) (by decide)).2) (by decide)).2) (by decide)).2) (by decide)).2) (by decide)).2
  have r7 : Rz8 12 s 9 = nz7 := (T8 9 (by decide)).trans (S7)
  have w7 : (rk_nS (rk_nS (rk_nS (rk_nS (rk_nS (rk_nS (rk_nS (rk_nS Sh nz1 26) nz2 27) nz3 28) nz4 29) nz5 30) nz6 31) nz7 32) nz8 33).2 nz7 = 32 := (C8.1 nz7 (by show (rk_nS (rk_nS (rk_nS (rk_nS (rk_nS (rk_nS (rk_nS Sh nz1 26) nz2 27) nz3 28) nz4 29) nz5 30) nz6 31) nz7 32).2 nz7 ≠ 0; rw [v7]; decide)).trans v7
  have u7 : Sh.2 nz7 = 0 := (cn_up0 ((cn_up0 ((cn_up0 ((cn_up0 ((cn_up0 ((cn_up0 (hn7.1) (by decide)).2) (by decide)).2) (by decide)).2) (by decide)).2) (by decide)).2) (by decide)).2
  have r8 : Rz8 12 s 10 = nz8 := S8
  have w8 := v8
  have u8 : Sh.2 nz8 = 0 := (cn_up0 ((cn_up0 ((cn_up0 ((cn_up0 ((cn_up0 ((cn_up0 ((cn_up0 (hn8.1) (by decide)).2) (by decide)).2) (by decide)).2) (by decide)).2) (by decide)).2) (by decide)).2) (by decide)).2
  have eB : (rk_nI (rk_nI (rk_nI (rk_nI (rk_nI (rk_nI (rk_nI (rk_nI I nz1) nz2) nz3) nz4) nz5) nz6) nz7) nz8) 26 nz1 = fun _ => 0 := by
    funext j
    exact ((C2.2 nz1 (by show (rk_nS Sh nz1 26).2 nz1 ≠ 0; rw [v1]; decide)).1 26 j).trans rk_nI_s
  have eF : ∀ j, (rk_nI (rk_nI (rk_nI (rk_nI (rk_nI (rk_nI (rk_nI (rk_nI I nz1) nz2) nz3) nz4) nz5) nz6) nz7) nz8) 30 nz5 j = 0 := fun j => ((C6.2 nz5 (by show (rk_nS (rk_nS (rk_nS (rk_nS (rk_nS Sh nz1 26) nz2 27) nz3 28) nz4 29) nz5 30).2 nz5 ≠ 0; rw [v5]; decide)).1 30 j).trans rk_nI_s
  refine rk_aload_n 0 dX11_init_72 rfl rfl ?_
  refine rk_gr12_0 26 rk_kX11_7 dX11_init_73 (by rw [r1]; exact w1) (by decide) ?_
  rw [r1]
  refine rk_iconst 0 dX11_init_76 (by decide) ?_
  refine rk_sipush 1000 dX11_init_77 (by decide) ?_
  refine rk_pc (pc' := 80) rfl ?_
  refine rk_sn26 0 dX11_init_80 rfl (by first | decide | assumption | omega) (fun Iz9 eIz9 => ?_)
  rw [md_u1, eB] at eIz9
  obtain rfl := eIz9.symm
  refine rk_aload_n 0 dX11_init_81 rfl rfl ?_
  refine rk_gr12_0 26 rk_kX11_7 dX11_init_82 (by rw [r1]; exact w1) (by decide) ?_
  rw [r1]
  refine rk_iconst 1 dX11_init_85 (by decide) ?_
  refine rk_bipush 30 dX11_init_86 (by decide) ?_
  refine rk_sn26 1 dX11_init_88 rfl (by first | decide | assumption | omega) (fun Iz10 eIz10 => ?_)
  rw [md_u] at eIz10
  obtain rfl := eIz10.symm
  refine rk_pc (pc' := 89) rfl ?_
  refine rk_aload_n 0 dX11_init_89 rfl rfl ?_
  refine rk_gr12_0 26 rk_kX11_7 dX11_init_90 (by rw [r1]; exact w1) (by decide) ?_
  rw [r1]
  refine rk_iconst 2 dX11_init_93 (by decide) ?_
  refine rk_bipush 12 dX11_init_94 (by decide) ?_
  refine rk_sn26 2 dX11_init_96 rfl (by first | decide | assumption | omega) (fun Iz11 eIz11 => ?_)
  rw [md_u] at eIz11
  obtain rfl := eIz11.symm
  refine rk_aload_n 0 dX11_init_97 rfl rfl ?_
  refine rk_pc (pc' := 98) rfl ?_
  refine rk_gr12_0 26 rk_kX11_7 dX11_init_98 (by rw [r1]; exact w1) (by decide) ?_
  rw [r1]
  refine rk_iconst 3 dX11_init_101 (by decide) ?_
  refine rk_bipush 15 dX11_init_102 (by decide) ?_
  refine rk_sn26 3 dX11_init_104 rfl (by first | decide | assumption | omega) (fun Iz12 eIz12 => ?_)
  rw [md_u] at eIz12
  obtain rfl := eIz12.symm
  refine rk_aload_n 0 dX11_init_105 rfl rfl ?_
  refine rk_gr12_0 26 rk_kX11_7 dX11_init_106 (by rw [r1]; exact w1) (by decide) ?_
  rw [r1]
  refine rk_pc (pc' := 109) rfl ?_
  refine rk_iconst 4 dX11_init_109 (by decide) ?_
  refine rk_bipush 6 dX11_init_110 (by decide) ?_
  refine rk_sn26 4 dX11_init_112 rfl (by first | decide | assumption | omega) (fun Iz13 eIz13 => ?_)
  rw [md_u] at eIz13
  obtain rfl := eIz13.symm
  refine rk_aload_n 0 dX11_init_113 rfl rfl ?_
  refine rk_gr12_0 26 rk_kX11_7 dX11_init_114 (by rw [r1]; exact w1) (by decide) ?_
  rw [r1]
  refine rk_iconst 5 dX11_init_117 (by decide) ?_
  refine rk_pc (pc' := 118) rfl ?_
  refine rk_iconst 5 dX11_init_118 (by decide) ?_
  refine rk_sn26 5 dX11_init_119 rfl (by first | decide | assumption | omega) (fun Iz14 eIz14 => ?_)
  rw [md_u] at eIz14
  obtain rfl := eIz14.symm
  refine rk_aload_n 0 dX11_init_120 rfl rfl ?_
  refine rk_gr12_0 26 rk_kX11_7 dX11_init_121 (by rw [r1]; exact w1) (by decide) ?_
  rw [r1]
  refine rk_bipush 6 dX11_init_124 (by decide) ?_
  refine rk_bipush 10 dX11_init_126 (by decide) ?_
  refine rk_pc (pc' := 128) rfl ?_
  refine rk_sn26 6 dX11_init_128 rfl (by first | decide | assumption | omega) (fun Iz15 eIz15 => ?_)
  rw [md_u] at eIz15
  obtain rfl := eIz15.symm
  refine rk_aload_n 0 dX11_init_129 rfl rfl ?_
  refine rk_gr12_0 26 rk_kX11_7 dX11_init_130 (by rw [r1]; exact w1) (by decide) ?_
  rw [r1]
  refine rk_bipush 7 dX11_init_133 (by decide) ?_
  refine rk_bipush 12 dX11_init_135 (by decide) ?_
  refine rk_sn26 7 dX11_init_137 rfl (by first | decide | assumption | omega) (fun Iz16 eIz16 => ?_)
  rw [md_u] at eIz16
  obtain rfl := eIz16.symm
  refine rk_pc (pc' := 138) rfl ?_
  refine rk_aload_n 0 dX11_init_138 rfl rfl ?_
  refine rk_gr12_0 26 rk_kX11_7 dX11_init_139 (by rw [r1]; exact w1) (by decide) ?_
  rw [r1]
  refine rk_bipush 8 dX11_init_142 (by decide) ?_
  refine rk_bipush 100 dX11_init_144 (by decide) ?_
  refine rk_sn26 8 dX11_init_146 rfl (by first | decide | assumption | omega) (fun Iz17 eIz17 => ?_)
  rw [md_u] at eIz17
  obtain rfl := eIz17.symm
  refine rk_aload_n 0 dX11_init_147 rfl rfl ?_
  refine rk_pc (pc' := 148) rfl ?_
  refine rk_gr12_0 26 rk_kX11_7 dX11_init_148 (by rw [r1]; exact w1) (by decide) ?_
  rw [r1]
  refine rk_bipush 9 dX11_init_151 (by decide) ?_
  refine rk_bipush 50 dX11_init_153 (by decide) ?_
  refine rk_sn26 9 dX11_init_155 rfl (by first | decide | assumption | omega) (fun Iz18 eIz18 => ?_)
  rw [md_u] at eIz18
  obtain rfl := eIz18.symm
  refine rk_iconst 0 dX11_init_156 (by decide) ?_
  refine rk_istore_n 1 (ls' := [(1, _), (0, _)]) dX11_init_157 rfl (by decide) rfl ?_
  refine rk_pc (pc' := 158) rfl ?_
  refine rk_ord [0, 1] (ls' := [(0, _), (1, _)]) rfl ?_
  refine cX11_init_l (q := nz1) (Sh1 := (rk_nS (rk_nS (rk_nS (rk_nS (rk_nS (rk_nS (rk_nS (rk_nS Sh nz1 26) nz2 27) nz3 28) nz4 29) nz5 30) nz6 31) nz7 32) nz8 33)) (A := (rk_nI (rk_nI (rk_nI (rk_nI (rk_nI (rk_nI (rk_nI (rk_nI I nz1) nz2) nz3) nz4) nz5) nz6) nz7) nz8)) (J := Rz8) r1 w1 ⟨rfl, C1.1, fun a h => ⟨fun c j => ?_, fun hs2 c j => (C1.2 a h).2 hs2 c j⟩, ?_, ?_, fun j => ?_⟩ 3 0 rfl
  · show md_a (rk_nI (rk_nI (rk_nI (rk_nI (rk_nI (rk_nI (rk_nI (rk_nI I nz1) nz2) nz3) nz4) nz5) nz6) nz7) nz8) 26 nz1 (md_N0 3) c a j = I c a j
    rw [md_an (fun z => h (by rw [z.2]; exact u1))]
    exact (C1.2 a h).1 c j
  · show ((rk_nS (rk_nS (rk_nS (rk_nS (rk_nS (rk_nS (rk_nS (rk_nS Sh nz1 26) nz2 27) nz3 28) nz4 29) nz5 30) nz6 31) nz7 32) nz8 33).2 (Rz8 12 s 0) = 26 ∧ Sh.2 (Rz8 12 s 0) = 0) ∧ ((rk_nS (rk_nS (rk_nS (rk_nS (rk_nS (rk_nS (rk_nS (rk_nS Sh nz1 26) nz2 27) nz3 28) nz4 29) nz5 30) nz6 31) nz7 32) nz8 33).2 (Rz8 12 s 1) = 27 ∧ Sh.2 (Rz8 12 s 1) = 0) ∧ ((rk_nS (rk_nS (rk_nS (rk_nS (rk_nS (rk_nS (rk_nS (rk_nS Sh nz1 26) nz2 27) nz3 28) nz4 29) nz5 30) nz6 31) nz7 32) nz8 33).2 (Rz8 12 s 2) = 28 ∧ Sh.2 (Rz8 12 s 2) = 0) ∧ ((rk_nS (rk_nS (rk_nS (rk_nS (rk_nS (rk_nS (rk_nS (rk_nS Sh nz1 26) nz2 27) nz3 28) nz4 29) nz5 30) nz6 31) nz7 32) nz8 33).2 (Rz8 12 s 4) = 29 ∧ Sh.2 (Rz8 12 s 4) = 0) ∧ ((rk_nS (rk_nS (rk_nS (rk_nS (rk_nS (rk_nS (rk_nS (rk_nS Sh nz1 26) nz2 27) nz3 28) nz4 29) nz5 30) nz6 31) nz7 32) nz8 33).2 (Rz8 12 s 5) = 30 ∧ Sh.2 (Rz8 12 s 5) = 0) ∧ ((rk_nS (rk_nS (rk_nS (rk_nS (rk_nS (rk_nS (rk_nS (rk_nS Sh nz1 26) nz2 27) nz3 28) nz4 29) nz5 30) nz6 31) nz7 32) nz8 33).2 (Rz8 12 s 6) = 31 ∧ Sh.2 (Rz8 12 s 6) = 0) ∧ ((rk_nS (rk_nS (rk_nS (rk_nS (rk_nS (rk_nS (rk_nS (rk_nS Sh nz1 26) nz2 27) nz3 28) nz4 29) nz5 30) nz6 31) nz7 32) nz8 33).2 (Rz8 12 s 9) = 32 ∧ Sh.2 (Rz8 12 s 9) = 0) ∧ ((rk_nS (rk_nS (rk_nS (rk_nS (rk_nS (rk_nS (rk_nS (rk_nS Sh nz1 26) nz2 27) nz3 28) nz4 29) nz5 30) nz6 31) nz7 32) nz8 33).2 (Rz8 12 s 10) = 33 ∧ Sh.2 (Rz8 12 s 10) = 0)
    rw [r1, r2, r3, r4, r5, r6, r7, r8]
    exact ⟨⟨w1, u1⟩, ⟨w2, u2⟩, ⟨w3, u3⟩, ⟨w4, u4⟩, ⟨w5, u5⟩, ⟨w6, u6⟩, ⟨w7, u7⟩, ⟨w8, u8⟩⟩
  · show md_a (rk_nI (rk_nI (rk_nI (rk_nI (rk_nI (rk_nI (rk_nI (rk_nI I nz1) nz2) nz3) nz4) nz5) nz6) nz7) nz8) 26 nz1 (md_N0 3) 26 (Rz8 12 s 0) = md_N0 3
    rw [r1, md_as]
  · show md_a (rk_nI (rk_nI (rk_nI (rk_nI (rk_nI (rk_nI (rk_nI (rk_nI I nz1) nz2) nz3) nz4) nz5) nz6) nz7) nz8) 26 nz1 (md_N0 3) 30 (Rz8 12 s 5) j = 0
    rw [r5, md_ac (by decide)]
    exact eF j
end EN

