section EU
variable {w : rk_W} {l : Launch} {d mc ms : Nat} {G : List Frame → Array Value → State → State → Prop} {Z : rk_Z} {rg : Nat → Nat} {I : rk_Mm} {R : rk_Rm} {T : Int} {x m b k Lx : Nat}
abbrev rk_mL_law : rk_M := (yL_law, cL_law, 4, some .boolean)
theorem cL_in {k c Lx : Nat} (hk : k + 7 ≤ Lx) (hL : Lx ≤ 3584) (hc : c < 7) : vp_in (nI k + nI c) Lx := by
  rw [nI_add]
  exact vp_in_nI (by omega) (by omega)
theorem cL_ins {k Lx : Nat} (hk : k + 7 ≤ Lx) (hL : Lx ≤ 3584) : vp_in (nI k) Lx ∧ vp_in (nI k + 1) Lx ∧ vp_in (nI k + 2) Lx ∧ vp_in (nI k + 3) Lx ∧ vp_in (nI k + 4) Lx ∧ vp_in (nI k + 5) Lx ∧ vp_in (nI k + 6) Lx := ⟨vp_in_nI (by omega) (by omega), cL_in (c := 1) hk hL (by decide), cL_in (c := 2) hk hL (by decide), cL_in (c := 3) hk hL (by decide), cL_in (c := 4) hk hL (by decide), cL_in (c := 5) hk hL (by decide), cL_in (c := 6) hk hL (by decide)⟩
theorem cL_set (hd : 20 ≤ d) (hz : Z.2.1 ≤ mc ∧ Z.2.2 ≤ ms) (hLx : (rk_fz w 5).2.1 = Lx) (hw : cl_W w) (hk : k + 7 ≤ Lx) (hL : Lx ≤ 3584) (hT : T + 40 ≤ 1000000) (C : cm rg I R x m T) (hq : ∀ I' R', cm rg I' R' x m (T + 40) → rk_Wp w l rk_mL_law d mc ms G 1056 [(0, rk_a 105 b), (1, rk_a 11 x), (2, rk_a 12 m), (3, rk_i (nI k))] [] Z I' R') : rk_Wp w l rk_mL_law d mc ms G 160 [(0, rk_a 105 b), (1, rk_a 11 x), (2, rk_a 12 m), (3, rk_i (nI k))] [] Z I R := by
  subst hLx
  obtain ⟨N, n, Hs, F, Sv, P, L, C⟩ := C
  obtain ⟨b0, b1, b2, b3, b4, b5, b6⟩ := cL_ins hk hL
  have C2 := C
  obtain ⟨X, M, V, s⟩ := C2
  refine rk_aload_n 1 dL_law_160 rfl rfl ?_
  refine rk_aload_n 0 dL_law_161 rfl rfl ?_
  refine rk_iload_n 3 dL_law_162 rfl rfl ?_
  refine rk_iconst 1 dL_law_163 (by decide) ?_
  refine rk_iadd dL_law_164 ?_
  refine rk_fald 105 5 (by decide) rfl dL_law_165 (by with_reducible assumption) ?_
  refine rk_pc (pc' := 166) rfl ?_
  refine rk_aload_n 0 dL_law_166 rfl rfl ?_
  refine rk_iload_n 3 dL_law_167 rfl rfl ?_
  refine rk_iconst 2 dL_law_168 (by decide) ?_
  refine rk_iadd dL_law_169 ?_
  refine rk_fald 105 5 (by decide) rfl dL_law_170 (by with_reducible assumption) ?_
  refine rk_cVi (cX10_set_s hw V X _ _) rk_eX10_set rfl ⟨rfl, rfl⟩ rk_kL_13 dL_law_171 rfl (by omega) (Nat.le_of_ble_eq_true rfl) hz (fun xz1 Iz1 Rz1 hz1 => ?_)
  have M1 := M.fr s hz1.2.2
  refine rk_pc (pc' := 174) rfl ?_
  refine rk_aload_n 2 dL_law_174 rfl rfl ?_
  refine rk_aload_n 0 dL_law_175 rfl rfl ?_
  refine rk_iload_n 3 dL_law_176 rfl rfl ?_
  refine rk_iconst 1 dL_law_177 (by decide) ?_
  refine rk_iadd dL_law_178 ?_
  refine rk_fald 105 5 (by decide) rfl dL_law_179 (by with_reducible assumption) ?_
  refine rk_pc (pc' := 180) rfl ?_
  refine rk_aload_n 0 dL_law_180 rfl rfl ?_
  refine rk_iload_n 3 dL_law_181 rfl rfl ?_
  refine rk_iconst 2 dL_law_182 (by decide) ?_
  refine rk_iadd dL_law_183 ?_
  refine rk_fald 105 5 (by decide) rfl dL_law_184 (by with_reducible assumption) ?_
  refine rk_cVi (cX11_set_s M1.2.1 V.2.1 _ _) rk_eX11_set rfl ⟨rfl, rfl⟩ rk_kL_17 dL_law_185 rfl (by omega) (Nat.le_of_ble_eq_true rfl) hz (fun xz2 Iz2 Rz2 hz2 => ?_)
  rw [M1.1] at hz2
  obtain ⟨g1, g2⟩ := cm_act C (sp_ok_set V.1.1 V.1.2 _ _) (fun r M e => sp_iv_T (sp_iv_set V.1.1 e) (by omega)) hz1 hz2
  refine rk_pc (pc' := 188) rfl ?_
  refine rk_icmp_eq 1056 dL_law_188 (by decide) (fun qz188 => ?_) (fun qz188 => ?_)
  · skip
    obtain ⟨N2, n2, H2, F2, S2, P2, L2, g3⟩ := g2
    exact hq _ _ (g3.mo (by omega))
  · skip
    exact absurd g1 qz188
end EU

