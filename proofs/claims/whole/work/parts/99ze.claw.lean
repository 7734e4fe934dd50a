section EU
variable {w : rk_W} {l : Launch} {d mc ms : Nat} {G : List Frame → Array Value → State → State → Prop} {Z : rk_Z} {rg : Nat → Nat} {I : rk_Mm} {R : rk_Rm} {T : Int} {x m b k Lx : Nat}
abbrev rk_mL_law : rk_M := (yL_law, cL_law, 4, some .boolean)
theorem cL_in {k c Lx : Nat} (hk : k + 7 ≤ Lx) (hL : Lx ≤ 3584) (hc : c < 7) : vp_in (nI k + nI c) Lx := by
  rw [nI_add]
  exact vp_in_nI (by omega) (by omega)
theorem cL_ins {k Lx : Nat} (hk : k + 7 ≤ Lx) (hL : Lx ≤ 3584) : vp_in (nI k) Lx ∧ vp_in (nI k + 1) Lx ∧ vp_in (nI k + 2) Lx ∧ vp_in (nI k + 3) Lx ∧ vp_in (nI k + 4) Lx ∧ vp_in (nI k + 5) Lx ∧ vp_in (nI k + 6) Lx := ⟨vp_in_nI (by omega) (by omega), cL_in (c := 1) hk hL (by decide), cL_in (c := 2) hk hL (by decide), cL_in (c := 3) hk hL (by decide), cL_in (c := 4) hk hL (by decide), cL_in (c := 5) hk hL (by decide), cL_in (c := 6) hk hL (by decide)⟩
theorem cL_set (hd : 20 ≤ d) (hz : Z.2.1 ≤ mc ∧ Z.2.2 ≤ ms) (hLx : (rk_fz w 5).2.1 = Lx) (hw : cl_W w) (hk : k + 7 ≤ Lx) (hL : Lx ≤ 3584) (hT : T + 40 ≤ 1000000) (C : cm rg I R x m T) (hq : ∀ I' R', cm rg I' R' x m (T + 40) → rk_Wp w l rk_mL_law d mc ms G 1056 [(0, rk_a 105 b), (1, rk_a 11 x), (2, rk_a 12 m), (3, rk_i (nI k))] [] Z I' R') : rk_Wp w l rk_mL_law d mc ms G 160 [(0, rk_a 105 b), (1, rk_a 11 x), (2, rk_a 12 m), (3, rk_i (nI k))] [] Z I R := by
  subst hLx
  have hTj : T ≤ 1000000 := by omega
  obtain ⟨N, n, Hs, F, Sv, P, L, C⟩ := C
  obtain ⟨b0, b1, b2, b3, b4, b5, b6⟩ := cL_ins hk hL
  have C2 := C
  obtain ⟨X, M, V, s⟩ := C2
  have V0 := V.1.1
  obtain ⟨⟨c, hp⟩, ⟨oc, hoc, h13, hb⟩, ⟨t, ht, h10⟩, hr⟩ := V0
  have h8 : 1 ≤ N 8 := Int32.le_trans (by decide) (hr.1 8 (by decide)).1
  have hfl : ∀ o, o < oc → sp_ov N o ∧ ∃ n, n < 2 ^ 20 ∧ N (220 + 7 * o + 3) = nI n := fun o ho => by
    obtain ⟨g1, ⟨n, _, g2, g3⟩, _⟩ := hb o ho
    exact ⟨g1, n, by omega, g3⟩
  have hdu : ∀ o, o < oc → ∃ du, du < 2 ^ 20 ∧ N (220 + 7 * o + 5) = nI du := fun o ho => by
    obtain ⟨_, _, du, g2, g3⟩ := hb o ho
    exact ⟨du, by omega, g3⟩
  refine rk_aload_n 1 dL_law_160 rfl rfl ?_
  refine rk_aload_n 0 dL_law_161 rfl rfl ?_
  refine rk_iload_n 3 dL_law_162 rfl rfl ?_
  refine rk_iconst 1 dL_law_163 (by decide) ?_
  refine rk_iadd dL_law_164 ?_
  refine rk_fald 105 5 (by decide) rfl dL_law_165 (by with_reducible assumption) ?_
  refine rk_pc (pc' := 166) rfl ?_
  refine rk_aload_n 0 dL_law_166 rfl rfl ?_
  refine rk_iload_n 3 dL_law_167 rfl rfl ?_
  refine rk_iconst 2 dL_law_168 (by decide) ?_
  refine rk_iadd dL_law_169 ?_
  refine rk_fald 105 5 (by decide) rfl dL_law_170 (by with_reducible assumption) ?_
  refine rk_cVi (cX10_set_s hw V X _ _) rk_eX10_set rfl ⟨rfl, rfl⟩ rk_kL_13 dL_law_171 rfl (by omega) (Nat.le_of_ble_eq_true rfl) hz (fun xz1 Iz1 Rz1 hz1 => ?_)
  have M1 := M.fr s hz1.2.2
  refine rk_pc (pc' := 174) rfl ?_
  refine rk_aload_n 2 dL_law_174 rfl rfl ?_
  refine rk_aload_n 0 dL_law_175 rfl rfl ?_
  refine rk_iload_n 3 dL_law_176 rfl rfl ?_
  refine rk_iconst 1 dL_law_177 (by decide) ?_
  refine rk_iadd dL_law_178 ?_
  refine rk_fald 105 5 (by decide) rfl dL_law_179 (by with_reducible assumption) ?_
  refine rk_pc (pc' := 180) rfl ?_
  refine rk_aload_n 0 dL_law_180 rfl rfl ?_
  refine rk_iload_n 3 dL_law_181 rfl rfl ?_
  refine rk_iconst 2 dL_law_182 (by decide) ?_
  refine rk_iadd dL_law_183 ?_
  refine rk_fald 105 5 (by decide) rfl dL_law_184 (by with_reducible assumption) ?_
  refine rk_cVi (cX11_set_s M1.2.1 V.2.1 _ _) rk_eX11_set rfl ⟨rfl, rfl⟩ rk_kL_17 dL_law_185 rfl (by omega) (Nat.le_of_ble_eq_true rfl) hz (fun xz2 Iz2 Rz2 hz2 => ?_)
  rw [M1.1] at hz2
  obtain ⟨g1, g2⟩ := cm_act C (sp_ok_set V.1.1 V.1.2 _ _) (fun r M e => sp_iv_T (sp_iv_set V.1.1 e) (by omega)) hz1 hz2
  refine rk_pc (pc' := 188) rfl ?_
  refine rk_icmp_eq 1056 dL_law_188 (by decide) (fun qz188 => ?_) (fun qz188 => ?_)
  · skip
    obtain ⟨N2, n2, H2, F2, S2, P2, L2, g3⟩ := g2
    exact hq _ _ (g3.mo (by omega))
  · skip
    exact absurd g1 qz188
theorem cL_fibre (hd : 20 ≤ d) (hz : Z.2.1 ≤ mc ∧ Z.2.2 ≤ ms) (hLx : (rk_fz w 5).2.1 = Lx) (hw : cl_W w) (hk : k + 7 ≤ Lx) (hL : Lx ≤ 3584) (hT : T + 40 ≤ 1000000) (C : cm rg I R x m T) (hq : ∀ I' R', cm rg I' R' x m (T + 40) → rk_Wp w l rk_mL_law d mc ms G 1056 [(0, rk_a 105 b), (1, rk_a 11 x), (2, rk_a 12 m), (3, rk_i (nI k))] [] Z I' R') : rk_Wp w l rk_mL_law d mc ms G 193 [(0, rk_a 105 b), (1, rk_a 11 x), (2, rk_a 12 m), (3, rk_i (nI k))] [] Z I R := by
  subst hLx
  have hTj : T ≤ 1000000 := by omega
  obtain ⟨N, n, Hs, F, Sv, P, L, C⟩ := C
  obtain ⟨b0, b1, b2, b3, b4, b5, b6⟩ := cL_ins hk hL
  have C2 := C
  obtain ⟨X, M, V, s⟩ := C2
  have V0 := V.1.1
  obtain ⟨⟨c, hp⟩, ⟨oc, hoc, h13, hb⟩, ⟨t, ht, h10⟩, hr⟩ := V0
  have h8 : 1 ≤ N 8 := Int32.le_trans (by decide) (hr.1 8 (by decide)).1
  have hfl : ∀ o, o < oc → sp_ov N o ∧ ∃ n, n < 2 ^ 20 ∧ N (220 + 7 * o + 3) = nI n := fun o ho => by
    obtain ⟨g1, ⟨n, _, g2, g3⟩, _⟩ := hb o ho
    exact ⟨g1, n, by omega, g3⟩
  have hdu : ∀ o, o < oc → ∃ du, du < 2 ^ 20 ∧ N (220 + 7 * o + 5) = nI du := fun o ho => by
    obtain ⟨_, _, du, g2, g3⟩ := hb o ho
    exact ⟨du, by omega, g3⟩
  refine rk_aload_n 1 dL_law_193 rfl rfl ?_
  refine rk_aload_n 0 dL_law_194 rfl rfl ?_
  refine rk_iload_n 3 dL_law_195 rfl rfl ?_
  refine rk_iconst 1 dL_law_196 (by decide) ?_
  refine rk_iadd dL_law_197 ?_
  refine rk_fald 105 5 (by decide) rfl dL_law_198 (by with_reducible assumption) ?_
  refine rk_pc (pc' := 199) rfl ?_
  refine rk_aload_n 0 dL_law_199 rfl rfl ?_
  refine rk_iload_n 3 dL_law_200 rfl rfl ?_
  refine rk_iconst 2 dL_law_201 (by decide) ?_
  refine rk_iadd dL_law_202 ?_
  refine rk_fald 105 5 (by decide) rfl dL_law_203 (by with_reducible assumption) ?_
  refine rk_aload_n 0 dL_law_204 rfl rfl ?_
  refine rk_pc (pc' := 205) rfl ?_
  refine rk_iload_n 3 dL_law_205 rfl rfl ?_
  refine rk_iconst 3 dL_law_206 (by decide) ?_
  refine rk_iadd dL_law_207 ?_
  refine rk_fald 105 5 (by decide) rfl dL_law_208 (by with_reducible assumption) ?_
  refine rk_cVi (cX10_fibre_s V X _ _ _) rk_eX10_fibre rfl ⟨rfl, rfl⟩ rk_kL_18 dL_law_209 rfl (by omega) (Nat.le_of_ble_eq_true rfl) hz (fun xz1 Iz1 Rz1 hz1 => ?_)
  have M1 := M.fr s hz1.2.2
  refine rk_aload_n 2 dL_law_212 rfl rfl ?_
  refine rk_pc (pc' := 213) rfl ?_
  refine rk_aload_n 0 dL_law_213 rfl rfl ?_
  refine rk_iload_n 3 dL_law_214 rfl rfl ?_
  refine rk_iconst 1 dL_law_215 (by decide) ?_
  refine rk_iadd dL_law_216 ?_
  refine rk_fald 105 5 (by decide) rfl dL_law_217 (by with_reducible assumption) ?_
  refine rk_aload_n 0 dL_law_218 rfl rfl ?_
  refine rk_pc (pc' := 219) rfl ?_
  refine rk_iload_n 3 dL_law_219 rfl rfl ?_
  refine rk_iconst 2 dL_law_220 (by decide) ?_
  refine rk_iadd dL_law_221 ?_
  refine rk_fald 105 5 (by decide) rfl dL_law_222 (by with_reducible assumption) ?_
  refine rk_aload_n 0 dL_law_223 rfl rfl ?_
  refine rk_iload_n 3 dL_law_224 rfl rfl ?_
  refine rk_pc (pc' := 225) rfl ?_
  refine rk_iconst 3 dL_law_225 (by decide) ?_
  refine rk_iadd dL_law_226 ?_
  refine rk_fald 105 5 (by decide) rfl dL_law_227 (by with_reducible assumption) ?_
  refine rk_cVi (cX11_fibre_s M1.2.1 V.2.1 _ _ _) rk_eX11_fibre rfl ⟨rfl, rfl⟩ rk_kL_22 dL_law_228 rfl (by omega) (Nat.le_of_ble_eq_true rfl) hz (fun xz2 Iz2 Rz2 hz2 => ?_)
  rw [M1.1] at hz2
  obtain ⟨g1, g2⟩ := cm_act C (sp_ok_fibre V.1.1 V.1.2 _ _ _) (fun r M e => sp_iv_T (sp_iv_fibre V.1.1 e) (by omega)) hz1 hz2
  refine rk_icmp_eq 1056 dL_law_231 (by decide) (fun qz231 => ?_) (fun qz231 => ?_)
  · skip
    obtain ⟨N2, n2, H2, F2, S2, P2, L2, g3⟩ := g2
    exact hq _ _ (g3.mo (by omega))
  · skip
    exact absurd g1 qz231
theorem cL_spin (hd : 20 ≤ d) (hz : Z.2.1 ≤ mc ∧ Z.2.2 ≤ ms) (hLx : (rk_fz w 5).2.1 = Lx) (hw : cl_W w) (hk : k + 7 ≤ Lx) (hL : Lx ≤ 3584) (hT : T + 40 ≤ 1000000) (C : cm rg I R x m T) (hq : ∀ I' R', cm rg I' R' x m (T + 40) → rk_Wp w l rk_mL_law d mc ms G 1056 [(0, rk_a 105 b), (1, rk_a 11 x), (2, rk_a 12 m), (3, rk_i (nI k))] [] Z I' R') : rk_Wp w l rk_mL_law d mc ms G 236 [(0, rk_a 105 b), (1, rk_a 11 x), (2, rk_a 12 m), (3, rk_i (nI k))] [] Z I R := by
  subst hLx
  have hTj : T ≤ 1000000 := by omega
  obtain ⟨N, n, Hs, F, Sv, P, L, C⟩ := C
  obtain ⟨b0, b1, b2, b3, b4, b5, b6⟩ := cL_ins hk hL
  have C2 := C
  obtain ⟨X, M, V, s⟩ := C2
  have V0 := V.1.1
  obtain ⟨⟨c, hp⟩, ⟨oc, hoc, h13, hb⟩, ⟨t, ht, h10⟩, hr⟩ := V0
  have h8 : 1 ≤ N 8 := Int32.le_trans (by decide) (hr.1 8 (by decide)).1
  have hfl : ∀ o, o < oc → sp_ov N o ∧ ∃ n, n < 2 ^ 20 ∧ N (220 + 7 * o + 3) = nI n := fun o ho => by
    obtain ⟨g1, ⟨n, _, g2, g3⟩, _⟩ := hb o ho
    exact ⟨g1, n, by omega, g3⟩
  have hdu : ∀ o, o < oc → ∃ du, du < 2 ^ 20 ∧ N (220 + 7 * o + 5) = nI du := fun o ho => by
    obtain ⟨_, _, du, g2, g3⟩ := hb o ho
    exact ⟨du, by omega, g3⟩
  refine rk_aload_n 1 dL_law_236 rfl rfl ?_
  refine rk_aload_n 0 dL_law_237 rfl rfl ?_
  refine rk_iload_n 3 dL_law_238 rfl rfl ?_
  refine rk_iconst 1 dL_law_239 (by decide) ?_
  refine rk_iadd dL_law_240 ?_
  refine rk_fald 105 5 (by decide) rfl dL_law_241 (by with_reducible assumption) ?_
  refine rk_pc (pc' := 242) rfl ?_
  refine rk_aload_n 0 dL_law_242 rfl rfl ?_
  refine rk_iload_n 3 dL_law_243 rfl rfl ?_
  refine rk_iconst 2 dL_law_244 (by decide) ?_
  refine rk_iadd dL_law_245 ?_
  refine rk_fald 105 5 (by decide) rfl dL_law_246 (by with_reducible assumption) ?_
  refine rk_cVi (cX10_spin_s V X _ _) rk_eX10_spin rfl ⟨rfl, rfl⟩ rk_kL_23 dL_law_247 rfl (by omega) (Nat.le_of_ble_eq_true rfl) hz (fun xz1 Iz1 Rz1 hz1 => ?_)
  have M1 := M.fr s hz1.2.2
  refine rk_pc (pc' := 250) rfl ?_
  refine rk_aload_n 2 dL_law_250 rfl rfl ?_
  refine rk_aload_n 0 dL_law_251 rfl rfl ?_
  refine rk_iload_n 3 dL_law_252 rfl rfl ?_
  refine rk_iconst 1 dL_law_253 (by decide) ?_
  refine rk_iadd dL_law_254 ?_
  refine rk_fald 105 5 (by decide) rfl dL_law_255 (by with_reducible assumption) ?_
  refine rk_pc (pc' := 256) rfl ?_
  refine rk_aload_n 0 dL_law_256 rfl rfl ?_
  refine rk_iload_n 3 dL_law_257 rfl rfl ?_
  refine rk_iconst 2 dL_law_258 (by decide) ?_
  refine rk_iadd dL_law_259 ?_
  refine rk_fald 105 5 (by decide) rfl dL_law_260 (by with_reducible assumption) ?_
  refine rk_cVi (cX11_spin_s M1.2.1 V.2.1 _ _) rk_eX11_spin rfl ⟨rfl, rfl⟩ rk_kL_26 dL_law_261 rfl (by omega) (Nat.le_of_ble_eq_true rfl) hz (fun xz2 Iz2 Rz2 hz2 => ?_)
  rw [M1.1] at hz2
  obtain ⟨g1, g2⟩ := cm_act C (sp_ok_spin V.1.1 V.1.2 _ _) (fun r M e => sp_iv_T (sp_iv_spin V.1.1 e) (by omega)) hz1 hz2
  refine rk_pc (pc' := 264) rfl ?_
  refine rk_icmp_eq 1056 dL_law_264 (by decide) (fun qz264 => ?_) (fun qz264 => ?_)
  · skip
    obtain ⟨N2, n2, H2, F2, S2, P2, L2, g3⟩ := g2
    exact hq _ _ (g3.mo (by omega))
  · skip
    exact absurd g1 qz264
theorem cL_lay (hd : 20 ≤ d) (hz : Z.2.1 ≤ mc ∧ Z.2.2 ≤ ms) (hLx : (rk_fz w 5).2.1 = Lx) (hw : cl_W w) (hk : k + 7 ≤ Lx) (hL : Lx ≤ 3584) (hT : T + 40 ≤ 1000000) (C : cm rg I R x m T) (hq : ∀ I' R', cm rg I' R' x m (T + 40) → rk_Wp w l rk_mL_law d mc ms G 1056 [(0, rk_a 105 b), (1, rk_a 11 x), (2, rk_a 12 m), (3, rk_i (nI k))] [] Z I' R') : rk_Wp w l rk_mL_law d mc ms G 269 [(0, rk_a 105 b), (1, rk_a 11 x), (2, rk_a 12 m), (3, rk_i (nI k))] [] Z I R := by
  subst hLx
  have hTj : T ≤ 1000000 := by omega
  obtain ⟨N, n, Hs, F, Sv, P, L, C⟩ := C
  obtain ⟨b0, b1, b2, b3, b4, b5, b6⟩ := cL_ins hk hL
  have C2 := C
  obtain ⟨X, M, V, s⟩ := C2
  have V0 := V.1.1
  obtain ⟨⟨c, hp⟩, ⟨oc, hoc, h13, hb⟩, ⟨t, ht, h10⟩, hr⟩ := V0
  have h8 : 1 ≤ N 8 := Int32.le_trans (by decide) (hr.1 8 (by decide)).1
  have hfl : ∀ o, o < oc → sp_ov N o ∧ ∃ n, n < 2 ^ 20 ∧ N (220 + 7 * o + 3) = nI n := fun o ho => by
    obtain ⟨g1, ⟨n, _, g2, g3⟩, _⟩ := hb o ho
    exact ⟨g1, n, by omega, g3⟩
  have hdu : ∀ o, o < oc → ∃ du, du < 2 ^ 20 ∧ N (220 + 7 * o + 5) = nI du := fun o ho => by
    obtain ⟨_, _, du, g2, g3⟩ := hb o ho
    exact ⟨du, by omega, g3⟩
  refine rk_aload_n 1 dL_law_269 rfl rfl ?_
  refine rk_aload_n 0 dL_law_270 rfl rfl ?_
  refine rk_iload_n 3 dL_law_271 rfl rfl ?_
  refine rk_iconst 1 dL_law_272 (by decide) ?_
  refine rk_iadd dL_law_273 ?_
  refine rk_fald 105 5 (by decide) rfl dL_law_274 (by with_reducible assumption) ?_
  refine rk_pc (pc' := 275) rfl ?_
  refine rk_aload_n 0 dL_law_275 rfl rfl ?_
  refine rk_iload_n 3 dL_law_276 rfl rfl ?_
  refine rk_iconst 2 dL_law_277 (by decide) ?_
  refine rk_iadd dL_law_278 ?_
  refine rk_fald 105 5 (by decide) rfl dL_law_279 (by with_reducible assumption) ?_
  refine rk_aload_n 0 dL_law_280 rfl rfl ?_
  refine rk_pc (pc' := 281) rfl ?_
  refine rk_iload_n 3 dL_law_281 rfl rfl ?_
  refine rk_iconst 3 dL_law_282 (by decide) ?_
  refine rk_iadd dL_law_283 ?_
  refine rk_fald 105 5 (by decide) rfl dL_law_284 (by with_reducible assumption) ?_
  refine rk_aload_n 0 dL_law_285 rfl rfl ?_
  refine rk_iload_n 3 dL_law_286 rfl rfl ?_
  refine rk_pc (pc' := 287) rfl ?_
  refine rk_iconst 4 dL_law_287 (by decide) ?_
  refine rk_iadd dL_law_288 ?_
  refine rk_fald 105 5 (by decide) rfl dL_law_289 (by with_reducible assumption) ?_
  refine rk_cVi (cX10_lay_s V X _ _ _ _) rk_eX10_lay rfl ⟨rfl, rfl⟩ rk_kL_27 dL_law_290 rfl (by omega) (Nat.le_of_ble_eq_true rfl) hz (fun xz1 Iz1 Rz1 hz1 => ?_)
  have M1 := M.fr s hz1.2.2
  refine rk_aload_n 2 dL_law_293 rfl rfl ?_
  refine rk_aload_n 0 dL_law_294 rfl rfl ?_
  refine rk_pc (pc' := 295) rfl ?_
  refine rk_iload_n 3 dL_law_295 rfl rfl ?_
  refine rk_iconst 1 dL_law_296 (by decide) ?_
  refine rk_iadd dL_law_297 ?_
  refine rk_fald 105 5 (by decide) rfl dL_law_298 (by with_reducible assumption) ?_
  refine rk_aload_n 0 dL_law_299 rfl rfl ?_
  refine rk_iload_n 3 dL_law_300 rfl rfl ?_
  refine rk_pc (pc' := 301) rfl ?_
  refine rk_iconst 2 dL_law_301 (by decide) ?_
  refine rk_iadd dL_law_302 ?_
  refine rk_fald 105 5 (by decide) rfl dL_law_303 (by with_reducible assumption) ?_
  refine rk_aload_n 0 dL_law_304 rfl rfl ?_
  refine rk_iload_n 3 dL_law_305 rfl rfl ?_
  refine rk_iconst 3 dL_law_306 (by decide) ?_
  refine rk_pc (pc' := 307) rfl ?_
  refine rk_iadd dL_law_307 ?_
  refine rk_fald 105 5 (by decide) rfl dL_law_308 (by with_reducible assumption) ?_
  refine rk_aload_n 0 dL_law_309 rfl rfl ?_
  refine rk_iload_n 3 dL_law_310 rfl rfl ?_
  refine rk_iconst 4 dL_law_311 (by decide) ?_
  refine rk_iadd dL_law_312 ?_
  refine rk_pc (pc' := 313) rfl ?_
  refine rk_fald 105 5 (by decide) rfl dL_law_313 (by with_reducible assumption) ?_
  refine rk_cVi (cX11_lay_s M1.2.1 V.2.1 (by rw [M1.1]; exact hp.2.1) hp.1 (by rw [M1.1]; exact h8) _ _ _ _) rk_eX11_lay rfl ⟨rfl, rfl⟩ rk_kL_31 dL_law_314 rfl (by omega) (Nat.le_of_ble_eq_true rfl) hz (fun xz2 Iz2 Rz2 hz2 => ?_)
  rw [M1.1] at hz2
  obtain ⟨g1, g2⟩ := cm_act C (sp_ok_lay V.1.1 V.1.2 _ _ _ _) (fun r M e => sp_iv_lay V.1.1 e) hz1 hz2
  refine rk_icmp_eq 1056 dL_law_317 (by decide) (fun qz317 => ?_) (fun qz317 => ?_)
  · skip
    obtain ⟨N2, n2, H2, F2, S2, P2, L2, g3⟩ := g2
    exact hq _ _ (g3.mo (by omega))
  · skip
    exact absurd g1 qz317
theorem cL_join (hd : 20 ≤ d) (hz : Z.2.1 ≤ mc ∧ Z.2.2 ≤ ms) (hLx : (rk_fz w 5).2.1 = Lx) (hw : cl_W w) (hk : k + 7 ≤ Lx) (hL : Lx ≤ 3584) (hT : T + 40 ≤ 1000000) (C : cm rg I R x m T) (hq : ∀ I' R', cm rg I' R' x m (T + 40) → rk_Wp w l rk_mL_law d mc ms G 1056 [(0, rk_a 105 b), (1, rk_a 11 x), (2, rk_a 12 m), (3, rk_i (nI k))] [] Z I' R') : rk_Wp w l rk_mL_law d mc ms G 322 [(0, rk_a 105 b), (1, rk_a 11 x), (2, rk_a 12 m), (3, rk_i (nI k))] [] Z I R := by
  subst hLx
  have hTj : T ≤ 1000000 := by omega
  obtain ⟨N, n, Hs, F, Sv, P, L, C⟩ := C
  obtain ⟨b0, b1, b2, b3, b4, b5, b6⟩ := cL_ins hk hL
  have C2 := C
  obtain ⟨X, M, V, s⟩ := C2
  have V0 := V.1.1
  obtain ⟨⟨c, hp⟩, ⟨oc, hoc, h13, hb⟩, ⟨t, ht, h10⟩, hr⟩ := V0
  have h8 : 1 ≤ N 8 := Int32.le_trans (by decide) (hr.1 8 (by decide)).1
  have hfl : ∀ o, o < oc → sp_ov N o ∧ ∃ n, n < 2 ^ 20 ∧ N (220 + 7 * o + 3) = nI n := fun o ho => by
    obtain ⟨g1, ⟨n, _, g2, g3⟩, _⟩ := hb o ho
    exact ⟨g1, n, by omega, g3⟩
  have hdu : ∀ o, o < oc → ∃ du, du < 2 ^ 20 ∧ N (220 + 7 * o + 5) = nI du := fun o ho => by
    obtain ⟨_, _, du, g2, g3⟩ := hb o ho
    exact ⟨du, by omega, g3⟩
  refine rk_aload_n 1 dL_law_322 rfl rfl ?_
  refine rk_aload_n 0 dL_law_323 rfl rfl ?_
  refine rk_iload_n 3 dL_law_324 rfl rfl ?_
  refine rk_iconst 1 dL_law_325 (by decide) ?_
  refine rk_iadd dL_law_326 ?_
  refine rk_fald 105 5 (by decide) rfl dL_law_327 (by with_reducible assumption) ?_
  refine rk_pc (pc' := 328) rfl ?_
  refine rk_aload_n 0 dL_law_328 rfl rfl ?_
  refine rk_iload_n 3 dL_law_329 rfl rfl ?_
  refine rk_iconst 2 dL_law_330 (by decide) ?_
  refine rk_iadd dL_law_331 ?_
  refine rk_fald 105 5 (by decide) rfl dL_law_332 (by with_reducible assumption) ?_
  refine rk_cVi (cX10_join_s hTj V X _ _) rk_eX10_join rfl ⟨rfl, rfl⟩ rk_kL_32 dL_law_333 rfl (by omega) (Nat.le_of_ble_eq_true rfl) hz (fun xz1 Iz1 Rz1 hz1 => ?_)
  have M1 := M.fr s hz1.2.2
  refine rk_pc (pc' := 336) rfl ?_
  refine rk_aload_n 2 dL_law_336 rfl rfl ?_
  refine rk_aload_n 0 dL_law_337 rfl rfl ?_
  refine rk_iload_n 3 dL_law_338 rfl rfl ?_
  refine rk_iconst 1 dL_law_339 (by decide) ?_
  refine rk_iadd dL_law_340 ?_
  refine rk_fald 105 5 (by decide) rfl dL_law_341 (by with_reducible assumption) ?_
  refine rk_pc (pc' := 342) rfl ?_
  refine rk_aload_n 0 dL_law_342 rfl rfl ?_
  refine rk_iload_n 3 dL_law_343 rfl rfl ?_
  refine rk_iconst 2 dL_law_344 (by decide) ?_
  refine rk_iadd dL_law_345 ?_
  refine rk_fald 105 5 (by decide) rfl dL_law_346 (by with_reducible assumption) ?_
  refine rk_cVi (cX11_join_s M1.2.1 V.2.1 (by rw [M1.1]; exact hp.2.1) hp.1 _ _) rk_eX11_join rfl ⟨rfl, rfl⟩ rk_kL_35 dL_law_347 rfl (by omega) (Nat.le_of_ble_eq_true rfl) hz (fun xz2 Iz2 Rz2 hz2 => ?_)
  rw [M1.1] at hz2
  obtain ⟨g1, g2⟩ := cm_act C (sp_ok_join V.1.1 V.1.2 _ _) (fun r M e => sp_iv_T (sp_iv_join hTj V.1.1 e) (by omega)) hz1 hz2
  refine rk_pc (pc' := 350) rfl ?_
  refine rk_icmp_eq 1056 dL_law_350 (by decide) (fun qz350 => ?_) (fun qz350 => ?_)
  · skip
    obtain ⟨N2, n2, H2, F2, S2, P2, L2, g3⟩ := g2
    exact hq _ _ (g3.mo (by omega))
  · skip
    exact absurd g1 qz350
theorem cL_test (hd : 20 ≤ d) (hz : Z.2.1 ≤ mc ∧ Z.2.2 ≤ ms) (hLx : (rk_fz w 5).2.1 = Lx) (hw : cl_W w) (hk : k + 7 ≤ Lx) (hL : Lx ≤ 3584) (hT : T + 40 ≤ 1000000) (C : cm rg I R x m T) (hq : ∀ I' R', cm rg I' R' x m (T + 40) → rk_Wp w l rk_mL_law d mc ms G 1056 [(0, rk_a 105 b), (1, rk_a 11 x), (2, rk_a 12 m), (3, rk_i (nI k))] [] Z I' R') : rk_Wp w l rk_mL_law d mc ms G 355 [(0, rk_a 105 b), (1, rk_a 11 x), (2, rk_a 12 m), (3, rk_i (nI k))] [] Z I R := by
  subst hLx
  have hTj : T ≤ 1000000 := by omega
  obtain ⟨N, n, Hs, F, Sv, P, L, C⟩ := C
  obtain ⟨b0, b1, b2, b3, b4, b5, b6⟩ := cL_ins hk hL
  have C2 := C
  obtain ⟨X, M, V, s⟩ := C2
  have V0 := V.1.1
  obtain ⟨⟨c, hp⟩, ⟨oc, hoc, h13, hb⟩, ⟨t, ht, h10⟩, hr⟩ := V0
  have h8 : 1 ≤ N 8 := Int32.le_trans (by decide) (hr.1 8 (by decide)).1
  have hfl : ∀ o, o < oc → sp_ov N o ∧ ∃ n, n < 2 ^ 20 ∧ N (220 + 7 * o + 3) = nI n := fun o ho => by
    obtain ⟨g1, ⟨n, _, g2, g3⟩, _⟩ := hb o ho
    exact ⟨g1, n, by omega, g3⟩
  have hdu : ∀ o, o < oc → ∃ du, du < 2 ^ 20 ∧ N (220 + 7 * o + 5) = nI du := fun o ho => by
    obtain ⟨_, _, du, g2, g3⟩ := hb o ho
    exact ⟨du, by omega, g3⟩
  refine rk_aload_n 1 dL_law_355 rfl rfl ?_
  refine rk_aload_n 0 dL_law_356 rfl rfl ?_
  refine rk_iload_n 3 dL_law_357 rfl rfl ?_
  refine rk_iconst 1 dL_law_358 (by decide) ?_
  refine rk_iadd dL_law_359 ?_
  refine rk_fald 105 5 (by decide) rfl dL_law_360 (by with_reducible assumption) ?_
  refine rk_pc (pc' := 361) rfl ?_
  refine rk_cVi (cX10_test_s V X _) rk_eX10_test rfl ⟨rfl, rfl⟩ rk_kL_36 dL_law_361 rfl (by omega) (Nat.le_of_ble_eq_true rfl) hz (fun xz1 Iz1 Rz1 hz1 => ?_)
  have M1 := M.fr s hz1.2.2
  refine rk_aload_n 2 dL_law_364 rfl rfl ?_
  refine rk_aload_n 0 dL_law_365 rfl rfl ?_
  refine rk_iload_n 3 dL_law_366 rfl rfl ?_
  refine rk_iconst 1 dL_law_367 (by decide) ?_
  refine rk_iadd dL_law_368 ?_
  refine rk_pc (pc' := 369) rfl ?_
  refine rk_fald 105 5 (by decide) rfl dL_law_369 (by with_reducible assumption) ?_
  refine rk_cVi (cX11_test_s M1.2.1 V.2.1 (by rw [M1.1]; exact hp) _) rk_eX11_test rfl ⟨rfl, rfl⟩ rk_kL_40 dL_law_370 rfl (by omega) (Nat.le_of_ble_eq_true rfl) hz (fun xz2 Iz2 Rz2 hz2 => ?_)
  rw [M1.1] at hz2
  obtain ⟨g1, g2⟩ := cm_act C (sp_ok_test V.1.1 V.1.2 _) (fun r M e => sp_iv_T (sp_iv_test V.1.1 e) (by omega)) hz1 hz2
  refine rk_icmp_eq 1056 dL_law_373 (by decide) (fun qz373 => ?_) (fun qz373 => ?_)
  · skip
    obtain ⟨N2, n2, H2, F2, S2, P2, L2, g3⟩ := g2
    exact hq _ _ (g3.mo (by omega))
  · skip
    exact absurd g1 qz373
theorem cL_order (hd : 20 ≤ d) (hz : Z.2.1 ≤ mc ∧ Z.2.2 ≤ ms) (hLx : (rk_fz w 5).2.1 = Lx) (hw : cl_W w) (hk : k + 7 ≤ Lx) (hL : Lx ≤ 3584) (hT : T + 40 ≤ 1000000) (C : cm rg I R x m T) (hq : ∀ I' R', cm rg I' R' x m (T + 40) → rk_Wp w l rk_mL_law d mc ms G 1056 [(0, rk_a 105 b), (1, rk_a 11 x), (2, rk_a 12 m), (3, rk_i (nI k))] [] Z I' R') : rk_Wp w l rk_mL_law d mc ms G 378 [(0, rk_a 105 b), (1, rk_a 11 x), (2, rk_a 12 m), (3, rk_i (nI k))] [] Z I R := by
  subst hLx
  have hTj : T ≤ 1000000 := by omega
  obtain ⟨N, n, Hs, F, Sv, P, L, C⟩ := C
  obtain ⟨b0, b1, b2, b3, b4, b5, b6⟩ := cL_ins hk hL
  have C2 := C
  obtain ⟨X, M, V, s⟩ := C2
  have V0 := V.1.1
  obtain ⟨⟨c, hp⟩, ⟨oc, hoc, h13, hb⟩, ⟨t, ht, h10⟩, hr⟩ := V0
  have h8 : 1 ≤ N 8 := Int32.le_trans (by decide) (hr.1 8 (by decide)).1
  have hfl : ∀ o, o < oc → sp_ov N o ∧ ∃ n, n < 2 ^ 20 ∧ N (220 + 7 * o + 3) = nI n := fun o ho => by
    obtain ⟨g1, ⟨n, _, g2, g3⟩, _⟩ := hb o ho
    exact ⟨g1, n, by omega, g3⟩
  have hdu : ∀ o, o < oc → ∃ du, du < 2 ^ 20 ∧ N (220 + 7 * o + 5) = nI du := fun o ho => by
    obtain ⟨_, _, du, g2, g3⟩ := hb o ho
    exact ⟨du, by omega, g3⟩
  refine rk_aload_n 1 dL_law_378 rfl rfl ?_
  refine rk_aload_n 0 dL_law_379 rfl rfl ?_
  refine rk_iload_n 3 dL_law_380 rfl rfl ?_
  refine rk_iconst 1 dL_law_381 (by decide) ?_
  refine rk_iadd dL_law_382 ?_
  refine rk_fald 105 5 (by decide) rfl dL_law_383 (by with_reducible assumption) ?_
  refine rk_pc (pc' := 384) rfl ?_
  refine rk_aload_n 0 dL_law_384 rfl rfl ?_
  refine rk_iload_n 3 dL_law_385 rfl rfl ?_
  refine rk_iconst 2 dL_law_386 (by decide) ?_
  refine rk_iadd dL_law_387 ?_
  refine rk_fald 105 5 (by decide) rfl dL_law_388 (by with_reducible assumption) ?_
  refine rk_aload_n 0 dL_law_389 rfl rfl ?_
  refine rk_pc (pc' := 390) rfl ?_
  refine rk_iload_n 3 dL_law_390 rfl rfl ?_
  refine rk_iconst 3 dL_law_391 (by decide) ?_
  refine rk_iadd dL_law_392 ?_
  refine rk_fald 105 5 (by decide) rfl dL_law_393 (by with_reducible assumption) ?_
  refine rk_aload_n 0 dL_law_394 rfl rfl ?_
  refine rk_iload_n 3 dL_law_395 rfl rfl ?_
  refine rk_pc (pc' := 396) rfl ?_
  refine rk_iconst 4 dL_law_396 (by decide) ?_
  refine rk_iadd dL_law_397 ?_
  refine rk_fald 105 5 (by decide) rfl dL_law_398 (by with_reducible assumption) ?_
  refine rk_aload_n 0 dL_law_399 rfl rfl ?_
  refine rk_iload_n 3 dL_law_400 rfl rfl ?_
  refine rk_iconst 5 dL_law_401 (by decide) ?_
  refine rk_pc (pc' := 402) rfl ?_
  refine rk_iadd dL_law_402 ?_
  refine rk_fald 105 5 (by decide) rfl dL_law_403 (by with_reducible assumption) ?_
  refine rk_aload_n 0 dL_law_404 rfl rfl ?_
  refine rk_iload_n 3 dL_law_405 rfl rfl ?_
  refine rk_bipush 6 dL_law_406 (by decide) ?_
  refine rk_iadd dL_law_408 ?_
  refine rk_pc (pc' := 409) rfl ?_
  refine rk_fald 105 5 (by decide) rfl dL_law_409 (by with_reducible assumption) ?_
  refine rk_cVi (cX10_order_s V X _ _ _ _ _ _) rk_eX10_order rfl ⟨rfl, rfl⟩ rk_kL_41 dL_law_410 rfl (by omega) (Nat.le_of_ble_eq_true rfl) hz (fun xz1 Iz1 Rz1 hz1 => ?_)
  have M1 := M.fr s hz1.2.2
  refine rk_aload_n 2 dL_law_413 rfl rfl ?_
  refine rk_aload_n 0 dL_law_414 rfl rfl ?_
  refine rk_iload_n 3 dL_law_415 rfl rfl ?_
  refine rk_iconst 1 dL_law_416 (by decide) ?_
  refine rk_pc (pc' := 417) rfl ?_
  refine rk_iadd dL_law_417 ?_
  refine rk_fald 105 5 (by decide) rfl dL_law_418 (by with_reducible assumption) ?_
  refine rk_aload_n 0 dL_law_419 rfl rfl ?_
  refine rk_iload_n 3 dL_law_420 rfl rfl ?_
  refine rk_iconst 2 dL_law_421 (by decide) ?_
  refine rk_iadd dL_law_422 ?_
  refine rk_pc (pc' := 423) rfl ?_
  refine rk_fald 105 5 (by decide) rfl dL_law_423 (by with_reducible assumption) ?_
  refine rk_aload_n 0 dL_law_424 rfl rfl ?_
  refine rk_iload_n 3 dL_law_425 rfl rfl ?_
  refine rk_iconst 3 dL_law_426 (by decide) ?_
  refine rk_iadd dL_law_427 ?_
  refine rk_fald 105 5 (by decide) rfl dL_law_428 (by with_reducible assumption) ?_
  refine rk_pc (pc' := 429) rfl ?_
  refine rk_aload_n 0 dL_law_429 rfl rfl ?_
  refine rk_iload_n 3 dL_law_430 rfl rfl ?_
  refine rk_iconst 4 dL_law_431 (by decide) ?_
  refine rk_iadd dL_law_432 ?_
  refine rk_fald 105 5 (by decide) rfl dL_law_433 (by with_reducible assumption) ?_
  refine rk_aload_n 0 dL_law_434 rfl rfl ?_
  refine rk_pc (pc' := 435) rfl ?_
  refine rk_iload_n 3 dL_law_435 rfl rfl ?_
  refine rk_iconst 5 dL_law_436 (by decide) ?_
  refine rk_iadd dL_law_437 ?_
  refine rk_fald 105 5 (by decide) rfl dL_law_438 (by with_reducible assumption) ?_
  refine rk_aload_n 0 dL_law_439 rfl rfl ?_
  refine rk_iload_n 3 dL_law_440 rfl rfl ?_
  refine rk_pc (pc' := 441) rfl ?_
  refine rk_bipush 6 dL_law_441 (by decide) ?_
  refine rk_iadd dL_law_443 ?_
  refine rk_fald 105 5 (by decide) rfl dL_law_444 (by with_reducible assumption) ?_
  refine rk_cVi (cX11_order_s M1.2.1 V.2.1 (by rw [M1.1]; exact h13) hoc _ _ _ _ _ _) rk_eX11_order rfl ⟨rfl, rfl⟩ rk_kL_45 dL_law_445 rfl (by omega) (Nat.le_of_ble_eq_true rfl) hz (fun xz2 Iz2 Rz2 hz2 => ?_)
  rw [M1.1] at hz2
  obtain ⟨g1, g2⟩ := cm_act C (sp_ok_order V.1.1 V.1.2 _ _ _ _ _ _) (fun r M e => sp_iv_T (sp_iv_order V.1.1 e) (by omega)) hz1 hz2
  refine rk_icmp_eq 1056 dL_law_448 (by decide) (fun qz448 => ?_) (fun qz448 => ?_)
  · skip
    obtain ⟨N2, n2, H2, F2, S2, P2, L2, g3⟩ := g2
    exact hq _ _ (g3.mo (by omega))
  · skip
    exact absurd g1 qz448
theorem cL_fill (hd : 20 ≤ d) (hz : Z.2.1 ≤ mc ∧ Z.2.2 ≤ ms) (hLx : (rk_fz w 5).2.1 = Lx) (hw : cl_W w) (hk : k + 7 ≤ Lx) (hL : Lx ≤ 3584) (hT : T + 40 ≤ 1000000) (C : cm rg I R x m T) (hq : ∀ I' R', cm rg I' R' x m (T + 40) → rk_Wp w l rk_mL_law d mc ms G 1056 [(0, rk_a 105 b), (1, rk_a 11 x), (2, rk_a 12 m), (3, rk_i (nI k))] [] Z I' R') : rk_Wp w l rk_mL_law d mc ms G 453 [(0, rk_a 105 b), (1, rk_a 11 x), (2, rk_a 12 m), (3, rk_i (nI k))] [] Z I R := by
  subst hLx
  have hTj : T ≤ 1000000 := by omega
  obtain ⟨N, n, Hs, F, Sv, P, L, C⟩ := C
  obtain ⟨b0, b1, b2, b3, b4, b5, b6⟩ := cL_ins hk hL
  have C2 := C
  obtain ⟨X, M, V, s⟩ := C2
  have V0 := V.1.1
  obtain ⟨⟨c, hp⟩, ⟨oc, hoc, h13, hb⟩, ⟨t, ht, h10⟩, hr⟩ := V0
  have h8 : 1 ≤ N 8 := Int32.le_trans (by decide) (hr.1 8 (by decide)).1
  have hfl : ∀ o, o < oc → sp_ov N o ∧ ∃ n, n < 2 ^ 20 ∧ N (220 + 7 * o + 3) = nI n := fun o ho => by
    obtain ⟨g1, ⟨n, _, g2, g3⟩, _⟩ := hb o ho
    exact ⟨g1, n, by omega, g3⟩
  have hdu : ∀ o, o < oc → ∃ du, du < 2 ^ 20 ∧ N (220 + 7 * o + 5) = nI du := fun o ho => by
    obtain ⟨_, _, du, g2, g3⟩ := hb o ho
    exact ⟨du, by omega, g3⟩
  refine rk_aload_n 1 dL_law_453 rfl rfl ?_
  refine rk_aload_n 0 dL_law_454 rfl rfl ?_
  refine rk_iload_n 3 dL_law_455 rfl rfl ?_
  refine rk_iconst 1 dL_law_456 (by decide) ?_
  refine rk_iadd dL_law_457 ?_
  refine rk_fald 105 5 (by decide) rfl dL_law_458 (by with_reducible assumption) ?_
  refine rk_pc (pc' := 459) rfl ?_
  refine rk_cVi (cX10_fill_s V X _) rk_eX10_fill rfl ⟨rfl, rfl⟩ rk_kL_46 dL_law_459 rfl (by omega) (Nat.le_of_ble_eq_true rfl) hz (fun xz1 Iz1 Rz1 hz1 => ?_)
  have M1 := M.fr s hz1.2.2
  refine rk_aload_n 2 dL_law_462 rfl rfl ?_
  refine rk_aload_n 0 dL_law_463 rfl rfl ?_
  refine rk_iload_n 3 dL_law_464 rfl rfl ?_
  refine rk_iconst 1 dL_law_465 (by decide) ?_
  refine rk_iadd dL_law_466 ?_
  refine rk_pc (pc' := 467) rfl ?_
  refine rk_fald 105 5 (by decide) rfl dL_law_467 (by with_reducible assumption) ?_
  refine rk_cVi (cX11_fill_s M1.2.1 V.2.1 (by rw [M1.1]; exact hp) hoc (by rw [M1.1]; exact h13) (by rw [M1.1]; exact hfl) _) rk_eX11_fill rfl ⟨rfl, rfl⟩ rk_kL_49 dL_law_468 rfl (by omega) (Nat.le_of_ble_eq_true rfl) hz (fun xz2 Iz2 Rz2 hz2 => ?_)
  rw [M1.1] at hz2
  obtain ⟨g1, g2⟩ := cm_act C (sp_ok_fill V.1.1 V.1.2 _) (fun r M e => sp_iv_T (sp_iv_fill V.1.1 e) (by omega)) hz1 hz2
  refine rk_icmp_eq 1056 dL_law_471 (by decide) (fun qz471 => ?_) (fun qz471 => ?_)
  · skip
    obtain ⟨N2, n2, H2, F2, S2, P2, L2, g3⟩ := g2
    exact hq _ _ (g3.mo (by omega))
  · skip
    exact absurd g1 qz471
theorem cL_drop (hd : 20 ≤ d) (hz : Z.2.1 ≤ mc ∧ Z.2.2 ≤ ms) (hLx : (rk_fz w 5).2.1 = Lx) (hw : cl_W w) (hk : k + 7 ≤ Lx) (hL : Lx ≤ 3584) (hT : T + 40 ≤ 1000000) (C : cm rg I R x m T) (hq : ∀ I' R', cm rg I' R' x m (T + 40) → rk_Wp w l rk_mL_law d mc ms G 1056 [(0, rk_a 105 b), (1, rk_a 11 x), (2, rk_a 12 m), (3, rk_i (nI k))] [] Z I' R') : rk_Wp w l rk_mL_law d mc ms G 476 [(0, rk_a 105 b), (1, rk_a 11 x), (2, rk_a 12 m), (3, rk_i (nI k))] [] Z I R := by
  subst hLx
  have hTj : T ≤ 1000000 := by omega
  obtain ⟨N, n, Hs, F, Sv, P, L, C⟩ := C
  obtain ⟨b0, b1, b2, b3, b4, b5, b6⟩ := cL_ins hk hL
  have C2 := C
  obtain ⟨X, M, V, s⟩ := C2
  have V0 := V.1.1
  obtain ⟨⟨c, hp⟩, ⟨oc, hoc, h13, hb⟩, ⟨t, ht, h10⟩, hr⟩ := V0
  have h8 : 1 ≤ N 8 := Int32.le_trans (by decide) (hr.1 8 (by decide)).1
  have hfl : ∀ o, o < oc → sp_ov N o ∧ ∃ n, n < 2 ^ 20 ∧ N (220 + 7 * o + 3) = nI n := fun o ho => by
    obtain ⟨g1, ⟨n, _, g2, g3⟩, _⟩ := hb o ho
    exact ⟨g1, n, by omega, g3⟩
  have hdu : ∀ o, o < oc → ∃ du, du < 2 ^ 20 ∧ N (220 + 7 * o + 5) = nI du := fun o ho => by
    obtain ⟨_, _, du, g2, g3⟩ := hb o ho
    exact ⟨du, by omega, g3⟩
  refine rk_aload_n 1 dL_law_476 rfl rfl ?_
  refine rk_aload_n 0 dL_law_477 rfl rfl ?_
  refine rk_iload_n 3 dL_law_478 rfl rfl ?_
  refine rk_iconst 1 dL_law_479 (by decide) ?_
  refine rk_iadd dL_law_480 ?_
  refine rk_fald 105 5 (by decide) rfl dL_law_481 (by with_reducible assumption) ?_
  refine rk_pc (pc' := 482) rfl ?_
  refine rk_cVi (cX10_drop_s V X _) rk_eX10_drop rfl ⟨rfl, rfl⟩ rk_kL_50 dL_law_482 rfl (by omega) (Nat.le_of_ble_eq_true rfl) hz (fun xz1 Iz1 Rz1 hz1 => ?_)
  have M1 := M.fr s hz1.2.2
  refine rk_aload_n 2 dL_law_485 rfl rfl ?_
  refine rk_aload_n 0 dL_law_486 rfl rfl ?_
  refine rk_iload_n 3 dL_law_487 rfl rfl ?_
  refine rk_iconst 1 dL_law_488 (by decide) ?_
  refine rk_iadd dL_law_489 ?_
  refine rk_pc (pc' := 490) rfl ?_
  refine rk_fald 105 5 (by decide) rfl dL_law_490 (by with_reducible assumption) ?_
  refine rk_cVi (cX11_drop_s M1.2.1 V.2.1 hoc (by rw [M1.1]; exact h13) _) rk_eX11_drop rfl ⟨rfl, rfl⟩ rk_kL_53 dL_law_491 rfl (by omega) (Nat.le_of_ble_eq_true rfl) hz (fun xz2 Iz2 Rz2 hz2 => ?_)
  rw [M1.1] at hz2
  obtain ⟨g1, g2⟩ := cm_act C (sp_ok_drop V.1.1 V.1.2 _) (fun r M e => sp_iv_T (sp_iv_drop V.1.1 e) (by omega)) hz1 hz2
  refine rk_icmp_eq 1056 dL_law_494 (by decide) (fun qz494 => ?_) (fun qz494 => ?_)
  · skip
    obtain ⟨N2, n2, H2, F2, S2, P2, L2, g3⟩ := g2
    exact hq _ _ (g3.mo (by omega))
  · skip
    exact absurd g1 qz494
theorem cL_pass (hd : 20 ≤ d) (hz : Z.2.1 ≤ mc ∧ Z.2.2 ≤ ms) (hLx : (rk_fz w 5).2.1 = Lx) (hw : cl_W w) (hk : k + 7 ≤ Lx) (hL : Lx ≤ 3584) (hT : T + 40 ≤ 1000000) (C : cm rg I R x m T) (hq : ∀ I' R', cm rg I' R' x m (T + 40) → rk_Wp w l rk_mL_law d mc ms G 1056 [(0, rk_a 105 b), (1, rk_a 11 x), (2, rk_a 12 m), (3, rk_i (nI k))] [] Z I' R') : rk_Wp w l rk_mL_law d mc ms G 499 [(0, rk_a 105 b), (1, rk_a 11 x), (2, rk_a 12 m), (3, rk_i (nI k))] [] Z I R := by
  subst hLx
  have hTj : T ≤ 1000000 := by omega
  obtain ⟨N, n, Hs, F, Sv, P, L, C⟩ := C
  obtain ⟨b0, b1, b2, b3, b4, b5, b6⟩ := cL_ins hk hL
  have C2 := C
  obtain ⟨X, M, V, s⟩ := C2
  have V0 := V.1.1
  obtain ⟨⟨c, hp⟩, ⟨oc, hoc, h13, hb⟩, ⟨t, ht, h10⟩, hr⟩ := V0
  have h8 : 1 ≤ N 8 := Int32.le_trans (by decide) (hr.1 8 (by decide)).1
  have hfl : ∀ o, o < oc → sp_ov N o ∧ ∃ n, n < 2 ^ 20 ∧ N (220 + 7 * o + 3) = nI n := fun o ho => by
    obtain ⟨g1, ⟨n, _, g2, g3⟩, _⟩ := hb o ho
    exact ⟨g1, n, by omega, g3⟩
  have hdu : ∀ o, o < oc → ∃ du, du < 2 ^ 20 ∧ N (220 + 7 * o + 5) = nI du := fun o ho => by
    obtain ⟨_, _, du, g2, g3⟩ := hb o ho
    exact ⟨du, by omega, g3⟩
  refine rk_aload_n 1 dL_law_499 rfl rfl ?_
  refine rk_aload_n 0 dL_law_500 rfl rfl ?_
  refine rk_iload_n 3 dL_law_501 rfl rfl ?_
  refine rk_iconst 1 dL_law_502 (by decide) ?_
  refine rk_iadd dL_law_503 ?_
  refine rk_fald 105 5 (by decide) rfl dL_law_504 (by with_reducible assumption) ?_
  refine rk_pc (pc' := 505) rfl ?_
  refine rk_cVi (cX10_pass_s V X _) rk_eX10_pass rfl ⟨rfl, rfl⟩ rk_kL_54 dL_law_505 rfl (by omega) (Nat.le_of_ble_eq_true rfl) hz (fun xz1 Iz1 Rz1 hz1 => ?_)
  have M1 := M.fr s hz1.2.2
  refine rk_aload_n 2 dL_law_508 rfl rfl ?_
  refine rk_aload_n 0 dL_law_509 rfl rfl ?_
  refine rk_iload_n 3 dL_law_510 rfl rfl ?_
  refine rk_iconst 1 dL_law_511 (by decide) ?_
  refine rk_iadd dL_law_512 ?_
  refine rk_pc (pc' := 513) rfl ?_
  refine rk_fald 105 5 (by decide) rfl dL_law_513 (by with_reducible assumption) ?_
  refine rk_cVi (cX11_pass_s M1.2.1 V.2.1 ht hoc (by rw [M1.1]; exact h10) (by rw [M1.1]; exact h13) (by rw [M1.1]; exact hdu) _) rk_eX11_pass rfl ⟨rfl, rfl⟩ rk_kL_57 dL_law_514 rfl (by omega) (Nat.le_of_ble_eq_true rfl) hz (fun xz2 Iz2 Rz2 hz2 => ?_)
  rw [M1.1] at hz2
  obtain ⟨g1, g2⟩ := cm_act C (sp_ok_pass V.1.1 V.1.2 _) (fun r M e => sp_iv_T (sp_iv_pass V.1.1 e) (by omega)) hz1 hz2
  refine rk_icmp_eq 1056 dL_law_517 (by decide) (fun qz517 => ?_) (fun qz517 => ?_)
  · skip
    obtain ⟨N2, n2, H2, F2, S2, P2, L2, g3⟩ := g2
    exact hq _ _ (g3.mo (by omega))
  · skip
    exact absurd g1 qz517
end EU

