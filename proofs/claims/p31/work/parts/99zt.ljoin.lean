section PJ
variable {w : rk_W} {l : Launch} {Sh : rk_Sh} {rg : Nat → Nat} {I I1 : rk_Mm} {R R1 : rk_Rm} {N M : Nat → Int32} {T T' U : Int} {x k : Nat}
/-- what an act of the law leaves, new rows beside -/
def lZ (rg : Nat → Nat) (x k : Nat) (r : Int32) (u : rk_S) : Prop := r = 1 ∧ ∃ N', lX rg u.2.1 u.2.2 x (k + 1) N'
theorem rk_nS_0 {q kk a : Nat} (hk : kk ≠ 0) (h : (rk_nS Sh q kk).2 a = 0) : a ≠ q ∧ Sh.2 a = 0 := by
  have h2 : va_up Sh.2 q kk a = 0 := h
  by_cases hne : a = q
  · subst hne
    rw [va_up_self] at h2
    exact absurd h2 hk
  · rw [va_up_ne _ _ hne] at h2
    exact ⟨hne, h2⟩
theorem pv_lt {p j : Nat} (h : j < 7) : pv N p j = N (50 + 7 * p + j) := if_neg (by omega)
theorem rk_le_of {a c : Nat} (ha : a < 2 ^ 31) (z : ¬ nI c ≤ nI a) : a < c := Classical.byContradiction (fun q => z (nI_le (Nat.le_of_not_lt q) ha))
theorem ispc_n {c p : Nat} (hc : N 12 = nI c) (hc2 : c ≤ 24) (hp : p < c) : sp_ispc N (nI p) := ⟨nI_pos' (by omega), by rw [hc, rk_pred (by omega)]; exact nI_le (by omega) (by omega)⟩
theorem ispc_no {c p : Nat} (hc : N 12 = nI c) (hc2 : c ≤ 24) (hp : c ≤ p) (hp2 : p ≤ 24) : ¬ sp_ispc N (nI p) := fun z => by
  obtain ⟨i, hi, e⟩ := sp_ispc_n z hc hc2
  have := (nI_eq (by omega) (by omega)).mp e
  omega
/-- of two pieces that are joined: what the one with the lower number is then -/
theorem join_v {c a b lo hi : Nat} (hc : N 12 = nI c) (hc2 : c ≤ 24) (hm : (lo = a ∧ hi = b ∧ a < b) ∨ (lo = b ∧ hi = a ∧ b < a)) (ha : a < c) (hb : b < c) : sp_gone (sp_joinN N lo hi) 12 50 hi 12 = nI (c - 1) ∧ lo < c - 1 ∧ (∀ j, j ≠ 12 → j < 50 → sp_gone (sp_joinN N lo hi) 12 50 hi j = N j) ∧ sp_gone (sp_joinN N lo hi) 12 50 hi (50 + 7 * lo + 3) = N (50 + 7 * a + 3) + N (50 + 7 * b + 3) - N 4 ∧ sp_gone (sp_joinN N lo hi) 12 50 hi (50 + 7 * lo + 4) = N (50 + 7 * a + 4) + N (50 + 7 * b + 4) ∧ sp_gone (sp_joinN N lo hi) 12 50 hi (50 + 7 * lo + 5) = (if N (50 + 7 * b + 5) ≤ N (50 + 7 * a + 5) then N (50 + 7 * b + 5) else N (50 + 7 * a + 5)) ∧ sp_gone (sp_joinN N lo hi) 12 50 hi (50 + 7 * lo + 6) = N (50 + 7 * a + 6) + N (50 + 7 * b + 6) + 1 := by
  have hlo : lo < hi ∧ hi < c := by omega
  have hx : ∀ j, j ≠ 50 + 7 * lo + 3 → j ≠ 50 + 7 * lo + 4 → j ≠ 50 + 7 * lo + 5 → j ≠ 50 + 7 * lo + 6 → sp_joinN N lo hi j = N j := fun j j1 j2 j3 j4 => by rw [sp_joinN, sp_un j4, sp_un j3, sp_un j2, sp_un j1]
  have e12 : sp_joinN N lo hi 12 = nI c := (hx 12 (by omega) (by omega) (by omega) (by omega)).trans hc
  have gp : ∀ j, j < 7 → sp_gone (sp_joinN N lo hi) 12 50 hi (50 + 7 * lo + j) = sp_joinN N lo hi (50 + 7 * lo + j) := fun j hj => by
    rw [sp_gone_p (N := sp_joinN N lo hi) (cnt := 12) (base := 50) (p := hi) e12 (by omega) (by decide) (by omega) hj, if_pos hlo.1]
  have v3 : sp_joinN N lo hi (50 + 7 * lo + 3) = N (50 + 7 * lo + 3) + (N (50 + 7 * hi + 3) - N 4) := by rw [sp_joinN, sp_un (by omega), sp_un (by omega), sp_un (by omega), sp_us]
  have v4 : sp_joinN N lo hi (50 + 7 * lo + 4) = N (50 + 7 * lo + 4) + N (50 + 7 * hi + 4) := by rw [sp_joinN, sp_un (by omega), sp_un (by omega), sp_us]
  have v5 : sp_joinN N lo hi (50 + 7 * lo + 5) = (if N (50 + 7 * hi + 5) < N (50 + 7 * lo + 5) then N (50 + 7 * hi + 5) else N (50 + 7 * lo + 5)) := by rw [sp_joinN, sp_un (by omega), sp_us]
  have v6 : sp_joinN N lo hi (50 + 7 * lo + 6) = N (50 + 7 * lo + 6) + (N (50 + 7 * hi + 6) + 1) := by rw [sp_joinN, sp_us]
  refine ⟨sp_gone_n e12 (by omega), by omega, fun j j1 j2 => (sp_gone_x e12 (by omega) j1 (by omega)).trans (hx j (by omega) (by omega) (by omega) (by omega)), ?_, ?_, ?_, ?_⟩
  · rw [gp 3 (by decide), v3]
    rcases hm with ⟨rfl, rfl, _⟩ | ⟨rfl, rfl, _⟩ <;> grind
  · rw [gp 4 (by decide), v4]
    rcases hm with ⟨rfl, rfl, _⟩ | ⟨rfl, rfl, _⟩
    · rfl
    · exact Int32.add_comm _ _
  · rw [gp 5 (by decide), v5]
    rcases hm with ⟨rfl, rfl, _⟩ | ⟨rfl, rfl, _⟩
    · by_cases h1 : N (50 + 7 * hi + 5) < N (50 + 7 * lo + 5)
      · rw [if_pos h1, if_pos (Int32.le_of_lt h1)]
      · rw [if_neg h1]
        by_cases h2 : N (50 + 7 * hi + 5) ≤ N (50 + 7 * lo + 5)
        · rw [if_pos h2]; exact Int32.le_antisymm (Int32.not_lt.mp h1) h2
        · rw [if_neg h2]
    · by_cases h1 : N (50 + 7 * hi + 5) < N (50 + 7 * lo + 5)
      · rw [if_pos h1, if_neg (Int32.not_le.mpr h1)]
      · rw [if_neg h1, if_pos (Int32.not_lt.mp h1)]
  · rw [gp 6 (by decide), v6]
    rcases hm with ⟨rfl, rfl, _⟩ | ⟨rfl, rfl, _⟩ <;> grind
theorem cL_isJoined_k {a b c f qa qb : Nat} {Z : rk_Z} (hT : (k : Int) ≤ 1000) (hY : lY rg I R x (k : Int) N) (hsi : si (3000000 * (k : Int)) N) (hd : (N 10).toInt ≤ 4 * (k : Int)) (hk : k ≤ 200) (hc : N 12 = nI c) (hc2 : c ≤ 24) (hac : a < c) (hbc : b < c) (hab : a ≠ b) (hf : f < 3) (ef : N (50 + 7 * a + 0) = nI f) (hno : ¬ (sp_lk N a b ∧ N 4 < N (50 + 7 * a + 3) ∧ N 4 < N (50 + 7 * b + 3)) → sp_join N (nI a) (nI b) = (-5, none)) (hyes : (sp_lk N a b ∧ N 4 < N (50 + 7 * a + 3) ∧ N 4 < N (50 + 7 * b + 3)) → ∀ lo hi, ((lo = a ∧ hi = b ∧ a < b) ∨ (lo = b ∧ hi = a ∧ b < a)) → sp_join N (nI a) (nI b) = (nI lo, some (sp_gone (sp_joinN N lo hi) 12 50 hi))) (ga : rg qa = 104) (gb : rg qb = 104) (pa : ∀ j, j < 8 → I 26 qa j = pv N a j) (pb : ∀ j, j < 8 → I 26 qb j = pv N b j) (hz : Z.2.1 ≤ 2 ∧ Z.2.2 ≤ 16) (hkd : ∀ q, Sh.2 q ≠ 0 → Z.1.2 q = Sh.2 q) : rk_Wp w l rk_mL_isJoined 8 2 16 (rk_G w (fun r u => ∃ x', r = some (rk_i x') ∧ (∀ q, Sh.2 q ≠ 0 → u.1.2 q = Sh.2 q) ∧ lZ rg x k x' u) 2 16) 63 [(0, rk_a 11 x), (1, rk_i (nI a)), (2, rk_i (nI b)), (3, rk_i (nI c)), (4, rk_a 26 qa), (5, rk_a 26 qb)] [] Z I R := by
  have fa : ∀ j, j < 7 → I 26 qa j = N (50 + 7 * a + j) := fun j hj => (pa j (by omega)).trans (pv_lt hj)
  have fb : ∀ j, j < 7 → I 26 qb j = N (50 + 7 * b + j) := fun j hj => (pb j (by omega)).trans (pv_lt hj)
  have k141 : ∀ (lo hi : Nat), ((lo = a ∧ hi = b ∧ a < b) ∨ (lo = b ∧ hi = a ∧ b < a)) → ∀ b6 : Int32, ((b6 = 1 ∧ (sp_lk N a b ∧ N 4 < N (50 + 7 * a + 3) ∧ N 4 < N (50 + 7 * b + 3))) ∨ (b6 = 0 ∧ ¬ (sp_lk N a b ∧ N 4 < N (50 + 7 * a + 3) ∧ N 4 < N (50 + 7 * b + 3)))) → rk_Wp w l rk_mL_isJoined 8 2 16 (rk_G w (fun r u => ∃ x', r = some (rk_i x') ∧ (∀ q, Sh.2 q ≠ 0 → u.1.2 q = Sh.2 q) ∧ lZ rg x k x' u) 2 16) 141 [(0, rk_a 11 x), (1, rk_i (nI a)), (2, rk_i (nI b)), (3, rk_i (nI c)), (4, rk_a 26 qa), (5, rk_a 26 qb), (6, rk_i b6), (7, rk_i (nI lo))] [] Z I R := by
    intro lo hi hm b6 hb6
    rcases hb6 with ⟨rfl, hcan⟩ | ⟨rfl, hcan⟩
    · have hsp := hyes hcan lo hi hm
      obtain ⟨m12, hlo, mx, j3, j4, j5, j6⟩ := join_v hc hc2 hm hac hbc
      have eb0 : N (50 + 7 * b + 0) = nI f := hcan.1.1.symm.trans ef
      have hs2 : si (3000000 * (k : Int)) (sp_gone (sp_joinN N lo hi) 12 50 hi) := by
        rcases hm with ⟨rfl, rfl, q⟩ | ⟨rfl, rfl, q⟩
        · exact si_join hsi (by omega) hc hc2 hf hac hbc (by omega) ef eb0
        · exact si_join hsi (by omega) hc hc2 hf hbc hac (by omega) eb0 ef
      have m4 : sp_gone (sp_joinN N lo hi) 12 50 hi 4 = N 4 := mx 4 (by decide) (by decide)
      refine rk_aload_n 0 dL_isJoined_141 rfl rfl ?_
      refine rk_iload_n 1 dL_isJoined_142 rfl rfl ?_
      refine rk_iload_n 2 dL_isJoined_143 rfl rfl ?_
      refine rk_cVi (lq_join (by omega) hY _ _) rk_eX10_join rfl ⟨rfl, rfl⟩ rk_kL_48 dL_isJoined_144 rfl (by decide) (Nat.le_of_ble_eq_true rfl) hz (fun xz1 Iz1 Rz1 hz1 => ?_)
      rw [hsp] at hz1
      obtain ⟨ex, hY2, fr⟩ := hz1
      have hY3 : lY rg Iz1 Rz1 x ((k : Int) + 1) (sp_gone (sp_joinN N lo hi) 12 50 hi) := hY2
      have ea : Iz1 26 qa = I 26 qa := fr.1 26 qa (by rw [ga]; decide)
      have eb : Iz1 26 qb = I 26 qb := fr.1 26 qb (by rw [gb]; decide)
      refine rk_istore (ls' := [(8, _), (0, _), (1, _), (2, _), (3, _), (4, _), (5, _), (6, _), (7, _)]) dL_isJoined_147 (by decide) rfl ?_
      refine rk_iload dL_isJoined_149 rfl ?_
      refine rk_pc (pc' := 151) rfl ?_
      refine rk_if_ne 196 dL_isJoined_151 (by decide) (fun qz151 => ?_) (fun qz151 => ?_)
      · skip
        refine rk_iload dL_isJoined_196 rfl ?_
        refine rk_iload dL_isJoined_198 rfl ?_
        refine rk_icmp_ne 319 dL_isJoined_200 (by decide) (fun qz200 => ?_) (fun qz200 => ?_)
        · skip
          exact absurd ex qz200
        · skip
          refine rk_aload_n 0 dL_isJoined_203 rfl rfl ?_
          refine rk_iconst 1 dL_isJoined_204 (by decide) ?_
          refine rk_cVp (qc1 hY3) rk_eX10_count rfl ⟨rfl, rfl⟩ rk_kL_8 dL_isJoined_205 rfl (by decide) (Nat.le_of_ble_eq_true rfl) hz ?_
          refine rk_iload_n 3 dL_isJoined_208 rfl rfl ?_
          refine rk_pc (pc' := 209) rfl ?_
          refine rk_iconst 1 dL_isJoined_209 (by decide) ?_
          refine rk_isub dL_isJoined_210 ?_
          refine rk_icmp_ne 319 dL_isJoined_211 (by decide) (fun qz211 => ?_) (fun qz211 => ?_)
          · skip
            exact absurd (m12.trans (rk_pred (by omega)).symm) qz211
          · skip
            refine rk_aload_n 0 dL_isJoined_214 rfl rfl ?_
            refine rk_iload dL_isJoined_215 rfl ?_
            refine rk_iconst 3 dL_isJoined_217 (by decide) ?_
            refine rk_cVp (qp (k := 3) hY3 m12 (by omega) hlo (by decide) rfl rfl) rk_eX10_piece rfl ⟨rfl, rfl⟩ rk_kL_14 dL_isJoined_218 rfl (by decide) (Nat.le_of_ble_eq_true rfl) hz ?_
            refine rk_pc (pc' := 221) rfl ?_
            refine rk_aload dL_isJoined_221 rfl ?_
            refine rk_iconst 3 dL_isJoined_223 (by decide) ?_
            refine rk_rn26 3 dL_isJoined_224 rfl (by first | decide | assumption | omega) ?_
            rw [ea, fa 3 (by decide)]
            refine rk_aload dL_isJoined_225 rfl ?_
            refine rk_iconst 3 dL_isJoined_227 (by decide) ?_
            refine rk_rn26 3 dL_isJoined_228 rfl (by first | decide | assumption | omega) ?_
            rw [eb, fb 3 (by decide)]
            refine rk_pc (pc' := 229) rfl ?_
            refine rk_iadd dL_isJoined_229 ?_
            refine rk_aload_n 0 dL_isJoined_230 rfl rfl ?_
            refine rk_bipush 13 dL_isJoined_231 (by decide) ?_
            refine rk_cVp (qc13 hY3) rk_eX10_count rfl ⟨rfl, rfl⟩ rk_kL_8 dL_isJoined_233 rfl (by decide) (Nat.le_of_ble_eq_true rfl) hz ?_
            refine rk_isub dL_isJoined_236 ?_
            refine rk_icmp_ne 319 dL_isJoined_237 (by decide) (fun qz237 => ?_) (fun qz237 => ?_)
            · skip
              exact absurd (j3.trans (by rw [m4])) qz237
            · skip
              refine rk_aload_n 0 dL_isJoined_240 rfl rfl ?_
              refine rk_pc (pc' := 241) rfl ?_
              refine rk_iload dL_isJoined_241 rfl ?_
              refine rk_iconst 4 dL_isJoined_243 (by decide) ?_
              refine rk_cVp (qp (k := 4) hY3 m12 (by omega) hlo (by decide) rfl rfl) rk_eX10_piece rfl ⟨rfl, rfl⟩ rk_kL_14 dL_isJoined_244 rfl (by decide) (Nat.le_of_ble_eq_true rfl) hz ?_
              refine rk_aload dL_isJoined_247 rfl ?_
              refine rk_iconst 4 dL_isJoined_249 (by decide) ?_
              refine rk_rn26 4 dL_isJoined_250 rfl (by first | decide | assumption | omega) ?_
              rw [ea, fa 4 (by decide)]
              refine rk_pc (pc' := 251) rfl ?_
              refine rk_aload dL_isJoined_251 rfl ?_
              refine rk_iconst 4 dL_isJoined_253 (by decide) ?_
              refine rk_rn26 4 dL_isJoined_254 rfl (by first | decide | assumption | omega) ?_
              rw [eb, fb 4 (by decide)]
              refine rk_iadd dL_isJoined_255 ?_
              refine rk_icmp_ne 319 dL_isJoined_256 (by decide) (fun qz256 => ?_) (fun qz256 => ?_)
              · skip
                exact absurd j4 qz256
              · skip
                refine rk_aload_n 0 dL_isJoined_259 rfl rfl ?_
                refine rk_iload dL_isJoined_260 rfl ?_
                refine rk_pc (pc' := 262) rfl ?_
                refine rk_iconst 5 dL_isJoined_262 (by decide) ?_
                refine rk_cVp (qp (k := 5) hY3 m12 (by omega) hlo (by decide) rfl rfl) rk_eX10_piece rfl ⟨rfl, rfl⟩ rk_kL_14 dL_isJoined_263 rfl (by decide) (Nat.le_of_ble_eq_true rfl) hz ?_
                refine rk_aload dL_isJoined_266 rfl ?_
                refine rk_iconst 5 dL_isJoined_268 (by decide) ?_
                refine rk_rn26 5 dL_isJoined_269 rfl (by first | decide | assumption | omega) ?_
                rw [ea, fa 5 (by decide)]
                refine rk_aload dL_isJoined_270 rfl ?_
                refine rk_pc (pc' := 272) rfl ?_
                refine rk_iconst 5 dL_isJoined_272 (by decide) ?_
                refine rk_rn26 5 dL_isJoined_273 rfl (by first | decide | assumption | omega) ?_
                rw [eb, fb 5 (by decide)]
                refine rk_icmp_ge 284 dL_isJoined_274 (by decide) (fun qz274 => ?_) (fun qz274 => ?_)
                · skip
                  refine rk_aload dL_isJoined_284 rfl ?_
                  refine rk_iconst 5 dL_isJoined_286 (by decide) ?_
                  refine rk_rn26 5 dL_isJoined_287 rfl (by first | decide | assumption | omega) ?_
                  rw [eb, fb 5 (by decide)]
                  refine rk_icmp_ne 319 dL_isJoined_288 (by decide) (fun qz288 => ?_) (fun qz288 => ?_)
                  · skip
                    first | exact absurd (j5.trans (if_pos qz274)) qz288 | exact absurd (j5.trans (if_neg qz274)) qz288
                  · skip
                    refine rk_aload_n 0 dL_isJoined_291 rfl rfl ?_
                    refine rk_pc (pc' := 292) rfl ?_
                    refine rk_iload dL_isJoined_292 rfl ?_
                    refine rk_bipush 6 dL_isJoined_294 (by decide) ?_
                    refine rk_cVp (qp (k := 6) hY3 m12 (by omega) hlo (by decide) rfl rfl) rk_eX10_piece rfl ⟨rfl, rfl⟩ rk_kL_14 dL_isJoined_296 rfl (by decide) (Nat.le_of_ble_eq_true rfl) hz ?_
                    refine rk_aload dL_isJoined_299 rfl ?_
                    refine rk_bipush 6 dL_isJoined_301 (by decide) ?_
                    refine rk_rn26 6 dL_isJoined_303 rfl (by first | decide | assumption | omega) ?_
                    rw [ea, fa 6 (by decide)]
                    refine rk_pc (pc' := 304) rfl ?_
                    refine rk_aload dL_isJoined_304 rfl ?_
                    refine rk_bipush 6 dL_isJoined_306 (by decide) ?_
                    refine rk_rn26 6 dL_isJoined_308 rfl (by first | decide | assumption | omega) ?_
                    rw [eb, fb 6 (by decide)]
                    refine rk_iadd dL_isJoined_309 ?_
                    refine rk_iconst 1 dL_isJoined_310 (by decide) ?_
                    refine rk_iadd dL_isJoined_311 ?_
                    refine rk_pc (pc' := 312) rfl ?_
                    refine rk_icmp_ne 319 dL_isJoined_312 (by decide) (fun qz312 => ?_) (fun qz312 => ?_)
                    · skip
                      exact absurd j6 qz312
                    · skip
                      refine rk_iconst 1 dL_isJoined_315 (by decide) ?_
                      refine rk_goto 320 dL_isJoined_316 (by decide) ?_
                      refine rk_iretN dL_isJoined_320 rfl (by decide) ?_
                      exact ⟨hz, hkd, rfl, _, lX.of hY3 hs2 (by rw [mx 10 (by decide) (by decide)]; exact hd)⟩
                · skip
                  refine rk_aload dL_isJoined_277 rfl ?_
                  refine rk_iconst 5 dL_isJoined_279 (by decide) ?_
                  refine rk_rn26 5 dL_isJoined_280 rfl (by first | decide | assumption | omega) ?_
                  rw [ea, fa 5 (by decide)]
                  refine rk_goto 288 dL_isJoined_281 (by decide) ?_
                  refine rk_pc (pc' := 288) rfl ?_
                  refine rk_icmp_ne 319 dL_isJoined_288 (by decide) (fun qz288 => ?_) (fun qz288 => ?_)
                  · skip
                    first | exact absurd (j5.trans (if_pos qz274)) qz288 | exact absurd (j5.trans (if_neg qz274)) qz288
                  · skip
                    refine rk_aload_n 0 dL_isJoined_291 rfl rfl ?_
                    refine rk_iload dL_isJoined_292 rfl ?_
                    refine rk_bipush 6 dL_isJoined_294 (by decide) ?_
                    refine rk_cVp (qp (k := 6) hY3 m12 (by omega) hlo (by decide) rfl rfl) rk_eX10_piece rfl ⟨rfl, rfl⟩ rk_kL_14 dL_isJoined_296 rfl (by decide) (Nat.le_of_ble_eq_true rfl) hz ?_
                    refine rk_aload dL_isJoined_299 rfl ?_
                    refine rk_bipush 6 dL_isJoined_301 (by decide) ?_
                    refine rk_pc (pc' := 303) rfl ?_
                    refine rk_rn26 6 dL_isJoined_303 rfl (by first | decide | assumption | omega) ?_
                    rw [ea, fa 6 (by decide)]
                    refine rk_aload dL_isJoined_304 rfl ?_
                    refine rk_bipush 6 dL_isJoined_306 (by decide) ?_
                    refine rk_rn26 6 dL_isJoined_308 rfl (by first | decide | assumption | omega) ?_
                    rw [eb, fb 6 (by decide)]
                    refine rk_iadd dL_isJoined_309 ?_
                    refine rk_iconst 1 dL_isJoined_310 (by decide) ?_
                    refine rk_pc (pc' := 311) rfl ?_
                    refine rk_iadd dL_isJoined_311 ?_
                    refine rk_icmp_ne 319 dL_isJoined_312 (by decide) (fun qz312 => ?_) (fun qz312 => ?_)
                    · skip
                      exact absurd j6 qz312
                    · skip
                      refine rk_iconst 1 dL_isJoined_315 (by decide) ?_
                      refine rk_goto 320 dL_isJoined_316 (by decide) ?_
                      refine rk_iretN dL_isJoined_320 rfl (by decide) ?_
                      exact ⟨hz, hkd, rfl, _, lX.of hY3 hs2 (by rw [mx 10 (by decide) (by decide)]; exact hd)⟩
      · skip
        exact absurd qz151 (by decide)
    · have hsp := hno hcan
      refine rk_aload_n 0 dL_isJoined_141 rfl rfl ?_
      refine rk_iload_n 1 dL_isJoined_142 rfl rfl ?_
      refine rk_iload_n 2 dL_isJoined_143 rfl rfl ?_
      refine rk_cVi (lq_join (by omega) hY _ _) rk_eX10_join rfl ⟨rfl, rfl⟩ rk_kL_48 dL_isJoined_144 rfl (by decide) (Nat.le_of_ble_eq_true rfl) hz (fun xz1 Iz1 Rz1 hz1 => ?_)
      rw [hsp] at hz1
      obtain ⟨ex, hY2, fr⟩ := hz1
      have hY3 : lY rg Iz1 Rz1 x ((k : Int) + 1) N := hY2
      have ea : Iz1 26 qa = I 26 qa := fr.1 26 qa (by rw [ga]; decide)
      have eb : Iz1 26 qb = I 26 qb := fr.1 26 qb (by rw [gb]; decide)
      refine rk_istore (ls' := [(8, _), (0, _), (1, _), (2, _), (3, _), (4, _), (5, _), (6, _), (7, _)]) dL_isJoined_147 (by decide) rfl ?_
      refine rk_iload dL_isJoined_149 rfl ?_
      refine rk_pc (pc' := 151) rfl ?_
      refine rk_if_ne 196 dL_isJoined_151 (by decide) (fun qz151 => ?_) (fun qz151 => ?_)
      · skip
        exact absurd qz151 (by decide)
      · skip
        refine rk_iload dL_isJoined_154 rfl ?_
        refine rk_bipush (-5) dL_isJoined_156 (by decide) ?_
        refine rk_icmp_ne 194 dL_isJoined_158 (by decide) (fun qz158 => ?_) (fun qz158 => ?_)
        · skip
          exact absurd ex qz158
        · skip
          refine rk_aload_n 0 dL_isJoined_161 rfl rfl ?_
          refine rk_iconst 1 dL_isJoined_162 (by decide) ?_
          refine rk_cVp (qc1 hY3) rk_eX10_count rfl ⟨rfl, rfl⟩ rk_kL_8 dL_isJoined_163 rfl (by decide) (Nat.le_of_ble_eq_true rfl) hz ?_
          refine rk_iload_n 3 dL_isJoined_166 rfl rfl ?_
          refine rk_pc (pc' := 167) rfl ?_
          refine rk_icmp_ne 194 dL_isJoined_167 (by decide) (fun qz167 => ?_) (fun qz167 => ?_)
          · skip
            exact absurd hc qz167
          · skip
            refine rk_aload_n 0 dL_isJoined_170 rfl rfl ?_
            refine rk_iload_n 1 dL_isJoined_171 rfl rfl ?_
            refine rk_aload dL_isJoined_172 rfl ?_
            refine rk_cSp (cL_isLike_s hY3 hc hc2 hac (fun j hj => by rw [ea]; exact pa j hj)) rk_eL_isLike rfl rk_kL_54 dL_isJoined_174 rfl (by decide) (Nat.le_of_ble_eq_true rfl) hz ?_
            refine rk_if_eq 194 dL_isJoined_177 (by decide) (fun qz177 => ?_) (fun qz177 => ?_)
            · skip
              exact absurd qz177 (by decide)
            · skip
              refine rk_aload_n 0 dL_isJoined_180 rfl rfl ?_
              refine rk_iload_n 2 dL_isJoined_181 rfl rfl ?_
              refine rk_pc (pc' := 182) rfl ?_
              refine rk_aload dL_isJoined_182 rfl ?_
              refine rk_cSp (cL_isLike_s hY3 hc hc2 hbc (fun j hj => by rw [eb]; exact pb j hj)) rk_eL_isLike rfl rk_kL_54 dL_isJoined_184 rfl (by decide) (Nat.le_of_ble_eq_true rfl) hz ?_
              refine rk_if_eq 194 dL_isJoined_187 (by decide) (fun qz187 => ?_) (fun qz187 => ?_)
              · skip
                exact absurd qz187 (by decide)
              · skip
                refine rk_iconst 1 dL_isJoined_190 (by decide) ?_
                refine rk_goto 195 dL_isJoined_191 (by decide) ?_
                refine rk_iretN dL_isJoined_195 rfl (by decide) ?_
                exact ⟨hz, hkd, rfl, N, lX.of hY3 hsi hd⟩
  have k129 : ∀ b6 : Int32, ((b6 = 1 ∧ (sp_lk N a b ∧ N 4 < N (50 + 7 * a + 3) ∧ N 4 < N (50 + 7 * b + 3))) ∨ (b6 = 0 ∧ ¬ (sp_lk N a b ∧ N 4 < N (50 + 7 * a + 3) ∧ N 4 < N (50 + 7 * b + 3)))) → rk_Wp w l rk_mL_isJoined 8 2 16 (rk_G w (fun r u => ∃ x', r = some (rk_i x') ∧ (∀ q, Sh.2 q ≠ 0 → u.1.2 q = Sh.2 q) ∧ lZ rg x k x' u) 2 16) 129 [(0, rk_a 11 x), (1, rk_i (nI a)), (2, rk_i (nI b)), (3, rk_i (nI c)), (4, rk_a 26 qa), (5, rk_a 26 qb), (6, rk_i b6)] [] Z I R := by
    intro b6 hb6
    refine rk_iload_n 1 dL_isJoined_129 rfl rfl ?_
    refine rk_iload_n 2 dL_isJoined_130 rfl rfl ?_
    refine rk_icmp_ge 138 dL_isJoined_131 (by decide) (fun qz131 => ?_) (fun qz131 => ?_)
    · skip
      refine rk_iload_n 2 dL_isJoined_138 rfl rfl ?_
      refine rk_istore (ls' := [(7, _), (0, _), (1, _), (2, _), (3, _), (4, _), (5, _), (6, _)]) dL_isJoined_139 (by decide) rfl ?_
      refine rk_ord [0, 1, 2, 3, 4, 5, 6, 7] (ls' := [(0, _), (1, _), (2, _), (3, _), (4, _), (5, _), (6, _), (7, _)]) rfl ?_
      first | exact k141 a b (Or.inl ⟨rfl, rfl, rk_le_of (by omega) qz131⟩) b6 hb6 | exact k141 b a (Or.inr ⟨rfl, rfl, by have := (nI_leI (by omega) (by omega)).mp qz131; omega⟩) b6 hb6
    · skip
      refine rk_iload_n 1 dL_isJoined_134 rfl rfl ?_
      refine rk_goto 139 dL_isJoined_135 (by decide) ?_
      refine rk_pc (pc' := 139) rfl ?_
      refine rk_istore (ls' := [(7, _), (0, _), (1, _), (2, _), (3, _), (4, _), (5, _), (6, _)]) dL_isJoined_139 (by decide) rfl ?_
      refine rk_ord [0, 1, 2, 3, 4, 5, 6, 7] (ls' := [(0, _), (1, _), (2, _), (3, _), (4, _), (5, _), (6, _), (7, _)]) rfl ?_
      first | exact k141 a b (Or.inl ⟨rfl, rfl, rk_le_of (by omega) qz131⟩) b6 hb6 | exact k141 b a (Or.inr ⟨rfl, rfl, by have := (nI_leI (by omega) (by omega)).mp qz131; omega⟩) b6 hb6
  have cn : N (50 + 7 * a + 0) = N (50 + 7 * b + 0) → N (50 + 7 * a + 1) = N (50 + 7 * b + 1) → N (50 + 7 * a + 2) = N (50 + 7 * b + 2) → ¬ N (50 + 7 * a + 3) ≤ N 4 → ¬ N (50 + 7 * b + 3) ≤ N 4 → (sp_lk N a b ∧ N 4 < N (50 + 7 * a + 3) ∧ N 4 < N (50 + 7 * b + 3)) := fun z0 z1 z2 z3 z4 => ⟨⟨z0, z1, z2⟩, Int32.not_le.mp z3, Int32.not_le.mp z4⟩
  refine rk_aload dL_isJoined_63 rfl ?_
  refine rk_iconst 0 dL_isJoined_65 (by decide) ?_
  refine rk_rn26 0 dL_isJoined_66 rfl (by first | decide | assumption | omega) ?_
  rw [fa 0 (by decide)]
  refine rk_aload dL_isJoined_67 rfl ?_
  refine rk_iconst 0 dL_isJoined_69 (by decide) ?_
  refine rk_rn26 0 dL_isJoined_70 rfl (by first | decide | assumption | omega) ?_
  rw [fb 0 (by decide)]
  refine rk_pc (pc' := 71) rfl ?_
  refine rk_icmp_ne 126 dL_isJoined_71 (by decide) (fun qz71 => ?_) (fun qz71 => ?_)
  · skip
    refine rk_iconst 0 dL_isJoined_126 (by decide) ?_
    refine rk_istore (ls' := [(6, _), (0, _), (1, _), (2, _), (3, _), (4, _), (5, _)]) dL_isJoined_127 (by decide) rfl ?_
    refine rk_ord [0, 1, 2, 3, 4, 5, 6] (ls' := [(0, _), (1, _), (2, _), (3, _), (4, _), (5, _), (6, _)]) rfl ?_
    first | exact k129 1 (Or.inl ⟨rfl, cn qz71 qz82 qz93 qz106 qz119⟩) | exact k129 0 (Or.inr ⟨rfl, fun z => Int32.not_le.mpr z.2.2 qz119⟩) | exact k129 0 (Or.inr ⟨rfl, fun z => Int32.not_le.mpr z.2.1 qz106⟩) | exact k129 0 (Or.inr ⟨rfl, fun z => qz93 z.1.2.2⟩) | exact k129 0 (Or.inr ⟨rfl, fun z => qz82 z.1.2.1⟩) | exact k129 0 (Or.inr ⟨rfl, fun z => qz71 z.1.1⟩)
  · skip
    refine rk_aload dL_isJoined_74 rfl ?_
    refine rk_iconst 1 dL_isJoined_76 (by decide) ?_
    refine rk_rn26 1 dL_isJoined_77 rfl (by first | decide | assumption | omega) ?_
    rw [fa 1 (by decide)]
    refine rk_aload dL_isJoined_78 rfl ?_
    refine rk_pc (pc' := 80) rfl ?_
    refine rk_iconst 1 dL_isJoined_80 (by decide) ?_
    refine rk_rn26 1 dL_isJoined_81 rfl (by first | decide | assumption | omega) ?_
    rw [fb 1 (by decide)]
    refine rk_icmp_ne 126 dL_isJoined_82 (by decide) (fun qz82 => ?_) (fun qz82 => ?_)
    · skip
      refine rk_iconst 0 dL_isJoined_126 (by decide) ?_
      refine rk_istore (ls' := [(6, _), (0, _), (1, _), (2, _), (3, _), (4, _), (5, _)]) dL_isJoined_127 (by decide) rfl ?_
      refine rk_ord [0, 1, 2, 3, 4, 5, 6] (ls' := [(0, _), (1, _), (2, _), (3, _), (4, _), (5, _), (6, _)]) rfl ?_
      first | exact k129 1 (Or.inl ⟨rfl, cn qz71 qz82 qz93 qz106 qz119⟩) | exact k129 0 (Or.inr ⟨rfl, fun z => Int32.not_le.mpr z.2.2 qz119⟩) | exact k129 0 (Or.inr ⟨rfl, fun z => Int32.not_le.mpr z.2.1 qz106⟩) | exact k129 0 (Or.inr ⟨rfl, fun z => qz93 z.1.2.2⟩) | exact k129 0 (Or.inr ⟨rfl, fun z => qz82 z.1.2.1⟩) | exact k129 0 (Or.inr ⟨rfl, fun z => qz71 z.1.1⟩)
    · skip
      refine rk_aload dL_isJoined_85 rfl ?_
      refine rk_iconst 2 dL_isJoined_87 (by decide) ?_
      refine rk_pc (pc' := 88) rfl ?_
      refine rk_rn26 2 dL_isJoined_88 rfl (by first | decide | assumption | omega) ?_
      rw [fa 2 (by decide)]
      refine rk_aload dL_isJoined_89 rfl ?_
      refine rk_iconst 2 dL_isJoined_91 (by decide) ?_
      refine rk_rn26 2 dL_isJoined_92 rfl (by first | decide | assumption | omega) ?_
      rw [fb 2 (by decide)]
      refine rk_icmp_ne 126 dL_isJoined_93 (by decide) (fun qz93 => ?_) (fun qz93 => ?_)
      · skip
        refine rk_iconst 0 dL_isJoined_126 (by decide) ?_
        refine rk_istore (ls' := [(6, _), (0, _), (1, _), (2, _), (3, _), (4, _), (5, _)]) dL_isJoined_127 (by decide) rfl ?_
        refine rk_pc (pc' := 129) rfl ?_
        refine rk_ord [0, 1, 2, 3, 4, 5, 6] (ls' := [(0, _), (1, _), (2, _), (3, _), (4, _), (5, _), (6, _)]) rfl ?_
        first | exact k129 1 (Or.inl ⟨rfl, cn qz71 qz82 qz93 qz106 qz119⟩) | exact k129 0 (Or.inr ⟨rfl, fun z => Int32.not_le.mpr z.2.2 qz119⟩) | exact k129 0 (Or.inr ⟨rfl, fun z => Int32.not_le.mpr z.2.1 qz106⟩) | exact k129 0 (Or.inr ⟨rfl, fun z => qz93 z.1.2.2⟩) | exact k129 0 (Or.inr ⟨rfl, fun z => qz82 z.1.2.1⟩) | exact k129 0 (Or.inr ⟨rfl, fun z => qz71 z.1.1⟩)
      · skip
        refine rk_aload dL_isJoined_96 rfl ?_
        refine rk_iconst 3 dL_isJoined_98 (by decide) ?_
        refine rk_rn26 3 dL_isJoined_99 rfl (by first | decide | assumption | omega) ?_
        rw [fa 3 (by decide)]
        refine rk_aload_n 0 dL_isJoined_100 rfl rfl ?_
        refine rk_bipush 13 dL_isJoined_101 (by decide) ?_
        refine rk_cVp (qc13 hY) rk_eX10_count rfl ⟨rfl, rfl⟩ rk_kL_8 dL_isJoined_103 rfl (by decide) (Nat.le_of_ble_eq_true rfl) hz ?_
        refine rk_pc (pc' := 106) rfl ?_
        refine rk_icmp_le 126 dL_isJoined_106 (by decide) (fun qz106 => ?_) (fun qz106 => ?_)
        · skip
          refine rk_iconst 0 dL_isJoined_126 (by decide) ?_
          refine rk_istore (ls' := [(6, _), (0, _), (1, _), (2, _), (3, _), (4, _), (5, _)]) dL_isJoined_127 (by decide) rfl ?_
          refine rk_ord [0, 1, 2, 3, 4, 5, 6] (ls' := [(0, _), (1, _), (2, _), (3, _), (4, _), (5, _), (6, _)]) rfl ?_
          first | exact k129 1 (Or.inl ⟨rfl, cn qz71 qz82 qz93 qz106 qz119⟩) | exact k129 0 (Or.inr ⟨rfl, fun z => Int32.not_le.mpr z.2.2 qz119⟩) | exact k129 0 (Or.inr ⟨rfl, fun z => Int32.not_le.mpr z.2.1 qz106⟩) | exact k129 0 (Or.inr ⟨rfl, fun z => qz93 z.1.2.2⟩) | exact k129 0 (Or.inr ⟨rfl, fun z => qz82 z.1.2.1⟩) | exact k129 0 (Or.inr ⟨rfl, fun z => qz71 z.1.1⟩)
        · skip
          refine rk_aload dL_isJoined_109 rfl ?_
          refine rk_iconst 3 dL_isJoined_111 (by decide) ?_
          refine rk_rn26 3 dL_isJoined_112 rfl (by first | decide | assumption | omega) ?_
          rw [fb 3 (by decide)]
          refine rk_aload_n 0 dL_isJoined_113 rfl rfl ?_
          refine rk_pc (pc' := 114) rfl ?_
          refine rk_bipush 13 dL_isJoined_114 (by decide) ?_
          refine rk_cVp (qc13 hY) rk_eX10_count rfl ⟨rfl, rfl⟩ rk_kL_8 dL_isJoined_116 rfl (by decide) (Nat.le_of_ble_eq_true rfl) hz ?_
          refine rk_icmp_le 126 dL_isJoined_119 (by decide) (fun qz119 => ?_) (fun qz119 => ?_)
          · skip
            refine rk_iconst 0 dL_isJoined_126 (by decide) ?_
            refine rk_istore (ls' := [(6, _), (0, _), (1, _), (2, _), (3, _), (4, _), (5, _)]) dL_isJoined_127 (by decide) rfl ?_
            refine rk_ord [0, 1, 2, 3, 4, 5, 6] (ls' := [(0, _), (1, _), (2, _), (3, _), (4, _), (5, _), (6, _)]) rfl ?_
            first | exact k129 1 (Or.inl ⟨rfl, cn qz71 qz82 qz93 qz106 qz119⟩) | exact k129 0 (Or.inr ⟨rfl, fun z => Int32.not_le.mpr z.2.2 qz119⟩) | exact k129 0 (Or.inr ⟨rfl, fun z => Int32.not_le.mpr z.2.1 qz106⟩) | exact k129 0 (Or.inr ⟨rfl, fun z => qz93 z.1.2.2⟩) | exact k129 0 (Or.inr ⟨rfl, fun z => qz82 z.1.2.1⟩) | exact k129 0 (Or.inr ⟨rfl, fun z => qz71 z.1.1⟩)
          · skip
            refine rk_iconst 1 dL_isJoined_122 (by decide) ?_
            refine rk_goto 127 dL_isJoined_123 (by decide) ?_
            refine rk_pc (pc' := 127) rfl ?_
            refine rk_istore (ls' := [(6, _), (0, _), (1, _), (2, _), (3, _), (4, _), (5, _)]) dL_isJoined_127 (by decide) rfl ?_
            refine rk_ord [0, 1, 2, 3, 4, 5, 6] (ls' := [(0, _), (1, _), (2, _), (3, _), (4, _), (5, _), (6, _)]) rfl ?_
            first | exact k129 1 (Or.inl ⟨rfl, cn qz71 qz82 qz93 qz106 qz119⟩) | exact k129 0 (Or.inr ⟨rfl, fun z => Int32.not_le.mpr z.2.2 qz119⟩) | exact k129 0 (Or.inr ⟨rfl, fun z => Int32.not_le.mpr z.2.1 qz106⟩) | exact k129 0 (Or.inr ⟨rfl, fun z => qz93 z.1.2.2⟩) | exact k129 0 (Or.inr ⟨rfl, fun z => qz82 z.1.2.1⟩) | exact k129 0 (Or.inr ⟨rfl, fun z => qz71 z.1.1⟩)
theorem cL_isJoined_s {a b c : Nat} (h : lX rg I R x k N) (hk : k ≤ 200) (hrg : ∀ q, Sh.2 q = 0 → rg q = 104) (hc : N 12 = nI c) (hc2 : c ≤ 24) (ha : a ≤ c) (hb : b ≤ c) : rk_N w l rk_mL_isJoined 8 2 16 [rk_a 11 x, rk_i (nI a), rk_i (nI b)] Sh I R (lZ rg x k) := by
  obtain ⟨hY, hsi, hd⟩ := h
  by_cases hgood : a < c ∧ b < c ∧ a ≠ b
  · obtain ⟨hac, hbc, hab⟩ := hgood
    have hA : ¬ nI c ≤ nI a := nI_ge (by omega) (by omega)
    have hB : ¬ nI c ≤ nI b := nI_ge (by omega) (by omega)
    have hne : ¬ nI a = nI b := fun z => hab ((nI_eq (by omega) (by omega)).mp z)
    have hv := hY.pv hc hc2
    obtain ⟨f, hf, ef⟩ := hv.2.2.1 a hac
    have hpc : sp_ispc N (nI a) ∧ sp_ispc N (nI b) ∧ nI a ≠ nI b := ⟨ispc_n hc hc2 hac, ispc_n hc hc2 hbc, hne⟩
    have ca : (nI a).toNatClampNeg = a := nI_clamp (by omega)
    have cb : (nI b).toNatClampNeg = b := nI_clamp (by omega)
    have hno : ¬ (sp_lk N a b ∧ N 4 < N (50 + 7 * a + 3) ∧ N 4 < N (50 + 7 * b + 3)) → sp_join N (nI a) (nI b) = (-5, none) := fun z => by
      unfold sp_join
      rw [if_pos hpc, ca, cb, if_neg z]
    have hyes : (sp_lk N a b ∧ N 4 < N (50 + 7 * a + 3) ∧ N 4 < N (50 + 7 * b + 3)) → ∀ lo hi, ((lo = a ∧ hi = b ∧ a < b) ∨ (lo = b ∧ hi = a ∧ b < a)) → sp_join N (nI a) (nI b) = (nI lo, some (sp_gone (sp_joinN N lo hi) 12 50 hi)) := fun z lo hi hm => by
      unfold sp_join
      rw [if_pos hpc, ca, cb, if_pos z]
      rcases hm with ⟨rfl, rfl, q⟩ | ⟨rfl, rfl, q⟩
      · rw [if_pos (nI_lt q (by omega))]
      · rw [if_neg (nI_nlt (by omega) (by omega))]
    refine rk_bN (ls := [(0, _), (1, _), (2, _)]) (by decide) rfl (Nat.le_of_ble_eq_true rfl) ?_
    refine rk_aload_n 0 dL_isJoined_0 rfl rfl ?_
    refine rk_iconst 1 dL_isJoined_1 (by decide) ?_
    refine rk_cVp (qc1 hY) rk_eX10_count rfl ⟨rfl, rfl⟩ rk_kL_8 dL_isJoined_2 rfl (by decide) (Nat.le_of_ble_eq_true rfl) ⟨Nat.le_of_ble_eq_true rfl, Nat.le_of_ble_eq_true rfl⟩ ?_
    rw [hc]
    refine rk_istore_n 3 (ls' := [(3, _), (0, _), (1, _), (2, _)]) dL_isJoined_5 rfl (by decide) rfl ?_
    refine rk_iload_n 1 dL_isJoined_6 rfl rfl ?_
    refine rk_iload_n 3 dL_isJoined_7 rfl rfl ?_
    refine rk_pc (pc' := 8) rfl ?_
    refine rk_icmp_ge 21 dL_isJoined_8 (by decide) (fun qz8 => ?_) (fun qz8 => ?_)
    · skip
      exact absurd qz8 hA
    · skip
      refine rk_iload_n 2 dL_isJoined_11 rfl rfl ?_
      refine rk_iload_n 3 dL_isJoined_12 rfl rfl ?_
      refine rk_icmp_ge 21 dL_isJoined_13 (by decide) (fun qz13 => ?_) (fun qz13 => ?_)
      · skip
        exact absurd qz13 hB
      · skip
        refine rk_iload_n 1 dL_isJoined_16 rfl rfl ?_
        refine rk_iload_n 2 dL_isJoined_17 rfl rfl ?_
        refine rk_icmp_ne 37 dL_isJoined_18 (by decide) (fun qz18 => ?_) (fun qz18 => ?_)
        · skip
          refine rk_bipush 8 dL_isJoined_37 (by decide) ?_
          refine rk_nb26 (by decide) (by exact Nat.le_of_ble_eq_true rfl) (by exact Nat.le_of_ble_eq_true rfl) dL_isJoined_39 (fun nz1 hn1 => ?_)
          refine rk_astore (ls' := [(4, _), (3, _), (0, _), (1, _), (2, _)]) dL_isJoined_41 (by decide) rfl ?_
          refine rk_pc (pc' := 43) rfl ?_
          refine rk_bipush 8 dL_isJoined_43 (by decide) ?_
          refine rk_nb26 (by decide) (by exact Nat.le_of_ble_eq_true rfl) (by exact Nat.le_of_ble_eq_true rfl) dL_isJoined_45 (fun nz2 hn2 => ?_)
          have g1 : rg nz1 = 104 := hrg nz1 hn1.1
          have g2 : rg nz2 = 104 := hrg nz2 (rk_nS_0 (by decide) hn2.1).2
          have n12 : nz2 ≠ nz1 := (rk_nS_0 (by decide) hn2.1).1
          have hk2 : ∀ q, Sh.2 q ≠ 0 → (rk_nS (rk_nS Sh nz1 26) nz2 26).2 q = Sh.2 q := fun q hq => (rk_nS_k hn2.1 (by rw [rk_nS_k hn1.1 hq]; exact hq)).trans (rk_nS_k hn1.1 hq)
          have hY1 : lY rg (rk_nI (rk_nI I nz1) nz2) R x (k : Int) N := (hY.mf (rk_nI_f g1)).mf (rk_nI_f g2)
          refine rk_astore (ls' := [(5, _), (4, _), (3, _), (0, _), (1, _), (2, _)]) dL_isJoined_47 (by decide) rfl ?_
          refine rk_aload_n 0 dL_isJoined_49 rfl rfl ?_
          refine rk_iload_n 1 dL_isJoined_50 rfl rfl ?_
          refine rk_aload dL_isJoined_51 rfl ?_
          refine rk_cSv (cL_lay_s hY1 hc hc2 hac g1) rk_eL_lay rfl rk_kL_51 dL_isJoined_53 rfl (by decide) (Nat.le_of_ble_eq_true rfl) ⟨Nat.le_of_ble_eq_true rfl, Nat.le_of_ble_eq_true rfl⟩ (fun Iz1 Rz1 hz1 => ?_)
          obtain ⟨eR1, Fa, eA, hFa⟩ := hz1
          obtain rfl := eR1.symm
          have hY2 : lY rg Iz1 R x (k : Int) N := hY1.mf (by rw [eA]; exact cl_fr.ma g1)
          refine rk_pc (pc' := 56) rfl ?_
          refine rk_aload_n 0 dL_isJoined_56 rfl rfl ?_
          refine rk_iload_n 2 dL_isJoined_57 rfl rfl ?_
          refine rk_aload dL_isJoined_58 rfl ?_
          refine rk_cSv (cL_lay_s hY2 hc hc2 hbc g2) rk_eL_lay rfl rk_kL_51 dL_isJoined_60 rfl (by decide) (Nat.le_of_ble_eq_true rfl) ⟨Nat.le_of_ble_eq_true rfl, Nat.le_of_ble_eq_true rfl⟩ (fun Iz2 Rz2 hz2 => ?_)
          obtain ⟨eR2, Fb, eB, hFb⟩ := hz2
          obtain rfl := eR2.symm
          have hY3 : lY rg Iz2 R x (k : Int) N := hY2.mf (by rw [eB]; exact cl_fr.ma g2)
          have pa : ∀ j, j < 8 → Iz2 26 nz1 j = pv N a j := fun j hj => by rw [eB, md_an (fun z => n12 z.2.symm), eA, md_as]; exact hFa j hj
          have pb : ∀ j, j < 8 → Iz2 26 nz2 j = pv N b j := fun j hj => by rw [eB, md_as]; exact hFb j hj
          refine rk_ord [0, 1, 2, 3, 4, 5] (ls' := [(0, _), (1, _), (2, _), (3, _), (4, _), (5, _)]) rfl ?_
          exact cL_isJoined_k (by omega) hY3 hsi hd hk hc hc2 hac hbc hab hf ef hno hyes g1 g2 pa pb ⟨Nat.le_of_ble_eq_true rfl, Nat.le_of_ble_eq_true rfl⟩ hk2
        · skip
          exact absurd qz18 hne
  · have hsp : sp_join N (nI a) (nI b) = (-1, none) := by
      unfold sp_join
      rw [if_neg (fun z => hgood ⟨?_, ?_, fun q => z.2.2 (by rw [q])⟩)]
      · exact Classical.byContradiction (fun q => ispc_no hc hc2 (Nat.le_of_not_lt q) (by omega) z.1)
      · exact Classical.byContradiction (fun q => ispc_no hc hc2 (Nat.le_of_not_lt q) (by omega) z.2.1)
    have hbad : a < c → b < c → nI a = nI b := fun z1 z2 => congrArg nI (Classical.byContradiction (fun q => hgood ⟨z1, z2, q⟩))
    refine rk_bN (ls := [(0, _), (1, _), (2, _)]) (by decide) rfl (Nat.le_of_ble_eq_true rfl) ?_
    refine rk_aload_n 0 dL_isJoined_0 rfl rfl ?_
    refine rk_iconst 1 dL_isJoined_1 (by decide) ?_
    refine rk_cVp (qc1 hY) rk_eX10_count rfl ⟨rfl, rfl⟩ rk_kL_8 dL_isJoined_2 rfl (by decide) (Nat.le_of_ble_eq_true rfl) ⟨Nat.le_of_ble_eq_true rfl, Nat.le_of_ble_eq_true rfl⟩ ?_
    rw [hc]
    refine rk_istore_n 3 (ls' := [(3, _), (0, _), (1, _), (2, _)]) dL_isJoined_5 rfl (by decide) rfl ?_
    refine rk_iload_n 1 dL_isJoined_6 rfl rfl ?_
    refine rk_iload_n 3 dL_isJoined_7 rfl rfl ?_
    refine rk_pc (pc' := 8) rfl ?_
    refine rk_icmp_ge 21 dL_isJoined_8 (by decide) (fun qz8 => ?_) (fun qz8 => ?_)
    · skip
      refine rk_aload_n 0 dL_isJoined_21 rfl rfl ?_
      refine rk_iload_n 1 dL_isJoined_22 rfl rfl ?_
      refine rk_iload_n 2 dL_isJoined_23 rfl rfl ?_
      refine rk_cVi (lq_join (by omega) hY _ _) rk_eX10_join rfl ⟨rfl, rfl⟩ rk_kL_48 dL_isJoined_24 rfl (by decide) (Nat.le_of_ble_eq_true rfl) ⟨Nat.le_of_ble_eq_true rfl, Nat.le_of_ble_eq_true rfl⟩ (fun xz1 Iz1 Rz1 hz1 => ?_)
      rw [hsp] at hz1
      obtain ⟨ex, hY2, -⟩ := hz1
      have hY3 : lY rg Iz1 Rz1 x ((k : Int) + 1) N := hY2
      refine rk_iconst (-1) dL_isJoined_27 (by decide) ?_
      refine rk_icmp_ne 35 dL_isJoined_28 (by decide) (fun qz28 => ?_) (fun qz28 => ?_)
      · skip
        exact absurd ex qz28
      · skip
        refine rk_iconst 1 dL_isJoined_31 (by decide) ?_
        refine rk_pc (pc' := 32) rfl ?_
        refine rk_goto 36 dL_isJoined_32 (by decide) ?_
        refine rk_iretN dL_isJoined_36 rfl (by decide) ?_
        exact ⟨⟨Nat.le_of_ble_eq_true rfl, Nat.le_of_ble_eq_true rfl⟩, fun _ _ => rfl, rfl, N, lX.of hY3 hsi hd⟩
    · skip
      refine rk_iload_n 2 dL_isJoined_11 rfl rfl ?_
      refine rk_iload_n 3 dL_isJoined_12 rfl rfl ?_
      refine rk_icmp_ge 21 dL_isJoined_13 (by decide) (fun qz13 => ?_) (fun qz13 => ?_)
      · skip
        refine rk_aload_n 0 dL_isJoined_21 rfl rfl ?_
        refine rk_iload_n 1 dL_isJoined_22 rfl rfl ?_
        refine rk_iload_n 2 dL_isJoined_23 rfl rfl ?_
        refine rk_pc (pc' := 24) rfl ?_
        refine rk_cVi (lq_join (by omega) hY _ _) rk_eX10_join rfl ⟨rfl, rfl⟩ rk_kL_48 dL_isJoined_24 rfl (by decide) (Nat.le_of_ble_eq_true rfl) ⟨Nat.le_of_ble_eq_true rfl, Nat.le_of_ble_eq_true rfl⟩ (fun xz1 Iz1 Rz1 hz1 => ?_)
        rw [hsp] at hz1
        obtain ⟨ex, hY2, -⟩ := hz1
        have hY3 : lY rg Iz1 Rz1 x ((k : Int) + 1) N := hY2
        refine rk_iconst (-1) dL_isJoined_27 (by decide) ?_
        refine rk_icmp_ne 35 dL_isJoined_28 (by decide) (fun qz28 => ?_) (fun qz28 => ?_)
        · skip
          exact absurd ex qz28
        · skip
          refine rk_iconst 1 dL_isJoined_31 (by decide) ?_
          refine rk_goto 36 dL_isJoined_32 (by decide) ?_
          refine rk_iretN dL_isJoined_36 rfl (by decide) ?_
          exact ⟨⟨Nat.le_of_ble_eq_true rfl, Nat.le_of_ble_eq_true rfl⟩, fun _ _ => rfl, rfl, N, lX.of hY3 hsi hd⟩
      · skip
        refine rk_iload_n 1 dL_isJoined_16 rfl rfl ?_
        refine rk_iload_n 2 dL_isJoined_17 rfl rfl ?_
        refine rk_pc (pc' := 18) rfl ?_
        refine rk_icmp_ne 37 dL_isJoined_18 (by decide) (fun qz18 => ?_) (fun qz18 => ?_)
        · skip
          exact absurd (hbad (rk_le_of (by omega) qz8) (rk_le_of (by omega) qz13)) qz18
        · skip
          refine rk_aload_n 0 dL_isJoined_21 rfl rfl ?_
          refine rk_iload_n 1 dL_isJoined_22 rfl rfl ?_
          refine rk_iload_n 2 dL_isJoined_23 rfl rfl ?_
          refine rk_cVi (lq_join (by omega) hY _ _) rk_eX10_join rfl ⟨rfl, rfl⟩ rk_kL_48 dL_isJoined_24 rfl (by decide) (Nat.le_of_ble_eq_true rfl) ⟨Nat.le_of_ble_eq_true rfl, Nat.le_of_ble_eq_true rfl⟩ (fun xz1 Iz1 Rz1 hz1 => ?_)
          rw [hsp] at hz1
          obtain ⟨ex, hY2, -⟩ := hz1
          have hY3 : lY rg Iz1 Rz1 x ((k : Int) + 1) N := hY2
          refine rk_iconst (-1) dL_isJoined_27 (by decide) ?_
          refine rk_icmp_ne 35 dL_isJoined_28 (by decide) (fun qz28 => ?_) (fun qz28 => ?_)
          · skip
            exact absurd ex qz28
          · skip
            refine rk_iconst 1 dL_isJoined_31 (by decide) ?_
            refine rk_pc (pc' := 32) rfl ?_
            refine rk_goto 36 dL_isJoined_32 (by decide) ?_
            refine rk_iretN dL_isJoined_36 rfl (by decide) ?_
            exact ⟨⟨Nat.le_of_ble_eq_true rfl, Nat.le_of_ble_eq_true rfl⟩, fun _ _ => rfl, rfl, N, lX.of hY3 hsi hd⟩
end PJ

