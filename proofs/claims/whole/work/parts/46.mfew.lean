section MF
variable {w : rk_W} {l : Launch} {Sh : rk_Sh} {I : rk_Mm} {R : rk_Rm}
def sp_can2 (N U : Nat → Int32) (p k : Nat) : Prop := U k = 0 ∧ N 4 < N (50 + 7 * k + 3) ∧ N 4 < N (50 + 7 * p + 3) ∧ N (50 + 7 * k + 0) = N (50 + 7 * p + 0) ∧ N (50 + 7 * k + 1) = N (50 + 7 * p + 1) ∧ N (50 + 7 * k + 2) = N (50 + 7 * p + 2)
/-- the longest piece that may be joined to piece p next, of the first k -/
noncomputable def sp_nx (N U : Nat → Int32) (p : Nat) : Nat → Int32
  | 0 => -6
  | k + 1 => @ite _ (sp_can2 N U p k ∧ (sp_nx N U p k < 0 ∨ N (50 + 7 * (sp_nx N U p k).toNatClampNeg + 3) < N (50 + 7 * k + 3))) (Classical.propDecidable _) (nI k) (sp_nx N U p k)
theorem sp_nx_in {N U : Nat → Int32} {p : Nat} : ∀ k, k ≤ 24 → sp_nx N U p k = -6 ∨ ∃ q, q < k ∧ sp_nx N U p k = nI q ∧ sp_can2 N U p q := by
  intro k
  induction k with
  | zero => intro _; exact Or.inl rfl
  | succ k ih =>
    intro hk
    by_cases h : sp_can2 N U p k ∧ (sp_nx N U p k < 0 ∨ N (50 + 7 * (sp_nx N U p k).toNatClampNeg + 3) < N (50 + 7 * k + 3))
    · exact Or.inr ⟨k, by omega, if_pos h, h.1⟩
    · have e : sp_nx N U p (k + 1) = sp_nx N U p k := if_neg h
      rw [e]
      rcases ih (by omega) with h | ⟨q, h1, h2⟩
      · exact Or.inl h
      · exact Or.inr ⟨q, by omega, h2⟩
noncomputable def sp_z (U : Nat → Int32) : Nat → Nat
  | 0 => 0
  | k + 1 => sp_z U k + if U k = 0 then 1 else 0
theorem sp_z_le {U : Nat → Int32} : ∀ k, sp_z U k ≤ k := by
  intro k
  induction k with
  | zero => exact Nat.le_refl _
  | succ k ih => simp only [sp_z]; split <;> omega
theorem sp_z_c {U V : Nat → Int32} : ∀ k, (∀ j, j < k → U j = V j) → sp_z U k = sp_z V k := by
  intro k
  induction k with
  | zero => intro _; rfl
  | succ k ih => intro h; simp only [sp_z]; rw [ih (fun j hj => h j (by omega)), h k (by omega)]
theorem sp_z_u {U : Nat → Int32} {q : Nat} (h0 : U q = 0) : ∀ k, q < k → sp_z (sp_u U q 1) k + 1 = sp_z U k := by
  intro k
  induction k with
  | zero => intro h; omega
  | succ k ih =>
    intro h
    simp only [sp_z]
    by_cases hq : q = k
    · subst hq
      rw [sp_us, if_neg (by decide), if_pos h0, sp_z_c (U := sp_u U q 1) (V := U) q (fun j hj => sp_un (by omega))]
    · rw [sp_un (by omega)]
      have := ih (by omega)
      omega
noncomputable def sp_fj (N : Nat → Int32) (p c : Nat) (feet : Int32) : Nat → (Nat → Int32) → Int32 → Nat → Int32
  | 0, _, _, _ => -6
  | f + 1, U, len, n => @ite _ (feet ≤ len) (Classical.propDecidable _) (nI n) (@ite _ (sp_nx N U p c < 0) (Classical.propDecidable _) (-6) (sp_fj N p c feet f (sp_u U (sp_nx N U p c).toNatClampNeg 1) (len + (N (50 + 7 * (sp_nx N U p c).toNatClampNeg + 3) - N 4)) (n + 1)))
theorem cX11_few_in {m p c : Nat} {x ln nn : Int32} {N U : Nat → Int32} {G : List Frame → Array Value → State → State → Prop} (hp : p < 24) (hc : c ≤ 24) (J : rk_Mm) (ha : J 26 (R 12 m 0) = N) (h12 : N 12 = nI c) (hU : J 32 (R 12 m 9) = U) (hk : rk_Wp w l rk_mX11_fewestJoined 3 0 0 G 238 [(0, rk_a 12 m), (1, rk_i (nI p)), (2, rk_i x), (3, rk_i ln), (4, rk_i nn), (5, rk_i (sp_nx N U p c))] [] (Sh, 0, 0) J R) : ∀ n k : Nat, k + n = c → rk_Wp w l rk_mX11_fewestJoined 3 0 0 G 76 [(0, rk_a 12 m), (1, rk_i (nI p)), (2, rk_i x), (3, rk_i ln), (4, rk_i nn), (5, rk_i (sp_nx N U p k)), (6, rk_i (nI k))] [] (Sh, 0, 0) J R := by
  intro n
  induction n with
  | zero =>
    intro k hkc
    obtain rfl : k = c := by omega
    refine rk_iload dX11_fewestJoined_76 rfl ?_
    refine rk_aload_n 0 dX11_fewestJoined_78 rfl rfl ?_
    refine rk_g12_0 rk_kX11_7 dX11_fewestJoined_79 ?_
    refine rk_bipush 12 dX11_fewestJoined_82 (by decide) ?_
    refine rk_rn26 12 dX11_fewestJoined_84 rfl (by first | decide | assumption | omega) ?_
    rw [ha, h12]
    refine rk_icmp_ge 238 dX11_fewestJoined_85 (by decide) (fun qz85 => ?_) (fun qz85 => ?_)
    · skip
      refine rk_ord [0, 1, 2, 3, 4, 5] (ls' := [(0, _), (1, _), (2, _), (3, _), (4, _), (5, _)]) rfl ?_
      exact hk
    · skip
      exact absurd (nI_le (Nat.le_refl k) (by omega)) qz85
  | succ n ih =>
    intro k hkc
    have hlt : ¬ nI c ≤ nI k := nI_ge (by omega) (by omega)
    have hin := sp_nx_in (N := N) (U := U) (p := p) k (by omega)
    have hU0 : ∀ h : (U k = 0), U k = 0 := fun h => h
    have yes : sp_can2 N U p k → (sp_nx N U p k < 0 ∨ N (50 + 7 * (sp_nx N U p k).toNatClampNeg + 3) < N (50 + 7 * k + 3)) → sp_nx N U p (k + 1) = nI k := fun h h2 => if_pos ⟨h, h2⟩
    have no : ¬ (sp_can2 N U p k ∧ (sp_nx N U p k < 0 ∨ N (50 + 7 * (sp_nx N U p k).toNatClampNeg + 3) < N (50 + 7 * k + 3))) → sp_nx N U p (k + 1) = sp_nx N U p k := fun h => if_neg h
    refine rk_iload dX11_fewestJoined_76 rfl ?_
    refine rk_aload_n 0 dX11_fewestJoined_78 rfl rfl ?_
    refine rk_g12_0 rk_kX11_7 dX11_fewestJoined_79 ?_
    refine rk_bipush 12 dX11_fewestJoined_82 (by decide) ?_
    refine rk_rn26 12 dX11_fewestJoined_84 rfl (by first | decide | assumption | omega) ?_
    rw [ha, h12]
    refine rk_icmp_ge 238 dX11_fewestJoined_85 (by decide) (fun qz85 => ?_) (fun qz85 => ?_)
    · skip
      exact absurd qz85 hlt
    · skip
      refine rk_aload_n 0 dX11_fewestJoined_88 rfl rfl ?_
      refine rk_pc (pc' := 89) rfl ?_
      refine rk_g12_9 rk_kX11_29 dX11_fewestJoined_89 ?_
      refine rk_iload dX11_fewestJoined_92 rfl ?_
      refine rk_rn32 (k) dX11_fewestJoined_94 (by first | rfl | decide | assumption | (simp only [rk_lit, nI_add, pk_mul, nI_1]; done) | (simp only [rk_lit, nI_add, pk_mul, nI_1]; congr 1; omega)) (by first | decide | assumption | omega) ?_
      rw [hU]
      refine rk_if_ne 133 dX11_fewestJoined_95 (by decide) (fun qz95 => ?_) (fun qz95 => ?_)
      · skip
        refine rk_iconst 0 dX11_fewestJoined_133 (by decide) ?_
        refine rk_istore (ls' := [(7, _), (0, _), (1, _), (2, _), (3, _), (4, _), (5, _), (6, _)]) dX11_fewestJoined_134 (by decide) rfl ?_
        refine rk_iload dX11_fewestJoined_136 rfl ?_
        refine rk_pc (pc' := 138) rfl ?_
        refine rk_if_eq 193 dX11_fewestJoined_138 (by decide) (fun qz138 => ?_) (fun qz138 => ?_)
        · skip
          refine rk_iconst 0 dX11_fewestJoined_193 (by decide) ?_
          refine rk_istore (ls' := [(7, _), (0, _), (1, _), (2, _), (3, _), (4, _), (5, _), (6, _)]) dX11_fewestJoined_194 (by decide) rfl ?_
          refine rk_iload dX11_fewestJoined_196 rfl ?_
          refine rk_if_eq 228 dX11_fewestJoined_198 (by decide) (fun qz198 => ?_) (fun qz198 => ?_)
          · skip
            refine rk_iload dX11_fewestJoined_228 rfl ?_
            refine rk_istore (ls' := [(5, _), (7, _), (0, _), (1, _), (2, _), (3, _), (4, _), (6, _)]) dX11_fewestJoined_230 (by decide) rfl ?_
            refine rk_iinc 1 (ls' := [(6, _), (5, _), (7, _), (0, _), (1, _), (2, _), (3, _), (4, _)]) dX11_fewestJoined_232 (by decide) rfl (by decide) rfl ?_
            refine rk_pc (pc' := 235) rfl ?_
            refine rk_goto 76 dX11_fewestJoined_235 (by decide) ?_
            refine rk_ord [0, 1, 2, 3, 4, 5, 6] (ls' := [(0, _), (1, _), (2, _), (3, _), (4, _), (5, _), (6, _)]) rfl ?_
            rw [nI_1]
            first | (have e := yes ⟨qz95, Int32.not_le.mp qz111, Int32.not_le.mp qz126, qz154, qz170, qz186⟩ (Or.inl qz203); have g := ih (k + 1) (by omega); rw [e] at g; exact g) | (have e := yes ⟨qz95, Int32.not_le.mp qz111, Int32.not_le.mp qz126, qz154, qz170, qz186⟩ (Or.inr (by rw [hqn, nI_clamp (by omega)]; exact Int32.not_le.mp qz220)); have g := ih (k + 1) (by omega); rw [e] at g; exact g) | (have e := no (fun z => z.2.elim (fun y => qz203 y) (fun y => by rw [hqn, nI_clamp (by omega)] at y; exact Int32.not_lt.mpr qz220 y)); have g := ih (k + 1) (by omega); rw [e, hqn] at g; exact g) | (have e := no (fun z => qz95 z.1.1); have g := ih (k + 1) (by omega); rw [e] at g; exact g) | (have e := no (fun z => Int32.not_lt.mpr qz111 z.1.2.1); have g := ih (k + 1) (by omega); rw [e] at g; exact g) | (have e := no (fun z => Int32.not_lt.mpr qz126 z.1.2.2.1); have g := ih (k + 1) (by omega); rw [e] at g; exact g) | (have e := no (fun z => qz154 z.1.2.2.2.1); have g := ih (k + 1) (by omega); rw [e] at g; exact g) | (have e := no (fun z => qz170 z.1.2.2.2.2.1); have g := ih (k + 1) (by omega); rw [e] at g; exact g) | (have e := no (fun z => qz186 z.1.2.2.2.2.2); have g := ih (k + 1) (by omega); rw [e] at g; exact g)
          · skip
            exact absurd qz198 (by decide)
        · skip
          exact absurd qz138 (by decide)
      · skip
        refine rk_aload_n 0 dX11_fewestJoined_98 rfl rfl ?_
        refine rk_iload dX11_fewestJoined_99 rfl ?_
        refine rk_iconst 3 dX11_fewestJoined_101 (by decide) ?_
        refine rk_cVp (cX11_ofPiece_s k 3 rfl rfl (by omega) (by decide)) rk_eX11_ofPiece rfl ⟨rfl, rfl⟩ rk_kX11_91 dX11_fewestJoined_102 rfl (by decide) (Nat.le_of_ble_eq_true rfl) ⟨Nat.le_refl _, Nat.le_refl _⟩ ?_
        rw [ha]
        refine rk_aload_n 0 dX11_fewestJoined_105 rfl rfl ?_
        refine rk_pc (pc' := 106) rfl ?_
        refine rk_g12_0 rk_kX11_7 dX11_fewestJoined_106 ?_
        refine rk_iconst 4 dX11_fewestJoined_109 (by decide) ?_
        refine rk_rn26 4 dX11_fewestJoined_110 rfl (by first | decide | assumption | omega) ?_
        rw [ha]
        refine rk_icmp_le 133 dX11_fewestJoined_111 (by decide) (fun qz111 => ?_) (fun qz111 => ?_)
        · skip
          refine rk_iconst 0 dX11_fewestJoined_133 (by decide) ?_
          refine rk_istore (ls' := [(7, _), (0, _), (1, _), (2, _), (3, _), (4, _), (5, _), (6, _)]) dX11_fewestJoined_134 (by decide) rfl ?_
          refine rk_iload dX11_fewestJoined_136 rfl ?_
          refine rk_pc (pc' := 138) rfl ?_
          refine rk_if_eq 193 dX11_fewestJoined_138 (by decide) (fun qz138 => ?_) (fun qz138 => ?_)
          · skip
            refine rk_iconst 0 dX11_fewestJoined_193 (by decide) ?_
            refine rk_istore (ls' := [(7, _), (0, _), (1, _), (2, _), (3, _), (4, _), (5, _), (6, _)]) dX11_fewestJoined_194 (by decide) rfl ?_
            refine rk_iload dX11_fewestJoined_196 rfl ?_
            refine rk_if_eq 228 dX11_fewestJoined_198 (by decide) (fun qz198 => ?_) (fun qz198 => ?_)
            · skip
              refine rk_iload dX11_fewestJoined_228 rfl ?_
              refine rk_istore (ls' := [(5, _), (7, _), (0, _), (1, _), (2, _), (3, _), (4, _), (6, _)]) dX11_fewestJoined_230 (by decide) rfl ?_
              refine rk_iinc 1 (ls' := [(6, _), (5, _), (7, _), (0, _), (1, _), (2, _), (3, _), (4, _)]) dX11_fewestJoined_232 (by decide) rfl (by decide) rfl ?_
              refine rk_pc (pc' := 235) rfl ?_
              refine rk_goto 76 dX11_fewestJoined_235 (by decide) ?_
              refine rk_ord [0, 1, 2, 3, 4, 5, 6] (ls' := [(0, _), (1, _), (2, _), (3, _), (4, _), (5, _), (6, _)]) rfl ?_
              rw [nI_1]
              first | (have e := yes ⟨qz95, Int32.not_le.mp qz111, Int32.not_le.mp qz126, qz154, qz170, qz186⟩ (Or.inl qz203); have g := ih (k + 1) (by omega); rw [e] at g; exact g) | (have e := yes ⟨qz95, Int32.not_le.mp qz111, Int32.not_le.mp qz126, qz154, qz170, qz186⟩ (Or.inr (by rw [hqn, nI_clamp (by omega)]; exact Int32.not_le.mp qz220)); have g := ih (k + 1) (by omega); rw [e] at g; exact g) | (have e := no (fun z => z.2.elim (fun y => qz203 y) (fun y => by rw [hqn, nI_clamp (by omega)] at y; exact Int32.not_lt.mpr qz220 y)); have g := ih (k + 1) (by omega); rw [e, hqn] at g; exact g) | (have e := no (fun z => qz95 z.1.1); have g := ih (k + 1) (by omega); rw [e] at g; exact g) | (have e := no (fun z => Int32.not_lt.mpr qz111 z.1.2.1); have g := ih (k + 1) (by omega); rw [e] at g; exact g) | (have e := no (fun z => Int32.not_lt.mpr qz126 z.1.2.2.1); have g := ih (k + 1) (by omega); rw [e] at g; exact g) | (have e := no (fun z => qz154 z.1.2.2.2.1); have g := ih (k + 1) (by omega); rw [e] at g; exact g) | (have e := no (fun z => qz170 z.1.2.2.2.2.1); have g := ih (k + 1) (by omega); rw [e] at g; exact g) | (have e := no (fun z => qz186 z.1.2.2.2.2.2); have g := ih (k + 1) (by omega); rw [e] at g; exact g)
            · skip
              exact absurd qz198 (by decide)
          · skip
            exact absurd qz138 (by decide)
        · skip
          refine rk_aload_n 0 dX11_fewestJoined_114 rfl rfl ?_
          refine rk_iload_n 1 dX11_fewestJoined_115 rfl rfl ?_
          refine rk_iconst 3 dX11_fewestJoined_116 (by decide) ?_
          refine rk_cVp (cX11_ofPiece_s p 3 rfl rfl (by omega) (by decide)) rk_eX11_ofPiece rfl ⟨rfl, rfl⟩ rk_kX11_91 dX11_fewestJoined_117 rfl (by decide) (Nat.le_of_ble_eq_true rfl) ⟨Nat.le_refl _, Nat.le_refl _⟩ ?_
          rw [ha]
          refine rk_aload_n 0 dX11_fewestJoined_120 rfl rfl ?_
          refine rk_pc (pc' := 121) rfl ?_
          refine rk_g12_0 rk_kX11_7 dX11_fewestJoined_121 ?_
          refine rk_iconst 4 dX11_fewestJoined_124 (by decide) ?_
          refine rk_rn26 4 dX11_fewestJoined_125 rfl (by first | decide | assumption | omega) ?_
          rw [ha]
          refine rk_icmp_le 133 dX11_fewestJoined_126 (by decide) (fun qz126 => ?_) (fun qz126 => ?_)
          · skip
            refine rk_iconst 0 dX11_fewestJoined_133 (by decide) ?_
            refine rk_istore (ls' := [(7, _), (0, _), (1, _), (2, _), (3, _), (4, _), (5, _), (6, _)]) dX11_fewestJoined_134 (by decide) rfl ?_
            refine rk_iload dX11_fewestJoined_136 rfl ?_
            refine rk_pc (pc' := 138) rfl ?_
            refine rk_if_eq 193 dX11_fewestJoined_138 (by decide) (fun qz138 => ?_) (fun qz138 => ?_)
            · skip
              refine rk_iconst 0 dX11_fewestJoined_193 (by decide) ?_
              refine rk_istore (ls' := [(7, _), (0, _), (1, _), (2, _), (3, _), (4, _), (5, _), (6, _)]) dX11_fewestJoined_194 (by decide) rfl ?_
              refine rk_iload dX11_fewestJoined_196 rfl ?_
              refine rk_if_eq 228 dX11_fewestJoined_198 (by decide) (fun qz198 => ?_) (fun qz198 => ?_)
              · skip
                refine rk_iload dX11_fewestJoined_228 rfl ?_
                refine rk_istore (ls' := [(5, _), (7, _), (0, _), (1, _), (2, _), (3, _), (4, _), (6, _)]) dX11_fewestJoined_230 (by decide) rfl ?_
                refine rk_iinc 1 (ls' := [(6, _), (5, _), (7, _), (0, _), (1, _), (2, _), (3, _), (4, _)]) dX11_fewestJoined_232 (by decide) rfl (by decide) rfl ?_
                refine rk_pc (pc' := 235) rfl ?_
                refine rk_goto 76 dX11_fewestJoined_235 (by decide) ?_
                refine rk_ord [0, 1, 2, 3, 4, 5, 6] (ls' := [(0, _), (1, _), (2, _), (3, _), (4, _), (5, _), (6, _)]) rfl ?_
                rw [nI_1]
                first | (have e := yes ⟨qz95, Int32.not_le.mp qz111, Int32.not_le.mp qz126, qz154, qz170, qz186⟩ (Or.inl qz203); have g := ih (k + 1) (by omega); rw [e] at g; exact g) | (have e := yes ⟨qz95, Int32.not_le.mp qz111, Int32.not_le.mp qz126, qz154, qz170, qz186⟩ (Or.inr (by rw [hqn, nI_clamp (by omega)]; exact Int32.not_le.mp qz220)); have g := ih (k + 1) (by omega); rw [e] at g; exact g) | (have e := no (fun z => z.2.elim (fun y => qz203 y) (fun y => by rw [hqn, nI_clamp (by omega)] at y; exact Int32.not_lt.mpr qz220 y)); have g := ih (k + 1) (by omega); rw [e, hqn] at g; exact g) | (have e := no (fun z => qz95 z.1.1); have g := ih (k + 1) (by omega); rw [e] at g; exact g) | (have e := no (fun z => Int32.not_lt.mpr qz111 z.1.2.1); have g := ih (k + 1) (by omega); rw [e] at g; exact g) | (have e := no (fun z => Int32.not_lt.mpr qz126 z.1.2.2.1); have g := ih (k + 1) (by omega); rw [e] at g; exact g) | (have e := no (fun z => qz154 z.1.2.2.2.1); have g := ih (k + 1) (by omega); rw [e] at g; exact g) | (have e := no (fun z => qz170 z.1.2.2.2.2.1); have g := ih (k + 1) (by omega); rw [e] at g; exact g) | (have e := no (fun z => qz186 z.1.2.2.2.2.2); have g := ih (k + 1) (by omega); rw [e] at g; exact g)
              · skip
                exact absurd qz198 (by decide)
            · skip
              exact absurd qz138 (by decide)
          · skip
            refine rk_iconst 1 dX11_fewestJoined_129 (by decide) ?_
            refine rk_goto 134 dX11_fewestJoined_130 (by decide) ?_
            refine rk_istore (ls' := [(7, _), (0, _), (1, _), (2, _), (3, _), (4, _), (5, _), (6, _)]) dX11_fewestJoined_134 (by decide) rfl ?_
            refine rk_iload dX11_fewestJoined_136 rfl ?_
            refine rk_if_eq 193 dX11_fewestJoined_138 (by decide) (fun qz138 => ?_) (fun qz138 => ?_)
            · skip
              exact absurd qz138 (by decide)
            · skip
              refine rk_aload_n 0 dX11_fewestJoined_141 rfl rfl ?_
              refine rk_pc (pc' := 142) rfl ?_
              refine rk_iload dX11_fewestJoined_142 rfl ?_
              refine rk_iconst 0 dX11_fewestJoined_144 (by decide) ?_
              refine rk_cVp (cX11_ofPiece_s k 0 rfl rfl (by omega) (by decide)) rk_eX11_ofPiece rfl ⟨rfl, rfl⟩ rk_kX11_91 dX11_fewestJoined_145 rfl (by decide) (Nat.le_of_ble_eq_true rfl) ⟨Nat.le_refl _, Nat.le_refl _⟩ ?_
              rw [ha]
              refine rk_aload_n 0 dX11_fewestJoined_148 rfl rfl ?_
              refine rk_iload_n 1 dX11_fewestJoined_149 rfl rfl ?_
              refine rk_iconst 0 dX11_fewestJoined_150 (by decide) ?_
              refine rk_pc (pc' := 151) rfl ?_
              refine rk_cVp (cX11_ofPiece_s p 0 rfl rfl (by omega) (by decide)) rk_eX11_ofPiece rfl ⟨rfl, rfl⟩ rk_kX11_91 dX11_fewestJoined_151 rfl (by decide) (Nat.le_of_ble_eq_true rfl) ⟨Nat.le_refl _, Nat.le_refl _⟩ ?_
              rw [ha]
              refine rk_icmp_ne 193 dX11_fewestJoined_154 (by decide) (fun qz154 => ?_) (fun qz154 => ?_)
              · skip
                refine rk_iconst 0 dX11_fewestJoined_193 (by decide) ?_
                refine rk_istore (ls' := [(7, _), (0, _), (1, _), (2, _), (3, _), (4, _), (5, _), (6, _)]) dX11_fewestJoined_194 (by decide) rfl ?_
                refine rk_iload dX11_fewestJoined_196 rfl ?_
                refine rk_if_eq 228 dX11_fewestJoined_198 (by decide) (fun qz198 => ?_) (fun qz198 => ?_)
                · skip
                  refine rk_iload dX11_fewestJoined_228 rfl ?_
                  refine rk_istore (ls' := [(5, _), (7, _), (0, _), (1, _), (2, _), (3, _), (4, _), (6, _)]) dX11_fewestJoined_230 (by decide) rfl ?_
                  refine rk_pc (pc' := 232) rfl ?_
                  refine rk_iinc 1 (ls' := [(6, _), (5, _), (7, _), (0, _), (1, _), (2, _), (3, _), (4, _)]) dX11_fewestJoined_232 (by decide) rfl (by decide) rfl ?_
                  refine rk_goto 76 dX11_fewestJoined_235 (by decide) ?_
                  refine rk_ord [0, 1, 2, 3, 4, 5, 6] (ls' := [(0, _), (1, _), (2, _), (3, _), (4, _), (5, _), (6, _)]) rfl ?_
                  rw [nI_1]
                  first | (have e := yes ⟨qz95, Int32.not_le.mp qz111, Int32.not_le.mp qz126, qz154, qz170, qz186⟩ (Or.inl qz203); have g := ih (k + 1) (by omega); rw [e] at g; exact g) | (have e := yes ⟨qz95, Int32.not_le.mp qz111, Int32.not_le.mp qz126, qz154, qz170, qz186⟩ (Or.inr (by rw [hqn, nI_clamp (by omega)]; exact Int32.not_le.mp qz220)); have g := ih (k + 1) (by omega); rw [e] at g; exact g) | (have e := no (fun z => z.2.elim (fun y => qz203 y) (fun y => by rw [hqn, nI_clamp (by omega)] at y; exact Int32.not_lt.mpr qz220 y)); have g := ih (k + 1) (by omega); rw [e, hqn] at g; exact g) | (have e := no (fun z => qz95 z.1.1); have g := ih (k + 1) (by omega); rw [e] at g; exact g) | (have e := no (fun z => Int32.not_lt.mpr qz111 z.1.2.1); have g := ih (k + 1) (by omega); rw [e] at g; exact g) | (have e := no (fun z => Int32.not_lt.mpr qz126 z.1.2.2.1); have g := ih (k + 1) (by omega); rw [e] at g; exact g) | (have e := no (fun z => qz154 z.1.2.2.2.1); have g := ih (k + 1) (by omega); rw [e] at g; exact g) | (have e := no (fun z => qz170 z.1.2.2.2.2.1); have g := ih (k + 1) (by omega); rw [e] at g; exact g) | (have e := no (fun z => qz186 z.1.2.2.2.2.2); have g := ih (k + 1) (by omega); rw [e] at g; exact g)
                · skip
                  exact absurd qz198 (by decide)
              · skip
                refine rk_aload_n 0 dX11_fewestJoined_157 rfl rfl ?_
                refine rk_iload dX11_fewestJoined_158 rfl ?_
                refine rk_iconst 1 dX11_fewestJoined_160 (by decide) ?_
                refine rk_cVp (cX11_ofPiece_s k 1 rfl rfl (by omega) (by decide)) rk_eX11_ofPiece rfl ⟨rfl, rfl⟩ rk_kX11_91 dX11_fewestJoined_161 rfl (by decide) (Nat.le_of_ble_eq_true rfl) ⟨Nat.le_refl _, Nat.le_refl _⟩ ?_
                rw [ha]
                refine rk_pc (pc' := 164) rfl ?_
                refine rk_aload_n 0 dX11_fewestJoined_164 rfl rfl ?_
                refine rk_iload_n 1 dX11_fewestJoined_165 rfl rfl ?_
                refine rk_iconst 1 dX11_fewestJoined_166 (by decide) ?_
                refine rk_cVp (cX11_ofPiece_s p 1 rfl rfl (by omega) (by decide)) rk_eX11_ofPiece rfl ⟨rfl, rfl⟩ rk_kX11_91 dX11_fewestJoined_167 rfl (by decide) (Nat.le_of_ble_eq_true rfl) ⟨Nat.le_refl _, Nat.le_refl _⟩ ?_
                rw [ha]
                refine rk_icmp_ne 193 dX11_fewestJoined_170 (by decide) (fun qz170 => ?_) (fun qz170 => ?_)
                · skip
                  refine rk_iconst 0 dX11_fewestJoined_193 (by decide) ?_
                  refine rk_istore (ls' := [(7, _), (0, _), (1, _), (2, _), (3, _), (4, _), (5, _), (6, _)]) dX11_fewestJoined_194 (by decide) rfl ?_
                  refine rk_pc (pc' := 196) rfl ?_
                  refine rk_iload dX11_fewestJoined_196 rfl ?_
                  refine rk_if_eq 228 dX11_fewestJoined_198 (by decide) (fun qz198 => ?_) (fun qz198 => ?_)
                  · skip
                    refine rk_iload dX11_fewestJoined_228 rfl ?_
                    refine rk_istore (ls' := [(5, _), (7, _), (0, _), (1, _), (2, _), (3, _), (4, _), (6, _)]) dX11_fewestJoined_230 (by decide) rfl ?_
                    refine rk_iinc 1 (ls' := [(6, _), (5, _), (7, _), (0, _), (1, _), (2, _), (3, _), (4, _)]) dX11_fewestJoined_232 (by decide) rfl (by decide) rfl ?_
                    refine rk_goto 76 dX11_fewestJoined_235 (by decide) ?_
                    refine rk_ord [0, 1, 2, 3, 4, 5, 6] (ls' := [(0, _), (1, _), (2, _), (3, _), (4, _), (5, _), (6, _)]) rfl ?_
                    rw [nI_1]
                    first | (have e := yes ⟨qz95, Int32.not_le.mp qz111, Int32.not_le.mp qz126, qz154, qz170, qz186⟩ (Or.inl qz203); have g := ih (k + 1) (by omega); rw [e] at g; exact g) | (have e := yes ⟨qz95, Int32.not_le.mp qz111, Int32.not_le.mp qz126, qz154, qz170, qz186⟩ (Or.inr (by rw [hqn, nI_clamp (by omega)]; exact Int32.not_le.mp qz220)); have g := ih (k + 1) (by omega); rw [e] at g; exact g) | (have e := no (fun z => z.2.elim (fun y => qz203 y) (fun y => by rw [hqn, nI_clamp (by omega)] at y; exact Int32.not_lt.mpr qz220 y)); have g := ih (k + 1) (by omega); rw [e, hqn] at g; exact g) | (have e := no (fun z => qz95 z.1.1); have g := ih (k + 1) (by omega); rw [e] at g; exact g) | (have e := no (fun z => Int32.not_lt.mpr qz111 z.1.2.1); have g := ih (k + 1) (by omega); rw [e] at g; exact g) | (have e := no (fun z => Int32.not_lt.mpr qz126 z.1.2.2.1); have g := ih (k + 1) (by omega); rw [e] at g; exact g) | (have e := no (fun z => qz154 z.1.2.2.2.1); have g := ih (k + 1) (by omega); rw [e] at g; exact g) | (have e := no (fun z => qz170 z.1.2.2.2.2.1); have g := ih (k + 1) (by omega); rw [e] at g; exact g) | (have e := no (fun z => qz186 z.1.2.2.2.2.2); have g := ih (k + 1) (by omega); rw [e] at g; exact g)
                  · skip
                    exact absurd qz198 (by decide)
                · skip
                  refine rk_aload_n 0 dX11_fewestJoined_173 rfl rfl ?_
                  refine rk_pc (pc' := 174) rfl ?_
                  refine rk_iload dX11_fewestJoined_174 rfl ?_
                  refine rk_iconst 2 dX11_fewestJoined_176 (by decide) ?_
                  refine rk_cVp (cX11_ofPiece_s k 2 rfl rfl (by omega) (by decide)) rk_eX11_ofPiece rfl ⟨rfl, rfl⟩ rk_kX11_91 dX11_fewestJoined_177 rfl (by decide) (Nat.le_of_ble_eq_true rfl) ⟨Nat.le_refl _, Nat.le_refl _⟩ ?_
                  rw [ha]
                  refine rk_aload_n 0 dX11_fewestJoined_180 rfl rfl ?_
                  refine rk_iload_n 1 dX11_fewestJoined_181 rfl rfl ?_
                  refine rk_iconst 2 dX11_fewestJoined_182 (by decide) ?_
                  refine rk_pc (pc' := 183) rfl ?_
                  refine rk_cVp (cX11_ofPiece_s p 2 rfl rfl (by omega) (by decide)) rk_eX11_ofPiece rfl ⟨rfl, rfl⟩ rk_kX11_91 dX11_fewestJoined_183 rfl (by decide) (Nat.le_of_ble_eq_true rfl) ⟨Nat.le_refl _, Nat.le_refl _⟩ ?_
                  rw [ha]
                  refine rk_icmp_ne 193 dX11_fewestJoined_186 (by decide) (fun qz186 => ?_) (fun qz186 => ?_)
                  · skip
                    refine rk_iconst 0 dX11_fewestJoined_193 (by decide) ?_
                    refine rk_istore (ls' := [(7, _), (0, _), (1, _), (2, _), (3, _), (4, _), (5, _), (6, _)]) dX11_fewestJoined_194 (by decide) rfl ?_
                    refine rk_iload dX11_fewestJoined_196 rfl ?_
                    refine rk_if_eq 228 dX11_fewestJoined_198 (by decide) (fun qz198 => ?_) (fun qz198 => ?_)
                    · skip
                      refine rk_iload dX11_fewestJoined_228 rfl ?_
                      refine rk_istore (ls' := [(5, _), (7, _), (0, _), (1, _), (2, _), (3, _), (4, _), (6, _)]) dX11_fewestJoined_230 (by decide) rfl ?_
                      refine rk_pc (pc' := 232) rfl ?_
                      refine rk_iinc 1 (ls' := [(6, _), (5, _), (7, _), (0, _), (1, _), (2, _), (3, _), (4, _)]) dX11_fewestJoined_232 (by decide) rfl (by decide) rfl ?_
                      refine rk_goto 76 dX11_fewestJoined_235 (by decide) ?_
                      refine rk_ord [0, 1, 2, 3, 4, 5, 6] (ls' := [(0, _), (1, _), (2, _), (3, _), (4, _), (5, _), (6, _)]) rfl ?_
                      rw [nI_1]
                      first | (have e := yes ⟨qz95, Int32.not_le.mp qz111, Int32.not_le.mp qz126, qz154, qz170, qz186⟩ (Or.inl qz203); have g := ih (k + 1) (by omega); rw [e] at g; exact g) | (have e := yes ⟨qz95, Int32.not_le.mp qz111, Int32.not_le.mp qz126, qz154, qz170, qz186⟩ (Or.inr (by rw [hqn, nI_clamp (by omega)]; exact Int32.not_le.mp qz220)); have g := ih (k + 1) (by omega); rw [e] at g; exact g) | (have e := no (fun z => z.2.elim (fun y => qz203 y) (fun y => by rw [hqn, nI_clamp (by omega)] at y; exact Int32.not_lt.mpr qz220 y)); have g := ih (k + 1) (by omega); rw [e, hqn] at g; exact g) | (have e := no (fun z => qz95 z.1.1); have g := ih (k + 1) (by omega); rw [e] at g; exact g) | (have e := no (fun z => Int32.not_lt.mpr qz111 z.1.2.1); have g := ih (k + 1) (by omega); rw [e] at g; exact g) | (have e := no (fun z => Int32.not_lt.mpr qz126 z.1.2.2.1); have g := ih (k + 1) (by omega); rw [e] at g; exact g) | (have e := no (fun z => qz154 z.1.2.2.2.1); have g := ih (k + 1) (by omega); rw [e] at g; exact g) | (have e := no (fun z => qz170 z.1.2.2.2.2.1); have g := ih (k + 1) (by omega); rw [e] at g; exact g) | (have e := no (fun z => qz186 z.1.2.2.2.2.2); have g := ih (k + 1) (by omega); rw [e] at g; exact g)
                    · skip
                      exact absurd qz198 (by decide)
                  · skip
                    refine rk_iconst 1 dX11_fewestJoined_189 (by decide) ?_
                    refine rk_goto 194 dX11_fewestJoined_190 (by decide) ?_
                    refine rk_istore (ls' := [(7, _), (0, _), (1, _), (2, _), (3, _), (4, _), (5, _), (6, _)]) dX11_fewestJoined_194 (by decide) rfl ?_
                    refine rk_iload dX11_fewestJoined_196 rfl ?_
                    refine rk_pc (pc' := 198) rfl ?_
                    refine rk_if_eq 228 dX11_fewestJoined_198 (by decide) (fun qz198 => ?_) (fun qz198 => ?_)
                    · skip
                      exact absurd qz198 (by decide)
                    · skip
                      refine rk_iload dX11_fewestJoined_201 rfl ?_
                      refine rk_if_lt 223 dX11_fewestJoined_203 (by decide) (fun qz203 => ?_) (fun qz203 => ?_)
                      · skip
                        refine rk_iload dX11_fewestJoined_223 rfl ?_
                        refine rk_goto 230 dX11_fewestJoined_225 (by decide) ?_
                        refine rk_istore (ls' := [(5, _), (7, _), (0, _), (1, _), (2, _), (3, _), (4, _), (6, _)]) dX11_fewestJoined_230 (by decide) rfl ?_
                        refine rk_iinc 1 (ls' := [(6, _), (5, _), (7, _), (0, _), (1, _), (2, _), (3, _), (4, _)]) dX11_fewestJoined_232 (by decide) rfl (by decide) rfl ?_
                        refine rk_goto 76 dX11_fewestJoined_235 (by decide) ?_
                        refine rk_pc (pc' := 76) rfl ?_
                        refine rk_ord [0, 1, 2, 3, 4, 5, 6] (ls' := [(0, _), (1, _), (2, _), (3, _), (4, _), (5, _), (6, _)]) rfl ?_
                        rw [nI_1]
                        first | (have e := yes ⟨qz95, Int32.not_le.mp qz111, Int32.not_le.mp qz126, qz154, qz170, qz186⟩ (Or.inl qz203); have g := ih (k + 1) (by omega); rw [e] at g; exact g) | (have e := yes ⟨qz95, Int32.not_le.mp qz111, Int32.not_le.mp qz126, qz154, qz170, qz186⟩ (Or.inr (by rw [hqn, nI_clamp (by omega)]; exact Int32.not_le.mp qz220)); have g := ih (k + 1) (by omega); rw [e] at g; exact g) | (have e := no (fun z => z.2.elim (fun y => qz203 y) (fun y => by rw [hqn, nI_clamp (by omega)] at y; exact Int32.not_lt.mpr qz220 y)); have g := ih (k + 1) (by omega); rw [e, hqn] at g; exact g) | (have e := no (fun z => qz95 z.1.1); have g := ih (k + 1) (by omega); rw [e] at g; exact g) | (have e := no (fun z => Int32.not_lt.mpr qz111 z.1.2.1); have g := ih (k + 1) (by omega); rw [e] at g; exact g) | (have e := no (fun z => Int32.not_lt.mpr qz126 z.1.2.2.1); have g := ih (k + 1) (by omega); rw [e] at g; exact g) | (have e := no (fun z => qz154 z.1.2.2.2.1); have g := ih (k + 1) (by omega); rw [e] at g; exact g) | (have e := no (fun z => qz170 z.1.2.2.2.2.1); have g := ih (k + 1) (by omega); rw [e] at g; exact g) | (have e := no (fun z => qz186 z.1.2.2.2.2.2); have g := ih (k + 1) (by omega); rw [e] at g; exact g)
                      · skip
                        obtain ⟨q, hq, hqn⟩ : ∃ q, q < k ∧ sp_nx N U p k = nI q := hin.elim (fun z => absurd (by rw [z]; exact rk_n6) qz203) (fun ⟨q, h1, h2, _⟩ => ⟨q, h1, h2⟩)
                        rw [hqn]
                        refine rk_aload_n 0 dX11_fewestJoined_206 rfl rfl ?_
                        refine rk_iload dX11_fewestJoined_207 rfl ?_
                        refine rk_iconst 3 dX11_fewestJoined_209 (by decide) ?_
                        refine rk_cVp (cX11_ofPiece_s k 3 rfl rfl (by omega) (by decide)) rk_eX11_ofPiece rfl ⟨rfl, rfl⟩ rk_kX11_91 dX11_fewestJoined_210 rfl (by decide) (Nat.le_of_ble_eq_true rfl) ⟨Nat.le_refl _, Nat.le_refl _⟩ ?_
                        rw [ha]
                        refine rk_aload_n 0 dX11_fewestJoined_213 rfl rfl ?_
                        refine rk_iload dX11_fewestJoined_214 rfl ?_
                        refine rk_pc (pc' := 216) rfl ?_
                        refine rk_iconst 3 dX11_fewestJoined_216 (by decide) ?_
                        refine rk_cVp (cX11_ofPiece_s q 3 rfl rfl (by omega) (by decide)) rk_eX11_ofPiece rfl ⟨rfl, rfl⟩ rk_kX11_91 dX11_fewestJoined_217 rfl (by decide) (Nat.le_of_ble_eq_true rfl) ⟨Nat.le_refl _, Nat.le_refl _⟩ ?_
                        rw [ha]
                        refine rk_icmp_le 228 dX11_fewestJoined_220 (by decide) (fun qz220 => ?_) (fun qz220 => ?_)
                        · skip
                          refine rk_iload dX11_fewestJoined_228 rfl ?_
                          refine rk_istore (ls' := [(5, _), (7, _), (0, _), (1, _), (2, _), (3, _), (4, _), (6, _)]) dX11_fewestJoined_230 (by decide) rfl ?_
                          refine rk_iinc 1 (ls' := [(6, _), (5, _), (7, _), (0, _), (1, _), (2, _), (3, _), (4, _)]) dX11_fewestJoined_232 (by decide) rfl (by decide) rfl ?_
                          refine rk_goto 76 dX11_fewestJoined_235 (by decide) ?_
                          refine rk_pc (pc' := 76) rfl ?_
                          refine rk_ord [0, 1, 2, 3, 4, 5, 6] (ls' := [(0, _), (1, _), (2, _), (3, _), (4, _), (5, _), (6, _)]) rfl ?_
                          rw [nI_1]
                          first | (have e := yes ⟨qz95, Int32.not_le.mp qz111, Int32.not_le.mp qz126, qz154, qz170, qz186⟩ (Or.inl qz203); have g := ih (k + 1) (by omega); rw [e] at g; exact g) | (have e := yes ⟨qz95, Int32.not_le.mp qz111, Int32.not_le.mp qz126, qz154, qz170, qz186⟩ (Or.inr (by rw [hqn, nI_clamp (by omega)]; exact Int32.not_le.mp qz220)); have g := ih (k + 1) (by omega); rw [e] at g; exact g) | (have e := no (fun z => z.2.elim (fun y => qz203 y) (fun y => by rw [hqn, nI_clamp (by omega)] at y; exact Int32.not_lt.mpr qz220 y)); have g := ih (k + 1) (by omega); rw [e, hqn] at g; exact g) | (have e := no (fun z => qz95 z.1.1); have g := ih (k + 1) (by omega); rw [e] at g; exact g) | (have e := no (fun z => Int32.not_lt.mpr qz111 z.1.2.1); have g := ih (k + 1) (by omega); rw [e] at g; exact g) | (have e := no (fun z => Int32.not_lt.mpr qz126 z.1.2.2.1); have g := ih (k + 1) (by omega); rw [e] at g; exact g) | (have e := no (fun z => qz154 z.1.2.2.2.1); have g := ih (k + 1) (by omega); rw [e] at g; exact g) | (have e := no (fun z => qz170 z.1.2.2.2.2.1); have g := ih (k + 1) (by omega); rw [e] at g; exact g) | (have e := no (fun z => qz186 z.1.2.2.2.2.2); have g := ih (k + 1) (by omega); rw [e] at g; exact g)
                        · skip
                          refine rk_iload dX11_fewestJoined_223 rfl ?_
                          refine rk_goto 230 dX11_fewestJoined_225 (by decide) ?_
                          refine rk_istore (ls' := [(5, _), (7, _), (0, _), (1, _), (2, _), (3, _), (4, _), (6, _)]) dX11_fewestJoined_230 (by decide) rfl ?_
                          refine rk_iinc 1 (ls' := [(6, _), (5, _), (7, _), (0, _), (1, _), (2, _), (3, _), (4, _)]) dX11_fewestJoined_232 (by decide) rfl (by decide) rfl ?_
                          refine rk_goto 76 dX11_fewestJoined_235 (by decide) ?_
                          refine rk_ord [0, 1, 2, 3, 4, 5, 6] (ls' := [(0, _), (1, _), (2, _), (3, _), (4, _), (5, _), (6, _)]) rfl ?_
                          rw [nI_1]
                          first | (have e := yes ⟨qz95, Int32.not_le.mp qz111, Int32.not_le.mp qz126, qz154, qz170, qz186⟩ (Or.inl qz203); have g := ih (k + 1) (by omega); rw [e] at g; exact g) | (have e := yes ⟨qz95, Int32.not_le.mp qz111, Int32.not_le.mp qz126, qz154, qz170, qz186⟩ (Or.inr (by rw [hqn, nI_clamp (by omega)]; exact Int32.not_le.mp qz220)); have g := ih (k + 1) (by omega); rw [e] at g; exact g) | (have e := no (fun z => z.2.elim (fun y => qz203 y) (fun y => by rw [hqn, nI_clamp (by omega)] at y; exact Int32.not_lt.mpr qz220 y)); have g := ih (k + 1) (by omega); rw [e, hqn] at g; exact g) | (have e := no (fun z => qz95 z.1.1); have g := ih (k + 1) (by omega); rw [e] at g; exact g) | (have e := no (fun z => Int32.not_lt.mpr qz111 z.1.2.1); have g := ih (k + 1) (by omega); rw [e] at g; exact g) | (have e := no (fun z => Int32.not_lt.mpr qz126 z.1.2.2.1); have g := ih (k + 1) (by omega); rw [e] at g; exact g) | (have e := no (fun z => qz154 z.1.2.2.2.1); have g := ih (k + 1) (by omega); rw [e] at g; exact g) | (have e := no (fun z => qz170 z.1.2.2.2.2.1); have g := ih (k + 1) (by omega); rw [e] at g; exact g) | (have e := no (fun z => qz186 z.1.2.2.2.2.2); have g := ih (k + 1) (by omega); rw [e] at g; exact g)
theorem cX11_few_t {m p c f n : Nat} {feet ln z : Int32} {N U : Nat → Int32} {A J : rk_Mm} (hp : p < c) (hc : c ≤ 24) (hA : A 26 (R 12 m 0) = N) (hz : sp_z U c < f + 1) (hJ : J = md_a A 32 (R 12 m 9) U) (hzz : z = @ite _ (sp_nx N U p c < 0) (Classical.propDecidable _) (-6) (sp_fj N p c feet f (sp_u U (sp_nx N U p c).toNatClampNeg 1) (ln + (N (50 + 7 * (sp_nx N U p c).toNatClampNeg + 3) - N 4)) (n + 1))) (ih : ∀ (U : Nat → Int32) (ln : Int32) (n : Nat) (J : rk_Mm), sp_z U c < f → J = md_a A 32 (R 12 m 9) U → z = sp_fj N p c feet f U ln n → rk_Wp w l rk_mX11_fewestJoined 3 0 0 (rk_GJ w Sh (fun r I' R' => r = z ∧ R' = R ∧ ∃ K, I' = md_a A 32 (R 12 m 9) K)) 64 [(0, rk_a 12 m), (1, rk_i (nI p)), (2, rk_i feet), (3, rk_i ln), (4, rk_i (nI n))] [] (Sh, 0, 0) J R) : rk_Wp w l rk_mX11_fewestJoined 3 0 0 (rk_GJ w Sh (fun r I' R' => r = z ∧ R' = R ∧ ∃ K, I' = md_a A 32 (R 12 m 9) K)) 238 [(0, rk_a 12 m), (1, rk_i (nI p)), (2, rk_i feet), (3, rk_i ln), (4, rk_i (nI n)), (5, rk_i (sp_nx N U p c))] [] (Sh, 0, 0) J R := by
  have hJa : J 26 (R 12 m 0) = N := by rw [hJ, md_ac (by decide), hA]
  rcases sp_nx_in (N := N) (U := U) (p := p) c hc with hb | ⟨q, hq, hb, hcan⟩
  · have hlt : sp_nx N U p c < 0 := by rw [hb]; exact rk_n6
    refine rk_iload dX11_fewestJoined_238 rfl ?_
    refine rk_if_ge 246 dX11_fewestJoined_240 (by decide) (fun qz240 => ?_) (fun qz240 => ?_)
    · skip
      exact absurd hlt (Int32.not_lt.mpr qz240)
    · skip
      refine rk_bipush (-6) dX11_fewestJoined_243 (by decide) ?_
      refine rk_iretJ dX11_fewestJoined_245 rfl rfl ?_
      exact ⟨(hzz.trans (if_pos hlt)).symm, rfl, U, hJ⟩
  · have hnl : ¬ sp_nx N U p c < 0 := by rw [hb]; exact nI_pos (by omega)
    have hcl : (sp_nx N U p c).toNatClampNeg = q := by rw [hb]; exact nI_clamp (by omega)
    have hz2 := hzz.trans (if_neg hnl)
    rw [hcl] at hz2
    refine rk_iload dX11_fewestJoined_238 rfl ?_
    refine rk_if_ge 246 dX11_fewestJoined_240 (by decide) (fun qz240 => ?_) (fun qz240 => ?_)
    · skip
      rw [hb]
      refine rk_aload_n 0 dX11_fewestJoined_246 rfl rfl ?_
      refine rk_g12_9 rk_kX11_29 dX11_fewestJoined_247 ?_
      refine rk_iload dX11_fewestJoined_250 rfl ?_
      refine rk_iconst 1 dX11_fewestJoined_252 (by decide) ?_
      refine rk_sn32 (q) dX11_fewestJoined_253 (by first | rfl | decide | assumption | (simp only [rk_lit, nI_add, pk_mul, nI_1]; done) | (simp only [rk_lit, nI_add, pk_mul, nI_1]; congr 1; omega)) (by first | decide | assumption | omega) (fun Iz1 eIz1 => ?_)
      refine rk_pc (pc' := 254) rfl ?_
      refine rk_iload_n 3 dX11_fewestJoined_254 rfl rfl ?_
      refine rk_aload_n 0 dX11_fewestJoined_255 rfl rfl ?_
      refine rk_iload dX11_fewestJoined_256 rfl ?_
      refine rk_iconst 3 dX11_fewestJoined_258 (by decide) ?_
      refine rk_cVp (cX11_ofPiece_s q 3 rfl rfl (by omega) (by decide)) rk_eX11_ofPiece rfl ⟨rfl, rfl⟩ rk_kX11_91 dX11_fewestJoined_259 rfl (by decide) (Nat.le_of_ble_eq_true rfl) ⟨Nat.le_refl _, Nat.le_refl _⟩ ?_
      rw [show Iz1 26 (R 12 m 0) = N by rw [eIz1, md_u1, md_ac (by decide), hJa]]
      refine rk_aload_n 0 dX11_fewestJoined_262 rfl rfl ?_
      refine rk_pc (pc' := 263) rfl ?_
      refine rk_g12_0 rk_kX11_7 dX11_fewestJoined_263 ?_
      refine rk_iconst 4 dX11_fewestJoined_266 (by decide) ?_
      refine rk_rn26 4 dX11_fewestJoined_267 rfl (by first | decide | assumption | omega) ?_
      rw [show Iz1 26 (R 12 m 0) = N by rw [eIz1, md_u1, md_ac (by decide), hJa]]
      refine rk_isub dX11_fewestJoined_268 ?_
      refine rk_iadd dX11_fewestJoined_269 ?_
      refine rk_istore_n 3 (ls' := [(3, _), (0, _), (1, _), (2, _), (4, _), (5, _)]) dX11_fewestJoined_270 rfl (by decide) rfl ?_
      refine rk_pc (pc' := 271) rfl ?_
      refine rk_iinc 1 (ls' := [(4, _), (3, _), (0, _), (1, _), (2, _), (5, _)]) dX11_fewestJoined_271 (by decide) rfl (by decide) rfl ?_
      refine rk_goto 64 dX11_fewestJoined_274 (by decide) ?_
      refine rk_ord [0, 1, 2, 3, 4] (ls' := [(0, _), (1, _), (2, _), (3, _), (4, _)]) rfl ?_
      rw [nI_1]
      have hzu := sp_z_u hcan.1 c hq
      exact ih (sp_u U q 1) _ (n + 1) Iz1 (by omega) (by rw [eIz1, hJ, md_u]; rfl) hz2
    · skip
      exact absurd (Int32.not_lt.mp hnl) qz240
theorem cX11_few_l {m p c : Nat} {feet : Int32} {N : Nat → Int32} (hp : p < c) (hc : c ≤ 24) (h12 : N 12 = nI c) (A : rk_Mm) (hA : A 26 (R 12 m 0) = N) (z : Int32) : ∀ (f : Nat) (U : Nat → Int32) (ln : Int32) (n : Nat) (J : rk_Mm), sp_z U c < f → J = md_a A 32 (R 12 m 9) U → z = sp_fj N p c feet f U ln n → rk_Wp w l rk_mX11_fewestJoined 3 0 0 (rk_GJ w Sh (fun r I' R' => r = z ∧ R' = R ∧ ∃ K, I' = md_a A 32 (R 12 m 9) K)) 64 [(0, rk_a 12 m), (1, rk_i (nI p)), (2, rk_i feet), (3, rk_i ln), (4, rk_i (nI n))] [] (Sh, 0, 0) J R := by
  intro f
  induction f with
  | zero => intro U ln n J hz; omega
  | succ f ih =>
    intro U ln n J hz hJ hzz
    have hJa : J 26 (R 12 m 0) = N := by rw [hJ, md_ac (by decide), hA]
    have hJU : J 32 (R 12 m 9) = U := by rw [hJ, md_as]
    have hin := sp_nx_in (N := N) (U := U) (p := p) c hc
    refine rk_iload_n 3 dX11_fewestJoined_64 rfl rfl ?_
    refine rk_iload_n 2 dX11_fewestJoined_65 rfl rfl ?_
    refine rk_icmp_ge 277 dX11_fewestJoined_66 (by decide) (fun qz66 => ?_) (fun qz66 => ?_)
    · skip
      refine rk_iload dX11_fewestJoined_277 rfl ?_
      refine rk_iretJ dX11_fewestJoined_279 rfl rfl ?_
      exact ⟨(hzz.trans (if_pos qz66)).symm, rfl, U, hJ⟩
    · skip
      refine rk_bipush (-6) dX11_fewestJoined_69 (by decide) ?_
      refine rk_istore (ls' := [(5, _), (0, _), (1, _), (2, _), (3, _), (4, _)]) dX11_fewestJoined_71 (by decide) rfl ?_
      refine rk_iconst 0 dX11_fewestJoined_73 (by decide) ?_
      refine rk_pc (pc' := 74) rfl ?_
      refine rk_istore (ls' := [(6, _), (5, _), (0, _), (1, _), (2, _), (3, _), (4, _)]) dX11_fewestJoined_74 (by decide) rfl ?_
      refine rk_ord [0, 1, 2, 3, 4, 5, 6] (ls' := [(0, _), (1, _), (2, _), (3, _), (4, _), (5, _), (6, _)]) rfl ?_
      refine cX11_few_in (by omega) hc J hJa h12 hJU ?_ c 0 (by omega)
      exact cX11_few_t hp hc hA hz hJ (hzz.trans (if_neg qz66)) ih
theorem cX11_few_l1 {m p : Nat} {feet : Int32} {G : List Frame → Array Value → State → State → Prop} (hp : p < 24) (hk : ∀ (J : rk_Mm) (F : Nat → Int32), J = md_a I 32 (R 12 m 9) F → (∀ j, j < 24 → F j = if j = p then 1 else 0) → rk_Wp w l rk_mX11_fewestJoined 3 0 0 G 54 [(0, rk_a 12 m), (1, rk_i (nI p)), (2, rk_i feet)] [] (Sh, 0, 0) J R) : ∀ (n k : Nat) (F : Nat → Int32) (J : rk_Mm), k + n = 24 → J = md_a I 32 (R 12 m 9) F → (∀ j, j < k → F j = if j = p then 1 else 0) → rk_Wp w l rk_mX11_fewestJoined 3 0 0 G 26 [(0, rk_a 12 m), (1, rk_i (nI p)), (2, rk_i feet), (3, rk_i (nI k))] [] (Sh, 0, 0) J R := by
  intro n
  induction n with
  | zero =>
    intro k F J hkn hJ hF
    obtain rfl : k = 24 := by omega
    refine rk_iload_n 3 dX11_fewestJoined_26 rfl rfl ?_
    refine rk_bipush 24 dX11_fewestJoined_27 (by decide) ?_
    refine rk_icmp_ge 54 dX11_fewestJoined_29 (by decide) (fun qz29 => ?_) (fun qz29 => ?_)
    · skip
      refine rk_ord [0, 1, 2] (ls' := [(0, _), (1, _), (2, _)]) rfl ?_
      exact hk J F hJ hF
    · skip
      exact absurd (by decide) qz29
  | succ n ih =>
    intro k F J hkn hJ hF
    have hlt : ¬ (24 : Int32) ≤ nI k := nI_ge (b := 24) (by omega) (by decide)
    refine rk_iload_n 3 dX11_fewestJoined_26 rfl rfl ?_
    refine rk_bipush 24 dX11_fewestJoined_27 (by decide) ?_
    refine rk_icmp_ge 54 dX11_fewestJoined_29 (by decide) (fun qz29 => ?_) (fun qz29 => ?_)
    · skip
      exact absurd qz29 hlt
    · skip
      refine rk_aload_n 0 dX11_fewestJoined_32 rfl rfl ?_
      refine rk_g12_9 rk_kX11_29 dX11_fewestJoined_33 ?_
      refine rk_iload_n 3 dX11_fewestJoined_36 rfl rfl ?_
      refine rk_iload_n 3 dX11_fewestJoined_37 rfl rfl ?_
      refine rk_pc (pc' := 38) rfl ?_
      refine rk_iload_n 1 dX11_fewestJoined_38 rfl rfl ?_
      refine rk_icmp_ne 46 dX11_fewestJoined_39 (by decide) (fun qz39 => ?_) (fun qz39 => ?_)
      · skip
        refine rk_iconst 0 dX11_fewestJoined_46 (by decide) ?_
        refine rk_sn32 (k) dX11_fewestJoined_47 (by first | rfl | decide | assumption | (simp only [rk_lit, nI_add, pk_mul, nI_1]; done) | (simp only [rk_lit, nI_add, pk_mul, nI_1]; congr 1; omega)) (by first | decide | assumption | omega) (fun Iz1 eIz1 => ?_)
        refine rk_iinc 1 (ls' := [(3, _), (0, _), (1, _), (2, _)]) dX11_fewestJoined_48 (by decide) rfl (by decide) rfl ?_
        refine rk_goto 26 dX11_fewestJoined_51 (by decide) ?_
        refine rk_ord [0, 1, 2, 3] (ls' := [(0, _), (1, _), (2, _), (3, _)]) rfl ?_
        rw [nI_1]
        first | (refine ih (k + 1) (sp_u F k 1) Iz1 (by omega) (by rw [eIz1, hJ, md_u]; rfl) (fun j hj => ?_); obtain rfl : k = p := (nI_eq (by omega) (by omega)).mp qz39; by_cases h : j = k; (rw [h, sp_us, if_pos rfl]); (rw [sp_un h]; exact hF j (by omega))) | (refine ih (k + 1) (sp_u F k 0) Iz1 (by omega) (by rw [eIz1, hJ, md_u]; rfl) (fun j hj => ?_); by_cases h : j = k; (rw [h, sp_us, if_neg (fun z => qz39 (by rw [z]))]); (rw [sp_un h]; exact hF j (by omega)))
      · skip
        refine rk_iconst 1 dX11_fewestJoined_42 (by decide) ?_
        refine rk_pc (pc' := 43) rfl ?_
        refine rk_goto 47 dX11_fewestJoined_43 (by decide) ?_
        refine rk_sn32 (k) dX11_fewestJoined_47 (by first | rfl | decide | assumption | (simp only [rk_lit, nI_add, pk_mul, nI_1]; done) | (simp only [rk_lit, nI_add, pk_mul, nI_1]; congr 1; omega)) (by first | decide | assumption | omega) (fun Iz1 eIz1 => ?_)
        refine rk_iinc 1 (ls' := [(3, _), (0, _), (1, _), (2, _)]) dX11_fewestJoined_48 (by decide) rfl (by decide) rfl ?_
        refine rk_goto 26 dX11_fewestJoined_51 (by decide) ?_
        refine rk_ord [0, 1, 2, 3] (ls' := [(0, _), (1, _), (2, _), (3, _)]) rfl ?_
        rw [nI_1]
        first | (refine ih (k + 1) (sp_u F k 1) Iz1 (by omega) (by rw [eIz1, hJ, md_u]; rfl) (fun j hj => ?_); obtain rfl : k = p := (nI_eq (by omega) (by omega)).mp qz39; by_cases h : j = k; (rw [h, sp_us, if_pos rfl]); (rw [sp_un h]; exact hF j (by omega))) | (refine ih (k + 1) (sp_u F k 0) Iz1 (by omega) (by rw [eIz1, hJ, md_u]; rfl) (fun j hj => ?_); by_cases h : j = k; (rw [h, sp_us, if_neg (fun z => qz39 (by rw [z]))]); (rw [sp_un h]; exact hF j (by omega)))
noncomputable def sp_few (N : Nat → Int32) (c : Nat) (x feet : Int32) : Int32 := @ite _ (0 ≤ x ∧ x ≤ N 12 - 1) (Classical.propDecidable _) (@ite _ (1 ≤ feet ∧ feet ≤ 5000) (Classical.propDecidable _) (sp_fj N x.toNatClampNeg c feet 25 (fun j => if j = x.toNatClampNeg then 1 else 0) (N (50 + 7 * x.toNatClampNeg + 3)) 1) (-2)) (-1)
theorem sp_fj_c {N : Nat → Int32} {p c : Nat} {feet : Int32} : ∀ (f : Nat) (U V : Nat → Int32) (ln : Int32) (n : Nat), (∀ j, j < c → U j = V j) → sp_fj N p c feet f U ln n = sp_fj N p c feet f V ln n := by
  intro f
  induction f with
  | zero => intros; rfl
  | succ f ih =>
    intro U V ln n h
    have e : ∀ k, k ≤ c → sp_nx N U p k = sp_nx N V p k := by
      intro k
      induction k with
      | zero => intro _; rfl
      | succ k ik =>
        intro hk
        have e1 : sp_can2 N U p k = sp_can2 N V p k := by simp only [sp_can2]; rw [h k (by omega)]
        simp only [sp_nx]
        rw [e1, ik (by omega)]
    simp only [sp_fj]
    rw [e c (Nat.le_refl c)]
    congr 2
    refine ih _ _ _ _ (fun j hj => ?_)
    simp only [sp_u]
    rw [h j hj]
theorem cX11_fewestJoined_s {m c : Nat} (h12 : I 26 (R 12 m 0) 12 = nI c) (hc : c ≤ 24) (x feet : Int32) : rk_J w l rk_mX11_fewestJoined 3 [rk_a 12 m, rk_i x, rk_i feet] Sh I R (fun r I' R' => r = sp_few (I 26 (R 12 m 0)) c x feet ∧ R' = R ∧ ∃ K, I' = md_a I 32 (R 12 m 9) K) := by
  refine rk_bJ (ls := [(0, _), (1, _), (2, _)]) (by decide) rfl (Nat.le_of_ble_eq_true rfl) ?_
  refine rk_aload_n 0 dX11_fewestJoined_0 rfl rfl ?_
  refine rk_iload_n 1 dX11_fewestJoined_1 rfl rfl ?_
  refine rk_cVp (cX11_isPiece_s _) rk_eX11_isPiece rfl ⟨rfl, rfl⟩ rk_kX11_98 dX11_fewestJoined_2 rfl (by decide) (Nat.le_of_ble_eq_true rfl) ⟨Nat.le_refl _, Nat.le_refl _⟩ ?_
  refine rk_if_ne 10 dX11_fewestJoined_5 (by decide) (fun qz5 => ?_) (fun qz5 => ?_)
  · skip
    refine rk_iload_n 2 dX11_fewestJoined_10 rfl rfl ?_
    refine rk_iconst 1 dX11_fewestJoined_11 (by decide) ?_
    refine rk_sipush 5000 dX11_fewestJoined_12 (by decide) ?_
    refine rk_pc (pc' := 15) rfl ?_
    refine rk_cSp (cX11_in_s _ _ _) rk_eX11_in rfl rk_kX11_43 dX11_fewestJoined_15 rfl (by decide) (Nat.le_of_ble_eq_true rfl) ⟨Nat.le_refl _, Nat.le_refl _⟩ ?_
    refine rk_if_ne 24 dX11_fewestJoined_18 (by decide) (fun qz18 => ?_) (fun qz18 => ?_)
    · skip
      refine rk_iconst 0 dX11_fewestJoined_24 (by decide) ?_
      refine rk_istore_n 3 (ls' := [(3, _), (0, _), (1, _), (2, _)]) dX11_fewestJoined_25 rfl (by decide) rfl ?_
      refine rk_ord [0, 1, 2, 3] (ls' := [(0, _), (1, _), (2, _), (3, _)]) rfl ?_
      obtain ⟨p, hpc, hpn⟩ := sp_is_n h12 (by omega) (sp_bt qz5)
      subst hpn
      have hcl : (nI p).toNatClampNeg = p := nI_clamp (by omega)
      refine cX11_few_l1 (by omega) ?_ 24 0 (I 32 (R 12 m 9)) I (by decide) md_self.symm (fun j hj => absurd hj (Nat.not_lt_zero j))
      intro J F hJ hF
      have hJa : J 26 (R 12 m 0) = I 26 (R 12 m 0) := by rw [hJ, md_ac (by decide)]
      have hspec : sp_few (I 26 (R 12 m 0)) c (nI p) feet = sp_fj (I 26 (R 12 m 0)) p c feet 25 F (I 26 (R 12 m 0) (50 + 7 * p + 3)) 1 := (if_pos (sp_bt qz5)).trans ((if_pos (sp_bt qz18)).trans (by rw [hcl]; exact sp_fj_c 25 _ F _ 1 (fun j hj => (hF j (by omega)).symm)))
      rw [hspec]
      have hzc := sp_z_le (U := F) c
      refine rk_aload_n 0 dX11_fewestJoined_54 rfl rfl ?_
      refine rk_iload_n 1 dX11_fewestJoined_55 rfl rfl ?_
      refine rk_iconst 3 dX11_fewestJoined_56 (by decide) ?_
      refine rk_cVp (cX11_ofPiece_s p 3 rfl rfl (by omega) (by decide)) rk_eX11_ofPiece rfl ⟨rfl, rfl⟩ rk_kX11_91 dX11_fewestJoined_57 rfl (by decide) (Nat.le_of_ble_eq_true rfl) ⟨Nat.le_refl _, Nat.le_refl _⟩ ?_
      rw [hJa]
      refine rk_istore_n 3 (ls' := [(3, _), (0, _), (1, _), (2, _)]) dX11_fewestJoined_60 rfl (by decide) rfl ?_
      refine rk_iconst 1 dX11_fewestJoined_61 (by decide) ?_
      refine rk_istore (ls' := [(4, _), (3, _), (0, _), (1, _), (2, _)]) dX11_fewestJoined_62 (by decide) rfl ?_
      refine rk_ord [0, 1, 2, 3, 4] (ls' := [(0, _), (1, _), (2, _), (3, _), (4, _)]) rfl ?_
      exact cX11_few_l hpc hc h12 I rfl _ 25 F _ 1 J (by omega) hJ rfl
    · skip
      refine rk_bipush (-2) dX11_fewestJoined_21 (by decide) ?_
      refine rk_iretJ dX11_fewestJoined_23 rfl rfl ?_
      exact ⟨((if_pos (sp_bt qz5)).trans (if_neg (sp_bf qz18))).symm, rfl, I 32 (R 12 m 9), md_self.symm⟩
  · skip
    refine rk_iconst (-1) dX11_fewestJoined_8 (by decide) ?_
    refine rk_iretJ dX11_fewestJoined_9 rfl rfl ?_
    exact ⟨(if_neg (sp_bf qz5)).symm, rfl, I 32 (R 12 m 9), md_self.symm⟩
end MF

