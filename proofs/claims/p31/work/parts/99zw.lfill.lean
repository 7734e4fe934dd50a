section PM
variable {w : rk_W} {l : Launch} {Sh : rk_Sh} {rg : Nat → Nat} {I J : rk_Mm} {R R1 : rk_Rm} {N M : Nat → Int32} {T T' U : Int} {x k : Nat}
theorem cL_isFilled_a {o oc c na nb W : Nat} {Z : rk_Z} {G : List Frame → Array Value → State → State → Prop} (h13 : N 13 = nI oc) (hoc : oc ≤ 16) (ho : o < oc) (hc : N 12 = nI c) (hc2 : c ≤ 24) (ga : rg na = 104) (gb : rg nb = 104) (hab : na ≠ nb) (hz : Z.2.1 ≤ 2 ∧ Z.2.2 ≤ 48) (K : ∀ J, lY rg J R x T N → (∀ q, q < c → J 27 na q = N (50 + 7 * q + 3)) → (∀ q, q < c → J 27 nb q = sp_b (sp_su N (sp_P N q) (sp_O N o))) → rk_Wp w l rk_mL_isFilled 8 2 48 G 137 [(0, rk_a 11 x), (1, rk_i (nI o)), (2, rk_i (nI oc)), (3, rk_i (nI c)), (4, rk_a 27 na), (5, rk_a 27 nb), (6, rk_i (N (220 + 7 * o + 0))), (7, rk_i (N (220 + 7 * o + 2))), (8, rk_i (nI W)), (9, rk_i (N (220 + 7 * o + 6))), (10, rk_i (sp_ns N (sp_P N) (sp_O N o) c)), (11, rk_i (nI c))] [] Z J R) : ∀ (n p : Nat) (J : rk_Mm), p + n = c → lY rg J R x T N → (∀ q, q < p → J 27 na q = N (50 + 7 * q + 3)) → (∀ q, q < p → J 27 nb q = sp_b (sp_su N (sp_P N q) (sp_O N o))) → rk_Wp w l rk_mL_isFilled 8 2 48 G 83 [(0, rk_a 11 x), (1, rk_i (nI o)), (2, rk_i (nI oc)), (3, rk_i (nI c)), (4, rk_a 27 na), (5, rk_a 27 nb), (6, rk_i (N (220 + 7 * o + 0))), (7, rk_i (N (220 + 7 * o + 2))), (8, rk_i (nI W)), (9, rk_i (N (220 + 7 * o + 6))), (10, rk_i (sp_ns N (sp_P N) (sp_O N o) p)), (11, rk_i (nI p))] [] Z J R := by
  intro n
  induction n with
  | zero =>
    intro p J hp hJ hL hB
    obtain rfl : p = c := by omega
    refine rk_iload dL_isFilled_83 rfl ?_
    refine rk_iload_n 3 dL_isFilled_85 rfl rfl ?_
    refine rk_icmp_ge 137 dL_isFilled_86 (by decide) (fun qz86 => ?_) (fun qz86 => ?_)
    · skip
      exact K J hJ hL hB
    · skip
      exact absurd (nI_le (Nat.le_refl p) (by omega)) qz86
  | succ n ih =>
    intro p J hp hJ hL hB
    have hpc : p < c := by omega
    have hn : ¬ nI c ≤ nI p := nI_ge (by omega) (by omega)
    have ns1 : sp_su N (sp_P N p) (sp_O N o) → sp_ns N (sp_P N) (sp_O N o) p + 1 = sp_ns N (sp_P N) (sp_O N o) (p + 1) := fun z => congrArg (fun t => sp_ns N (sp_P N) (sp_O N o) p + t) (sp_b1 z)
    have ns0 : ¬ sp_su N (sp_P N p) (sp_O N o) → sp_ns N (sp_P N) (sp_O N o) p + 0 = sp_ns N (sp_P N) (sp_O N o) (p + 1) := fun z => congrArg (fun t => sp_ns N (sp_P N) (sp_O N o) p + t) (sp_b0 z)
    have next : ∀ (J1 J2 : rk_Mm) (v : Int32), J1 = rk_uI J 27 na p (N (50 + 7 * p + 3)) → J2 = rk_uI J1 27 nb p v → v = sp_b (sp_su N (sp_P N p) (sp_O N o)) → rk_Wp w l rk_mL_isFilled 8 2 48 G 83 [(0, rk_a 11 x), (1, rk_i (nI o)), (2, rk_i (nI oc)), (3, rk_i (nI c)), (4, rk_a 27 na), (5, rk_a 27 nb), (6, rk_i (N (220 + 7 * o + 0))), (7, rk_i (N (220 + 7 * o + 2))), (8, rk_i (nI W)), (9, rk_i (N (220 + 7 * o + 6))), (10, rk_i (sp_ns N (sp_P N) (sp_O N o) (p + 1))), (11, rk_i (nI (p + 1)))] [] Z J2 R := fun J1 J2 v e1 e2 ev => by
      refine ih (p + 1) J2 (by omega) ((hJ.mf (I1 := J1) (by rw [e1]; exact cl_fr.ui ga)).mf (by rw [e2]; exact cl_fr.ui gb)) (fun q hq => ?_) (fun q hq => ?_)
      · rw [e2, rk_uI_n (fun z => hab z.2.1), e1]
        by_cases hqp : q = p
        · subst hqp; exact rk_uI_s
        · rw [rk_uI_n (fun z => hqp z.2.2)]; exact hL q (by omega)
      · rw [e2]
        by_cases hqp : q = p
        · subst hqp; rw [rk_uI_s]; exact ev
        · rw [rk_uI_n (fun z => hqp z.2.2), e1, rk_uI_n (fun z => hab z.2.1.symm)]; exact hB q (by omega)
    refine rk_iload dL_isFilled_83 rfl ?_
    refine rk_iload_n 3 dL_isFilled_85 rfl rfl ?_
    refine rk_icmp_ge 137 dL_isFilled_86 (by decide) (fun qz86 => ?_) (fun qz86 => ?_)
    · skip
      exact absurd qz86 hn
    · skip
      refine rk_aload dL_isFilled_89 rfl ?_
      refine rk_iload dL_isFilled_91 rfl ?_
      refine rk_aload_n 0 dL_isFilled_93 rfl rfl ?_
      refine rk_iload dL_isFilled_94 rfl ?_
      refine rk_pc (pc' := 96) rfl ?_
      refine rk_iconst 3 dL_isFilled_96 (by decide) ?_
      refine rk_cVp (qp (k := 3) hJ hc hc2 hpc (by decide) rfl rfl) rk_eX10_piece rfl ⟨rfl, rfl⟩ rk_kL_14 dL_isFilled_97 rfl (by decide) (Nat.le_of_ble_eq_true rfl) hz ?_
      refine rk_sn27 (p) dL_isFilled_100 (by first | rfl | decide | assumption | (simp only [rk_lit, nI_add, pk_mul, nI_1]; done) | (simp only [rk_lit, nI_add, pk_mul, nI_1]; congr 1; omega)) (by first | decide | assumption | omega) (fun Iz1 eIz1 => ?_)
      have hJ1 : lY rg Iz1 R x T N := hJ.mf (by rw [eIz1]; exact cl_fr.ui ga)
      refine rk_aload dL_isFilled_101 rfl ?_
      refine rk_iload dL_isFilled_103 rfl ?_
      refine rk_aload_n 0 dL_isFilled_105 rfl rfl ?_
      refine rk_pc (pc' := 106) rfl ?_
      refine rk_iload dL_isFilled_106 rfl ?_
      refine rk_iload_n 1 dL_isFilled_108 rfl rfl ?_
      refine rk_cSp (cL_suits_s hJ1 hc hc2 hpc h13 hoc ho) rk_eL_suits rfl rk_kL_75 dL_isFilled_109 rfl (by decide) (Nat.le_of_ble_eq_true rfl) hz ?_
      refine rk_if_eq 119 dL_isFilled_112 (by decide) (fun qz112 => ?_) (fun qz112 => ?_)
      · skip
        refine rk_iconst 0 dL_isFilled_119 (by decide) ?_
        refine rk_sn27 (p) dL_isFilled_120 (by first | rfl | decide | assumption | (simp only [rk_lit, nI_add, pk_mul, nI_1]; done) | (simp only [rk_lit, nI_add, pk_mul, nI_1]; congr 1; omega)) (by first | decide | assumption | omega) (fun Iz2 eIz2 => ?_)
        refine rk_iload dL_isFilled_121 rfl ?_
        refine rk_pc (pc' := 123) rfl ?_
        refine rk_aload dL_isFilled_123 rfl ?_
        refine rk_iload dL_isFilled_125 rfl ?_
        refine rk_rn27 (p) dL_isFilled_127 (by first | rfl | decide | assumption | (simp only [rk_lit, nI_add, pk_mul, nI_1]; done) | (simp only [rk_lit, nI_add, pk_mul, nI_1]; congr 1; omega)) (by first | decide | assumption | omega) ?_
        rw [rk_ufs eIz2]
        refine rk_iadd dL_isFilled_128 ?_
        refine rk_istore (ls' := [(10, _), (0, _), (1, _), (2, _), (3, _), (4, _), (5, _), (6, _), (7, _), (8, _), (9, _), (11, _)]) dL_isFilled_129 (by decide) rfl ?_
        refine rk_iinc 1 (ls' := [(11, _), (10, _), (0, _), (1, _), (2, _), (3, _), (4, _), (5, _), (6, _), (7, _), (8, _), (9, _)]) dL_isFilled_131 (by decide) rfl (by decide) rfl ?_
        refine rk_pc (pc' := 134) rfl ?_
        refine rk_goto 83 dL_isFilled_134 (by decide) ?_
        refine rk_ord [0, 1, 2, 3, 4, 5, 6, 7, 8, 9, 10, 11] (ls' := [(0, _), (1, _), (2, _), (3, _), (4, _), (5, _), (6, _), (7, _), (8, _), (9, _), (10, _), (11, _)]) rfl ?_
        rw [nI_1]
        first | (rw [ns1 (sp_bt qz112)]; exact next _ _ _ eIz1 eIz2 (sp_b1 (sp_bt qz112))) | (rw [ns0 (sp_bf qz112)]; exact next _ _ _ eIz1 eIz2 (sp_b0 (sp_bf qz112)))
      · skip
        refine rk_iconst 1 dL_isFilled_115 (by decide) ?_
        refine rk_goto 120 dL_isFilled_116 (by decide) ?_
        refine rk_sn27 (p) dL_isFilled_120 (by first | rfl | decide | assumption | (simp only [rk_lit, nI_add, pk_mul, nI_1]; done) | (simp only [rk_lit, nI_add, pk_mul, nI_1]; congr 1; omega)) (by first | decide | assumption | omega) (fun Iz2 eIz2 => ?_)
        refine rk_iload dL_isFilled_121 rfl ?_
        refine rk_aload dL_isFilled_123 rfl ?_
        refine rk_pc (pc' := 125) rfl ?_
        refine rk_iload dL_isFilled_125 rfl ?_
        refine rk_rn27 (p) dL_isFilled_127 (by first | rfl | decide | assumption | (simp only [rk_lit, nI_add, pk_mul, nI_1]; done) | (simp only [rk_lit, nI_add, pk_mul, nI_1]; congr 1; omega)) (by first | decide | assumption | omega) ?_
        rw [rk_ufs eIz2]
        refine rk_iadd dL_isFilled_128 ?_
        refine rk_istore (ls' := [(10, _), (0, _), (1, _), (2, _), (3, _), (4, _), (5, _), (6, _), (7, _), (8, _), (9, _), (11, _)]) dL_isFilled_129 (by decide) rfl ?_
        refine rk_iinc 1 (ls' := [(11, _), (10, _), (0, _), (1, _), (2, _), (3, _), (4, _), (5, _), (6, _), (7, _), (8, _), (9, _)]) dL_isFilled_131 (by decide) rfl (by decide) rfl ?_
        refine rk_goto 83 dL_isFilled_134 (by decide) ?_
        refine rk_pc (pc' := 83) rfl ?_
        refine rk_ord [0, 1, 2, 3, 4, 5, 6, 7, 8, 9, 10, 11] (ls' := [(0, _), (1, _), (2, _), (3, _), (4, _), (5, _), (6, _), (7, _), (8, _), (9, _), (10, _), (11, _)]) rfl ?_
        rw [nI_1]
        first | (rw [ns1 (sp_bt qz112)]; exact next _ _ _ eIz1 eIz2 (sp_b1 (sp_bt qz112))) | (rw [ns0 (sp_bf qz112)]; exact next _ _ _ eIz1 eIz2 (sp_b0 (sp_bf qz112)))
theorem cL_isFilled_b {o oc c na nb W : Nat} {Z : rk_Z} {G : List Frame → Array Value → State → State → Prop} {s r g : Int32} (hc2 : c ≤ 24) (hz : Z.2.1 ≤ 2 ∧ Z.2.2 ≤ 48) (K : ∀ v, sr (J 27 na) (J 27 nb) (N (220 + 7 * o + 2)) 0 c v → rk_Wp w l rk_mL_isFilled 8 2 48 G 223 [(0, rk_a 11 x), (1, rk_i (nI o)), (2, rk_i (nI oc)), (3, rk_i (nI c)), (4, rk_a 27 na), (5, rk_a 27 nb), (6, rk_i (N (220 + 7 * o + 0))), (7, rk_i (N (220 + 7 * o + 2))), (8, rk_i (nI W)), (9, rk_i (N (220 + 7 * o + 6))), (10, rk_i s), (11, rk_i r), (12, rk_i g), (13, rk_i v), (14, rk_i (nI 0 - 1))] [] Z J R) : ∀ (m : Nat) (v : Int32), m ≤ c → sr (J 27 na) (J 27 nb) (N (220 + 7 * o + 2)) m c v → rk_Wp w l rk_mL_isFilled 8 2 48 G 166 [(0, rk_a 11 x), (1, rk_i (nI o)), (2, rk_i (nI oc)), (3, rk_i (nI c)), (4, rk_a 27 na), (5, rk_a 27 nb), (6, rk_i (N (220 + 7 * o + 0))), (7, rk_i (N (220 + 7 * o + 2))), (8, rk_i (nI W)), (9, rk_i (N (220 + 7 * o + 6))), (10, rk_i s), (11, rk_i r), (12, rk_i g), (13, rk_i v), (14, rk_i (nI m - 1))] [] Z J R := by
  intro m
  induction m with
  | zero =>
    intro v hm h
    refine rk_iload dL_isFilled_166 rfl ?_
    refine rk_if_lt 223 dL_isFilled_168 (by decide) (fun qz168 => ?_) (fun qz168 => ?_)
    · skip
      exact K v h
    · skip
      exact absurd (by decide) qz168
  | succ m ih =>
    intro v hm h
    have hmc : m < c := by omega
    have hm1 : nI m + -1 = nI m - 1 := by grind
    have nok1 : ¬ J 27 nb m = 1 → ¬ (J 27 nb m = 1 ∧ N (220 + 7 * o + 2) ≤ J 27 na m) := fun a b => a b.1
    have nok2 : J 27 na m < N (220 + 7 * o + 2) → ¬ (J 27 nb m = 1 ∧ N (220 + 7 * o + 2) ≤ J 27 na m) := fun a b => Int32.not_le.mpr a b.2
    rw [show nI (m + 1) - 1 = nI m from nI_pred m]
    have h2 := h
    rcases h2 with ⟨rfl, -⟩ | ⟨q0, hq1, hq2, rfl, -, -⟩
    · skip
      refine rk_iload dL_isFilled_166 rfl ?_
      refine rk_if_lt 223 dL_isFilled_168 (by decide) (fun qz168 => ?_) (fun qz168 => ?_)
      · skip
        exact absurd qz168 (nI_pos (by omega))
      · skip
        refine rk_aload dL_isFilled_171 rfl ?_
        refine rk_iload dL_isFilled_173 rfl ?_
        refine rk_rn27 (m) dL_isFilled_175 (by first | rfl | decide | assumption | (simp only [rk_lit, nI_add, pk_mul, nI_1]; done) | (simp only [rk_lit, nI_add, pk_mul, nI_1]; congr 1; omega)) (by first | decide | assumption | omega) ?_
        refine rk_iconst 1 dL_isFilled_176 (by decide) ?_
        refine rk_icmp_ne 213 dL_isFilled_177 (by decide) (fun qz177 => ?_) (fun qz177 => ?_)
        · skip
          refine rk_iload dL_isFilled_213 rfl ?_
          refine rk_pc (pc' := 215) rfl ?_
          refine rk_istore (ls' := [(13, _), (0, _), (1, _), (2, _), (3, _), (4, _), (5, _), (6, _), (7, _), (8, _), (9, _), (10, _), (11, _), (12, _), (14, _)]) dL_isFilled_215 (by decide) rfl ?_
          refine rk_iinc (-1) (ls' := [(14, _), (13, _), (0, _), (1, _), (2, _), (3, _), (4, _), (5, _), (6, _), (7, _), (8, _), (9, _), (10, _), (11, _), (12, _)]) dL_isFilled_217 (by decide) rfl (by decide) rfl ?_
          refine rk_goto 166 dL_isFilled_220 (by decide) ?_
          refine rk_ord [0, 1, 2, 3, 4, 5, 6, 7, 8, 9, 10, 11, 12, 13, 14] (ls' := [(0, _), (1, _), (2, _), (3, _), (4, _), (5, _), (6, _), (7, _), (8, _), (9, _), (10, _), (11, _), (12, _), (13, _), (14, _)]) rfl ?_
          rw [hm1]
          first | exact ih (nI m) (by omega) (sr_take h hmc ⟨qz177, Int32.not_lt.mp qz187⟩ (Or.inl rfl) (by omega)) | exact ih (-1) (by omega) (sr_keep h (Or.inl (nok2 qz187)) (by omega)) | exact ih (-1) (by omega) (sr_keep h (Or.inl (nok1 qz177)) (by omega))
        · skip
          refine rk_aload dL_isFilled_180 rfl ?_
          refine rk_iload dL_isFilled_182 rfl ?_
          refine rk_rn27 (m) dL_isFilled_184 (by first | rfl | decide | assumption | (simp only [rk_lit, nI_add, pk_mul, nI_1]; done) | (simp only [rk_lit, nI_add, pk_mul, nI_1]; congr 1; omega)) (by first | decide | assumption | omega) ?_
          refine rk_pc (pc' := 185) rfl ?_
          refine rk_iload dL_isFilled_185 rfl ?_
          refine rk_icmp_lt 213 dL_isFilled_187 (by decide) (fun qz187 => ?_) (fun qz187 => ?_)
          · skip
            refine rk_iload dL_isFilled_213 rfl ?_
            refine rk_istore (ls' := [(13, _), (0, _), (1, _), (2, _), (3, _), (4, _), (5, _), (6, _), (7, _), (8, _), (9, _), (10, _), (11, _), (12, _), (14, _)]) dL_isFilled_215 (by decide) rfl ?_
            refine rk_iinc (-1) (ls' := [(14, _), (13, _), (0, _), (1, _), (2, _), (3, _), (4, _), (5, _), (6, _), (7, _), (8, _), (9, _), (10, _), (11, _), (12, _)]) dL_isFilled_217 (by decide) rfl (by decide) rfl ?_
            refine rk_goto 166 dL_isFilled_220 (by decide) ?_
            refine rk_ord [0, 1, 2, 3, 4, 5, 6, 7, 8, 9, 10, 11, 12, 13, 14] (ls' := [(0, _), (1, _), (2, _), (3, _), (4, _), (5, _), (6, _), (7, _), (8, _), (9, _), (10, _), (11, _), (12, _), (13, _), (14, _)]) rfl ?_
            rw [hm1]
            first | exact ih (nI m) (by omega) (sr_take h hmc ⟨qz177, Int32.not_lt.mp qz187⟩ (Or.inl rfl) (by omega)) | exact ih (-1) (by omega) (sr_keep h (Or.inl (nok2 qz187)) (by omega)) | exact ih (-1) (by omega) (sr_keep h (Or.inl (nok1 qz177)) (by omega))
          · skip
            refine rk_iload dL_isFilled_190 rfl ?_
            refine rk_pc (pc' := 192) rfl ?_
            refine rk_if_lt 208 dL_isFilled_192 (by decide) (fun qz192 => ?_) (fun qz192 => ?_)
            · skip
              refine rk_iload dL_isFilled_208 rfl ?_
              refine rk_goto 215 dL_isFilled_210 (by decide) ?_
              refine rk_istore (ls' := [(13, _), (0, _), (1, _), (2, _), (3, _), (4, _), (5, _), (6, _), (7, _), (8, _), (9, _), (10, _), (11, _), (12, _), (14, _)]) dL_isFilled_215 (by decide) rfl ?_
              refine rk_iinc (-1) (ls' := [(14, _), (13, _), (0, _), (1, _), (2, _), (3, _), (4, _), (5, _), (6, _), (7, _), (8, _), (9, _), (10, _), (11, _), (12, _)]) dL_isFilled_217 (by decide) rfl (by decide) rfl ?_
              refine rk_goto 166 dL_isFilled_220 (by decide) ?_
              refine rk_ord [0, 1, 2, 3, 4, 5, 6, 7, 8, 9, 10, 11, 12, 13, 14] (ls' := [(0, _), (1, _), (2, _), (3, _), (4, _), (5, _), (6, _), (7, _), (8, _), (9, _), (10, _), (11, _), (12, _), (13, _), (14, _)]) rfl ?_
              rw [hm1]
              first | exact ih (nI m) (by omega) (sr_take h hmc ⟨qz177, Int32.not_lt.mp qz187⟩ (Or.inl rfl) (by omega)) | exact ih (-1) (by omega) (sr_keep h (Or.inl (nok2 qz187)) (by omega)) | exact ih (-1) (by omega) (sr_keep h (Or.inl (nok1 qz177)) (by omega))
            · skip
              exact absurd (by decide) qz192
    · skip
      refine rk_iload dL_isFilled_166 rfl ?_
      refine rk_if_lt 223 dL_isFilled_168 (by decide) (fun qz168 => ?_) (fun qz168 => ?_)
      · skip
        exact absurd qz168 (nI_pos (by omega))
      · skip
        refine rk_aload dL_isFilled_171 rfl ?_
        refine rk_iload dL_isFilled_173 rfl ?_
        refine rk_rn27 (m) dL_isFilled_175 (by first | rfl | decide | assumption | (simp only [rk_lit, nI_add, pk_mul, nI_1]; done) | (simp only [rk_lit, nI_add, pk_mul, nI_1]; congr 1; omega)) (by first | decide | assumption | omega) ?_
        refine rk_iconst 1 dL_isFilled_176 (by decide) ?_
        refine rk_icmp_ne 213 dL_isFilled_177 (by decide) (fun qz177 => ?_) (fun qz177 => ?_)
        · skip
          refine rk_iload dL_isFilled_213 rfl ?_
          refine rk_pc (pc' := 215) rfl ?_
          refine rk_istore (ls' := [(13, _), (0, _), (1, _), (2, _), (3, _), (4, _), (5, _), (6, _), (7, _), (8, _), (9, _), (10, _), (11, _), (12, _), (14, _)]) dL_isFilled_215 (by decide) rfl ?_
          refine rk_iinc (-1) (ls' := [(14, _), (13, _), (0, _), (1, _), (2, _), (3, _), (4, _), (5, _), (6, _), (7, _), (8, _), (9, _), (10, _), (11, _), (12, _)]) dL_isFilled_217 (by decide) rfl (by decide) rfl ?_
          refine rk_goto 166 dL_isFilled_220 (by decide) ?_
          refine rk_ord [0, 1, 2, 3, 4, 5, 6, 7, 8, 9, 10, 11, 12, 13, 14] (ls' := [(0, _), (1, _), (2, _), (3, _), (4, _), (5, _), (6, _), (7, _), (8, _), (9, _), (10, _), (11, _), (12, _), (13, _), (14, _)]) rfl ?_
          rw [hm1]
          first | exact ih (nI m) (by omega) (sr_take h hmc ⟨qz177, Int32.not_lt.mp qz187⟩ (Or.inr ⟨q0, rfl, by omega, Int32.not_lt.mp qz205⟩) (by omega)) | exact ih (nI q0) (by omega) (sr_keep h (Or.inr ⟨q0, rfl, by omega, qz205⟩) (by omega)) | exact ih (nI q0) (by omega) (sr_keep h (Or.inl (nok2 qz187)) (by omega)) | exact ih (nI q0) (by omega) (sr_keep h (Or.inl (nok1 qz177)) (by omega))
        · skip
          refine rk_aload dL_isFilled_180 rfl ?_
          refine rk_iload dL_isFilled_182 rfl ?_
          refine rk_rn27 (m) dL_isFilled_184 (by first | rfl | decide | assumption | (simp only [rk_lit, nI_add, pk_mul, nI_1]; done) | (simp only [rk_lit, nI_add, pk_mul, nI_1]; congr 1; omega)) (by first | decide | assumption | omega) ?_
          refine rk_pc (pc' := 185) rfl ?_
          refine rk_iload dL_isFilled_185 rfl ?_
          refine rk_icmp_lt 213 dL_isFilled_187 (by decide) (fun qz187 => ?_) (fun qz187 => ?_)
          · skip
            refine rk_iload dL_isFilled_213 rfl ?_
            refine rk_istore (ls' := [(13, _), (0, _), (1, _), (2, _), (3, _), (4, _), (5, _), (6, _), (7, _), (8, _), (9, _), (10, _), (11, _), (12, _), (14, _)]) dL_isFilled_215 (by decide) rfl ?_
            refine rk_iinc (-1) (ls' := [(14, _), (13, _), (0, _), (1, _), (2, _), (3, _), (4, _), (5, _), (6, _), (7, _), (8, _), (9, _), (10, _), (11, _), (12, _)]) dL_isFilled_217 (by decide) rfl (by decide) rfl ?_
            refine rk_goto 166 dL_isFilled_220 (by decide) ?_
            refine rk_ord [0, 1, 2, 3, 4, 5, 6, 7, 8, 9, 10, 11, 12, 13, 14] (ls' := [(0, _), (1, _), (2, _), (3, _), (4, _), (5, _), (6, _), (7, _), (8, _), (9, _), (10, _), (11, _), (12, _), (13, _), (14, _)]) rfl ?_
            rw [hm1]
            first | exact ih (nI m) (by omega) (sr_take h hmc ⟨qz177, Int32.not_lt.mp qz187⟩ (Or.inr ⟨q0, rfl, by omega, Int32.not_lt.mp qz205⟩) (by omega)) | exact ih (nI q0) (by omega) (sr_keep h (Or.inr ⟨q0, rfl, by omega, qz205⟩) (by omega)) | exact ih (nI q0) (by omega) (sr_keep h (Or.inl (nok2 qz187)) (by omega)) | exact ih (nI q0) (by omega) (sr_keep h (Or.inl (nok1 qz177)) (by omega))
          · skip
            refine rk_iload dL_isFilled_190 rfl ?_
            refine rk_pc (pc' := 192) rfl ?_
            refine rk_if_lt 208 dL_isFilled_192 (by decide) (fun qz192 => ?_) (fun qz192 => ?_)
            · skip
              exact absurd qz192 (nI_pos (by omega))
            · skip
              refine rk_aload dL_isFilled_195 rfl ?_
              refine rk_iload dL_isFilled_197 rfl ?_
              refine rk_rn27 (m) dL_isFilled_199 (by first | rfl | decide | assumption | (simp only [rk_lit, nI_add, pk_mul, nI_1]; done) | (simp only [rk_lit, nI_add, pk_mul, nI_1]; congr 1; omega)) (by first | decide | assumption | omega) ?_
              refine rk_aload dL_isFilled_200 rfl ?_
              refine rk_iload dL_isFilled_202 rfl ?_
              refine rk_rn27 (q0) dL_isFilled_204 (by first | rfl | decide | assumption | (simp only [rk_lit, nI_add, pk_mul, nI_1]; done) | (simp only [rk_lit, nI_add, pk_mul, nI_1]; congr 1; omega)) (by first | decide | assumption | omega) ?_
              refine rk_pc (pc' := 205) rfl ?_
              refine rk_icmp_gt 213 dL_isFilled_205 (by decide) (fun qz205 => ?_) (fun qz205 => ?_)
              · skip
                refine rk_iload dL_isFilled_213 rfl ?_
                refine rk_istore (ls' := [(13, _), (0, _), (1, _), (2, _), (3, _), (4, _), (5, _), (6, _), (7, _), (8, _), (9, _), (10, _), (11, _), (12, _), (14, _)]) dL_isFilled_215 (by decide) rfl ?_
                refine rk_iinc (-1) (ls' := [(14, _), (13, _), (0, _), (1, _), (2, _), (3, _), (4, _), (5, _), (6, _), (7, _), (8, _), (9, _), (10, _), (11, _), (12, _)]) dL_isFilled_217 (by decide) rfl (by decide) rfl ?_
                refine rk_goto 166 dL_isFilled_220 (by decide) ?_
                refine rk_ord [0, 1, 2, 3, 4, 5, 6, 7, 8, 9, 10, 11, 12, 13, 14] (ls' := [(0, _), (1, _), (2, _), (3, _), (4, _), (5, _), (6, _), (7, _), (8, _), (9, _), (10, _), (11, _), (12, _), (13, _), (14, _)]) rfl ?_
                rw [hm1]
                first | exact ih (nI m) (by omega) (sr_take h hmc ⟨qz177, Int32.not_lt.mp qz187⟩ (Or.inr ⟨q0, rfl, by omega, Int32.not_lt.mp qz205⟩) (by omega)) | exact ih (nI q0) (by omega) (sr_keep h (Or.inr ⟨q0, rfl, by omega, qz205⟩) (by omega)) | exact ih (nI q0) (by omega) (sr_keep h (Or.inl (nok2 qz187)) (by omega)) | exact ih (nI q0) (by omega) (sr_keep h (Or.inl (nok1 qz177)) (by omega))
              · skip
                refine rk_iload dL_isFilled_208 rfl ?_
                refine rk_goto 215 dL_isFilled_210 (by decide) ?_
                refine rk_pc (pc' := 215) rfl ?_
                refine rk_istore (ls' := [(13, _), (0, _), (1, _), (2, _), (3, _), (4, _), (5, _), (6, _), (7, _), (8, _), (9, _), (10, _), (11, _), (12, _), (14, _)]) dL_isFilled_215 (by decide) rfl ?_
                refine rk_iinc (-1) (ls' := [(14, _), (13, _), (0, _), (1, _), (2, _), (3, _), (4, _), (5, _), (6, _), (7, _), (8, _), (9, _), (10, _), (11, _), (12, _)]) dL_isFilled_217 (by decide) rfl (by decide) rfl ?_
                refine rk_goto 166 dL_isFilled_220 (by decide) ?_
                refine rk_ord [0, 1, 2, 3, 4, 5, 6, 7, 8, 9, 10, 11, 12, 13, 14] (ls' := [(0, _), (1, _), (2, _), (3, _), (4, _), (5, _), (6, _), (7, _), (8, _), (9, _), (10, _), (11, _), (12, _), (13, _), (14, _)]) rfl ?_
                rw [hm1]
                first | exact ih (nI m) (by omega) (sr_take h hmc ⟨qz177, Int32.not_lt.mp qz187⟩ (Or.inr ⟨q0, rfl, by omega, Int32.not_lt.mp qz205⟩) (by omega)) | exact ih (nI q0) (by omega) (sr_keep h (Or.inr ⟨q0, rfl, by omega, qz205⟩) (by omega)) | exact ih (nI q0) (by omega) (sr_keep h (Or.inl (nok2 qz187)) (by omega)) | exact ih (nI q0) (by omega) (sr_keep h (Or.inl (nok1 qz177)) (by omega))
theorem cL_isFilled_c {o oc c na nb W : Nat} {Z : rk_Z} {G : List Frame → Array Value → State → State → Prop} {f : Nat} {s : Int32} (hN : sp_pv T N c) (hU : U ≤ 2000000000) (ho : o < 16) (hf : f < 3) (hof : N (220 + 7 * o + 0) = nI f) (hF : 0 < (N (220 + 7 * o + 2)).toInt) (hW : W ≤ 20) (hc2 : c ≤ 24) (ga : rg na = 104) (gb : rg nb = 104) (hab : na ≠ nb) (hz : Z.2.1 ≤ 2 ∧ Z.2.2 ≤ 48) (K : ∀ (r g : Nat) (M : Nat → Int32) (e : Nat → Nat) (m : Nat) (J : rk_Mm), fR N T U o c W f r g M e m (J 27 na) (J 27 nb) → sp_cf o W N = (M, r) → lY rg J R x T N → ∀ v, rk_Wp w l rk_mL_isFilled 8 2 48 G 281 [(0, rk_a 11 x), (1, rk_i (nI o)), (2, rk_i (nI oc)), (3, rk_i (nI c)), (4, rk_a 27 na), (5, rk_a 27 nb), (6, rk_i (N (220 + 7 * o + 0))), (7, rk_i (N (220 + 7 * o + 2))), (8, rk_i (nI W)), (9, rk_i (N (220 + 7 * o + 6))), (10, rk_i s), (11, rk_i (nI r)), (12, rk_i (nI g)), (13, rk_i v)] [] Z J R) : ∀ (n r g : Nat) (M : Nat → Int32) (e : Nat → Nat) (m : Nat) (J : rk_Mm) (v : Int32), r + n = W → fR N T U o c W f r g M e m (J 27 na) (J 27 nb) → lY rg J R x T N → 0 ≤ v → rk_Wp w l rk_mL_isFilled 8 2 48 G 146 [(0, rk_a 11 x), (1, rk_i (nI o)), (2, rk_i (nI oc)), (3, rk_i (nI c)), (4, rk_a 27 na), (5, rk_a 27 nb), (6, rk_i (N (220 + 7 * o + 0))), (7, rk_i (N (220 + 7 * o + 2))), (8, rk_i (nI W)), (9, rk_i (N (220 + 7 * o + 6))), (10, rk_i s), (11, rk_i (nI r)), (12, rk_i (nI g)), (13, rk_i v)] [] Z J R := by
  intro n
  induction n with
  | zero =>
    intro r g M e m J v hr h hJ hv
    obtain rfl : r = W := by omega
    have hcf : sp_cf o r N = (M, r) := by
      have h5 := h.2.2.2.2.1
      rw [Nat.sub_self] at h5
      rw [h5]
      show ((sp_cf o 0 M).1, (sp_cf o 0 M).2 + r) = (M, r)
      show (M, 0 + r) = (M, r)
      rw [Nat.zero_add]
    refine rk_iload dL_isFilled_146 rfl ?_
    refine rk_if_lt 281 dL_isFilled_148 (by decide) (fun qz148 => ?_) (fun qz148 => ?_)
    · skip
      exact absurd qz148 (Int32.not_lt.mpr hv)
    · skip
      refine rk_iload dL_isFilled_151 rfl ?_
      refine rk_iload dL_isFilled_153 rfl ?_
      refine rk_icmp_ge 281 dL_isFilled_155 (by decide) (fun qz155 => ?_) (fun qz155 => ?_)
      · skip
        exact K r g M e m J h hcf hJ v
      · skip
        exact absurd (nI_le (Nat.le_refl r) (by omega)) qz155
  | succ n ih =>
    intro r g M e m J v hr h hJ hv
    have hrW : r < W := by omega
    have hnW : ¬ nI W ≤ nI r := nI_ge (by omega) (by omega)
    have k223 : ∀ v, sr (J 27 na) (J 27 nb) (N (220 + 7 * o + 2)) 0 c v → rk_Wp w l rk_mL_isFilled 8 2 48 G 223 [(0, rk_a 11 x), (1, rk_i (nI o)), (2, rk_i (nI oc)), (3, rk_i (nI c)), (4, rk_a 27 na), (5, rk_a 27 nb), (6, rk_i (N (220 + 7 * o + 0))), (7, rk_i (N (220 + 7 * o + 2))), (8, rk_i (nI W)), (9, rk_i (N (220 + 7 * o + 6))), (10, rk_i s), (11, rk_i (nI r)), (12, rk_i (nI g)), (13, rk_i v), (14, rk_i (nI 0 - 1))] [] Z J R := by
      intro v hs
      rcases h.find hN hs with ⟨rfl, hb⟩ | ⟨i, hi, rfl, hb, hsu⟩
      · have hcf : sp_cf o W N = (M, r) := by
          have h5 := h.2.2.2.2.1
          rw [sp_cf0 hb] at h5
          rw [h5]
          show (M, 0 + r) = (M, r)
          rw [Nat.zero_add]
        refine rk_iload dL_isFilled_223 rfl ?_
        refine rk_if_lt 146 dL_isFilled_225 (by decide) (fun qz225 => ?_) (fun qz225 => ?_)
        · skip
          refine rk_iload dL_isFilled_146 rfl ?_
          refine rk_if_lt 281 dL_isFilled_148 (by decide) (fun qz148 => ?_) (fun qz148 => ?_)
          · skip
            refine rk_ord [0, 1, 2, 3, 4, 5, 6, 7, 8, 9, 10, 11, 12, 13] (ls' := [(0, _), (1, _), (2, _), (3, _), (4, _), (5, _), (6, _), (7, _), (8, _), (9, _), (10, _), (11, _), (12, _), (13, _)]) rfl ?_
            exact K r g M e m J h hcf hJ _
          · skip
            exact absurd (by decide) qz148
        · skip
          exact absurd (by decide) qz225
      · have hec : e i < c := h.2.2.2.2.2.2.2.2.2.2.1 i hi
        obtain ⟨q0, hq0⟩ : ∃ q0, e i = q0 := ⟨_, rfl⟩
        have stay : ∀ J1 : rk_Mm, J1 = rk_uI J 27 na q0 (J 27 na q0 - N (220 + 7 * o + 2)) → ¬ J 27 na q0 - N (220 + 7 * o + 2) = 0 → N 6 ≤ J 27 na q0 - N (220 + 7 * o + 2) → rk_Wp w l rk_mL_isFilled 8 2 48 G 146 [(0, rk_a 11 x), (1, rk_i (nI o)), (2, rk_i (nI oc)), (3, rk_i (nI c)), (4, rk_a 27 na), (5, rk_a 27 nb), (6, rk_i (N (220 + 7 * o + 0))), (7, rk_i (N (220 + 7 * o + 2))), (8, rk_i (nI W)), (9, rk_i (N (220 + 7 * o + 6))), (10, rk_i s), (11, rk_i (nI (r + 1))), (12, rk_i (nI g)), (13, rk_i (nI q0))] [] Z J1 R := by
          intro J1 e1 z1 z2
          have hst : ¬ (J 27 na (e i) - N (220 + 7 * o + 2) = 0 ∨ J 27 na (e i) - N (220 + 7 * o + 2) < N 6) := by
            rw [hq0]
            exact fun z => z.elim z1 (fun y => Int32.not_le.mpr y z2)
          obtain ⟨g', e', m', hg1, hg2, hR⟩ := h.step (L' := sp_u (J 27 na) (e i) (J 27 na (e i) - N (220 + 7 * o + 2))) (B' := J 27 nb) hU ho hf hof hF hrW hi hb hsu (Or.inl ⟨hst, rfl, rfl⟩)
          have eL : J1 27 na = sp_u (J 27 na) (e i) (J 27 na (e i) - N (220 + 7 * o + 2)) := by rw [e1, md_u1, md_as, hq0]
          have eB : J1 27 nb = J 27 nb := by rw [e1, md_u1]; exact md_an (fun z => hab z.2.symm)
          rw [← eL, ← eB] at hR
          rw [hg2 hst] at hR
          exact ih (r + 1) g _ e' m' J1 (nI q0) (by omega) hR (hJ.mf (by rw [e1]; exact cl_fr.ui ga)) (nI_pos' (by omega))
        have gone : ∀ J1 J2 J3 : rk_Mm, J1 = rk_uI J 27 na q0 (J 27 na q0 - N (220 + 7 * o + 2)) → J2 = rk_uI J1 27 nb q0 0 → J3 = rk_uI J2 27 na q0 0 → (J 27 na q0 - N (220 + 7 * o + 2) = 0 ∨ J 27 na q0 - N (220 + 7 * o + 2) < N 6) → rk_Wp w l rk_mL_isFilled 8 2 48 G 146 [(0, rk_a 11 x), (1, rk_i (nI o)), (2, rk_i (nI oc)), (3, rk_i (nI c)), (4, rk_a 27 na), (5, rk_a 27 nb), (6, rk_i (N (220 + 7 * o + 0))), (7, rk_i (N (220 + 7 * o + 2))), (8, rk_i (nI W)), (9, rk_i (N (220 + 7 * o + 6))), (10, rk_i s), (11, rk_i (nI (r + 1))), (12, rk_i (nI (g + 1))), (13, rk_i (nI q0))] [] Z J3 R := by
          intro J1 J2 J3 e1 e2 e3 z
          have hst : J 27 na (e i) - N (220 + 7 * o + 2) = 0 ∨ J 27 na (e i) - N (220 + 7 * o + 2) < N 6 := by rw [hq0]; exact z
          obtain ⟨g', e', m', hg1, hg2, hR⟩ := h.step (L' := sp_u (J 27 na) (e i) 0) (B' := sp_u (J 27 nb) (e i) 0) hU ho hf hof hF hrW hi hb hsu (Or.inr ⟨hst, rfl, rfl⟩)
          have eL : J3 27 na = sp_u (J 27 na) (e i) 0 := by
            rw [hq0, e3, md_u1, md_as, e2, md_u1, md_an (fun z => hab z.2), e1, md_u1, md_as]
            funext j
            unfold sp_u
            split <;> rfl
          have eB : J3 27 nb = sp_u (J 27 nb) (e i) 0 := by
            rw [hq0, e3, md_u1, md_an (fun z => hab z.2.symm), e2, md_u1, md_as, e1, md_u1, md_an (fun z => hab z.2.symm)]
          rw [← eL, ← eB] at hR
          have hgg : g' = g + 1 := hg1 rfl rfl hst
          rw [hgg] at hR
          exact ih (r + 1) (g + 1) _ e' m' J3 (nI q0) (by omega) hR (((hJ.mf (I1 := J1) (by rw [e1]; exact cl_fr.ui ga)).mf (I1 := J2) (by rw [e2]; exact cl_fr.ui gb)).mf (by rw [e3]; exact cl_fr.ui ga)) (nI_pos' (by omega))
        rw [hq0]
        rw [hq0] at hec
        refine rk_iload dL_isFilled_223 rfl ?_
        refine rk_if_lt 146 dL_isFilled_225 (by decide) (fun qz225 => ?_) (fun qz225 => ?_)
        · skip
          exact absurd qz225 (nI_pos (by omega))
        · skip
          refine rk_aload dL_isFilled_228 rfl ?_
          refine rk_iload dL_isFilled_230 rfl ?_
          refine rk_dup2 dL_isFilled_232 rfl rfl ?_
          refine rk_rn27 (q0) dL_isFilled_233 (by first | rfl | decide | assumption | (simp only [rk_lit, nI_add, pk_mul, nI_1]; done) | (simp only [rk_lit, nI_add, pk_mul, nI_1]; congr 1; omega)) (by first | decide | assumption | omega) ?_
          refine rk_iload dL_isFilled_234 rfl ?_
          refine rk_pc (pc' := 236) rfl ?_
          refine rk_isub dL_isFilled_236 ?_
          refine rk_sn27 (q0) dL_isFilled_237 (by first | rfl | decide | assumption | (simp only [rk_lit, nI_add, pk_mul, nI_1]; done) | (simp only [rk_lit, nI_add, pk_mul, nI_1]; congr 1; omega)) (by first | decide | assumption | omega) (fun Iz1 eIz1 => ?_)
          have hJ1 : lY rg Iz1 R x T N := hJ.mf (by rw [eIz1]; exact cl_fr.ui ga)
          have l1 := rk_ufs eIz1
          refine rk_iinc 1 (ls' := [(11, _), (0, _), (1, _), (2, _), (3, _), (4, _), (5, _), (6, _), (7, _), (8, _), (9, _), (10, _), (12, _), (13, _), (14, _)]) dL_isFilled_238 (by decide) rfl (by decide) rfl ?_
          refine rk_aload dL_isFilled_241 rfl ?_
          refine rk_iload dL_isFilled_243 rfl ?_
          refine rk_rn27 (q0) dL_isFilled_245 (by first | rfl | decide | assumption | (simp only [rk_lit, nI_add, pk_mul, nI_1]; done) | (simp only [rk_lit, nI_add, pk_mul, nI_1]; congr 1; omega)) (by first | decide | assumption | omega) ?_
          rw [l1]
          refine rk_pc (pc' := 246) rfl ?_
          refine rk_if_eq 263 dL_isFilled_246 (by decide) (fun qz246 => ?_) (fun qz246 => ?_)
          · skip
            refine rk_aload dL_isFilled_263 rfl ?_
            refine rk_iload dL_isFilled_265 rfl ?_
            refine rk_iconst 0 dL_isFilled_267 (by decide) ?_
            refine rk_sn27 (q0) dL_isFilled_268 (by first | rfl | decide | assumption | (simp only [rk_lit, nI_add, pk_mul, nI_1]; done) | (simp only [rk_lit, nI_add, pk_mul, nI_1]; congr 1; omega)) (by first | decide | assumption | omega) (fun Iz2 eIz2 => ?_)
            refine rk_aload dL_isFilled_269 rfl ?_
            refine rk_iload dL_isFilled_271 rfl ?_
            refine rk_pc (pc' := 273) rfl ?_
            refine rk_iconst 0 dL_isFilled_273 (by decide) ?_
            refine rk_sn27 (q0) dL_isFilled_274 (by first | rfl | decide | assumption | (simp only [rk_lit, nI_add, pk_mul, nI_1]; done) | (simp only [rk_lit, nI_add, pk_mul, nI_1]; congr 1; omega)) (by first | decide | assumption | omega) (fun Iz3 eIz3 => ?_)
            refine rk_iinc 1 (ls' := [(12, _), (11, _), (0, _), (1, _), (2, _), (3, _), (4, _), (5, _), (6, _), (7, _), (8, _), (9, _), (10, _), (13, _), (14, _)]) dL_isFilled_275 (by decide) rfl (by decide) rfl ?_
            refine rk_goto 146 dL_isFilled_278 (by decide) ?_
            refine rk_ord [0, 1, 2, 3, 4, 5, 6, 7, 8, 9, 10, 11, 12, 13] (ls' := [(0, _), (1, _), (2, _), (3, _), (4, _), (5, _), (6, _), (7, _), (8, _), (9, _), (10, _), (11, _), (12, _), (13, _)]) rfl ?_
            first | (rw [nI_1, nI_1]; exact gone _ _ _ eIz1 eIz2 eIz3 (Or.inl qz246)) | (rw [nI_1, nI_1]; exact gone _ _ _ eIz1 eIz2 eIz3 (Or.inr (Int32.not_le.mp qz260))) | (rw [nI_1]; exact stay _ eIz1 qz246 qz260)
          · skip
            refine rk_aload dL_isFilled_249 rfl ?_
            refine rk_iload dL_isFilled_251 rfl ?_
            refine rk_pc (pc' := 253) rfl ?_
            refine rk_rn27 (q0) dL_isFilled_253 (by first | rfl | decide | assumption | (simp only [rk_lit, nI_add, pk_mul, nI_1]; done) | (simp only [rk_lit, nI_add, pk_mul, nI_1]; congr 1; omega)) (by first | decide | assumption | omega) ?_
            rw [l1]
            refine rk_aload_n 0 dL_isFilled_254 rfl rfl ?_
            refine rk_bipush 15 dL_isFilled_255 (by decide) ?_
            refine rk_cVp (qc15 hJ1) rk_eX10_count rfl ⟨rfl, rfl⟩ rk_kL_8 dL_isFilled_257 rfl (by decide) (Nat.le_of_ble_eq_true rfl) hz ?_
            refine rk_icmp_ge 146 dL_isFilled_260 (by decide) (fun qz260 => ?_) (fun qz260 => ?_)
            · skip
              refine rk_ord [0, 1, 2, 3, 4, 5, 6, 7, 8, 9, 10, 11, 12, 13] (ls' := [(0, _), (1, _), (2, _), (3, _), (4, _), (5, _), (6, _), (7, _), (8, _), (9, _), (10, _), (11, _), (12, _), (13, _)]) rfl ?_
              first | (rw [nI_1, nI_1]; exact gone _ _ _ eIz1 eIz2 eIz3 (Or.inl qz246)) | (rw [nI_1, nI_1]; exact gone _ _ _ eIz1 eIz2 eIz3 (Or.inr (Int32.not_le.mp qz260))) | (rw [nI_1]; exact stay _ eIz1 qz246 qz260)
            · skip
              refine rk_aload dL_isFilled_263 rfl ?_
              refine rk_iload dL_isFilled_265 rfl ?_
              refine rk_pc (pc' := 267) rfl ?_
              refine rk_iconst 0 dL_isFilled_267 (by decide) ?_
              refine rk_sn27 (q0) dL_isFilled_268 (by first | rfl | decide | assumption | (simp only [rk_lit, nI_add, pk_mul, nI_1]; done) | (simp only [rk_lit, nI_add, pk_mul, nI_1]; congr 1; omega)) (by first | decide | assumption | omega) (fun Iz2 eIz2 => ?_)
              refine rk_aload dL_isFilled_269 rfl ?_
              refine rk_iload dL_isFilled_271 rfl ?_
              refine rk_iconst 0 dL_isFilled_273 (by decide) ?_
              refine rk_sn27 (q0) dL_isFilled_274 (by first | rfl | decide | assumption | (simp only [rk_lit, nI_add, pk_mul, nI_1]; done) | (simp only [rk_lit, nI_add, pk_mul, nI_1]; congr 1; omega)) (by first | decide | assumption | omega) (fun Iz3 eIz3 => ?_)
              refine rk_pc (pc' := 275) rfl ?_
              refine rk_iinc 1 (ls' := [(12, _), (11, _), (0, _), (1, _), (2, _), (3, _), (4, _), (5, _), (6, _), (7, _), (8, _), (9, _), (10, _), (13, _), (14, _)]) dL_isFilled_275 (by decide) rfl (by decide) rfl ?_
              refine rk_goto 146 dL_isFilled_278 (by decide) ?_
              refine rk_ord [0, 1, 2, 3, 4, 5, 6, 7, 8, 9, 10, 11, 12, 13] (ls' := [(0, _), (1, _), (2, _), (3, _), (4, _), (5, _), (6, _), (7, _), (8, _), (9, _), (10, _), (11, _), (12, _), (13, _)]) rfl ?_
              first | (rw [nI_1, nI_1]; exact gone _ _ _ eIz1 eIz2 eIz3 (Or.inl qz246)) | (rw [nI_1, nI_1]; exact gone _ _ _ eIz1 eIz2 eIz3 (Or.inr (Int32.not_le.mp qz260))) | (rw [nI_1]; exact stay _ eIz1 qz246 qz260)
    refine rk_iload dL_isFilled_146 rfl ?_
    refine rk_if_lt 281 dL_isFilled_148 (by decide) (fun qz148 => ?_) (fun qz148 => ?_)
    · skip
      exact absurd qz148 (Int32.not_lt.mpr hv)
    · skip
      refine rk_iload dL_isFilled_151 rfl ?_
      refine rk_iload dL_isFilled_153 rfl ?_
      refine rk_icmp_ge 281 dL_isFilled_155 (by decide) (fun qz155 => ?_) (fun qz155 => ?_)
      · skip
        exact absurd qz155 hnW
      · skip
        refine rk_iconst (-1) dL_isFilled_158 (by decide) ?_
        refine rk_istore (ls' := [(13, _), (0, _), (1, _), (2, _), (3, _), (4, _), (5, _), (6, _), (7, _), (8, _), (9, _), (10, _), (11, _), (12, _)]) dL_isFilled_159 (by decide) rfl ?_
        refine rk_iload_n 3 dL_isFilled_161 rfl rfl ?_
        refine rk_pc (pc' := 162) rfl ?_
        refine rk_iconst 1 dL_isFilled_162 (by decide) ?_
        refine rk_isub dL_isFilled_163 ?_
        refine rk_istore (ls' := [(14, _), (13, _), (0, _), (1, _), (2, _), (3, _), (4, _), (5, _), (6, _), (7, _), (8, _), (9, _), (10, _), (11, _), (12, _)]) dL_isFilled_164 (by decide) rfl ?_
        refine rk_ord [0, 1, 2, 3, 4, 5, 6, 7, 8, 9, 10, 11, 12, 13, 14] (ls' := [(0, _), (1, _), (2, _), (3, _), (4, _), (5, _), (6, _), (7, _), (8, _), (9, _), (10, _), (11, _), (12, _), (13, _), (14, _)]) rfl ?_
        exact cL_isFilled_b hc2 hz k223 c (-1) (Nat.le_refl c) (Or.inl ⟨rfl, fun q h1 h2 => absurd h1 (by omega)⟩)
theorem cL_isFilled_d {o oc c na W : Nat} {Z : rk_Z} {G : List Frame → Array Value → State → State → Prop} {r : Int32} {P : Nat → Int32} {e : Nat → Nat} {m : Nat} (hY : lY rg J R x T P) (hm : P 12 = nI m) (hm2 : m ≤ 24) (hc2 : c ≤ 24) (hz : Z.2.1 ≤ 2 ∧ Z.2.2 ≤ 48) (e1 : ∀ i, i < m → P (50 + 7 * i + 3) = J 27 na (e i)) (e2 : ∀ i, i < m → 0 < J 27 na (e i)) (e4 : ∀ i j, i < j → j < m → e i < e j) (e5 : ∀ p, p < c → (∃ i, i < m ∧ e i = p) ∨ J 27 na p = 0) (K : ∀ z21 z22 : Int32, rk_Wp w l rk_mL_isFilled 8 2 48 G 503 [(0, rk_a 11 x), (1, rk_i (nI o)), (2, rk_i (nI oc)), (3, rk_i (nI c)), (4, rk_a 27 na), (8, rk_i (nI W)), (11, rk_i r), (21, rk_i z21), (22, rk_i z22)] [] Z J R) : ∀ (n p kk : Nat), p + n = c → (∀ i, i < kk → e i < p) → (∀ i, kk ≤ i → i < m → p ≤ e i) → kk ≤ m → rk_Wp w l rk_mL_isFilled 8 2 48 G 463 [(0, rk_a 11 x), (1, rk_i (nI o)), (2, rk_i (nI oc)), (3, rk_i (nI c)), (4, rk_a 27 na), (8, rk_i (nI W)), (11, rk_i r), (21, rk_i (nI kk)), (22, rk_i (nI p))] [] Z J R := by
  intro n
  induction n with
  | zero =>
    intro p kk hp h1 h2 h3
    obtain rfl : p = c := by omega
    refine rk_iload dL_isFilled_463 rfl ?_
    refine rk_iload_n 3 dL_isFilled_465 rfl rfl ?_
    refine rk_icmp_ge 503 dL_isFilled_466 (by decide) (fun qz466 => ?_) (fun qz466 => ?_)
    · skip
      exact K _ _
    · skip
      exact absurd (nI_le (Nat.le_refl p) (by omega)) qz466
  | succ n ih =>
    intro p kk hp h1 h2 h3
    have hpc : p < c := by omega
    have hn : ¬ nI c ≤ nI p := nI_ge (by omega) (by omega)
    rcases e5 p hpc with ⟨i, hi, rfl⟩ | hz0
    · have hik : i = kk := by
        refine Classical.byContradiction (fun z => ?_)
        rcases Nat.lt_or_gt_of_ne z with q | q
        · have := h1 i q; omega
        · have := h2 kk (Nat.le_refl _) (by omega)
          have := e4 kk i q hi
          omega
      subst hik
      have hpos := e2 i hi
      have hpc24 : e i < 24 := by omega
      obtain ⟨p0, hp0⟩ : ∃ p0, e i = p0 := ⟨_, rfl⟩
      have hn2 := ih (e i + 1) (i + 1) (by omega) (fun j hj => by
        by_cases hji : j = i
        · subst hji; omega
        · have := e4 j i (by omega) hi; omega) (fun j hj hjm => by have := e4 i j (by omega) hjm; omega) (by omega)
      have hv := e1 i hi
      rw [hp0] at hn2 hn hpos hpc24 hv ⊢
      refine rk_iload dL_isFilled_463 rfl ?_
      refine rk_iload_n 3 dL_isFilled_465 rfl rfl ?_
      refine rk_icmp_ge 503 dL_isFilled_466 (by decide) (fun qz466 => ?_) (fun qz466 => ?_)
      · skip
        exact absurd qz466 hn
      · skip
        refine rk_aload dL_isFilled_469 rfl ?_
        refine rk_iload dL_isFilled_471 rfl ?_
        refine rk_rn27 (p0) dL_isFilled_473 (by first | rfl | decide | assumption | (simp only [rk_lit, nI_add, pk_mul, nI_1]; done) | (simp only [rk_lit, nI_add, pk_mul, nI_1]; congr 1; omega)) (by first | decide | assumption | omega) ?_
        refine rk_if_le 497 dL_isFilled_474 (by decide) (fun qz474 => ?_) (fun qz474 => ?_)
        · skip
          exact absurd hpos (Int32.not_lt.mpr qz474)
        · skip
          refine rk_aload_n 0 dL_isFilled_477 rfl rfl ?_
          refine rk_pc (pc' := 478) rfl ?_
          refine rk_iload dL_isFilled_478 rfl ?_
          refine rk_iconst 3 dL_isFilled_480 (by decide) ?_
          refine rk_cVp (qp (k := 3) hY hm hm2 hi (by decide) rfl rfl) rk_eX10_piece rfl ⟨rfl, rfl⟩ rk_kL_14 dL_isFilled_481 rfl (by decide) (Nat.le_of_ble_eq_true rfl) hz ?_
          refine rk_aload dL_isFilled_484 rfl ?_
          refine rk_iload dL_isFilled_486 rfl ?_
          refine rk_rn27 (p0) dL_isFilled_488 (by first | rfl | decide | assumption | (simp only [rk_lit, nI_add, pk_mul, nI_1]; done) | (simp only [rk_lit, nI_add, pk_mul, nI_1]; congr 1; omega)) (by first | decide | assumption | omega) ?_
          refine rk_pc (pc' := 489) rfl ?_
          refine rk_icmp_eq 494 dL_isFilled_489 (by decide) (fun qz489 => ?_) (fun qz489 => ?_)
          · skip
            refine rk_iinc 1 (ls' := [(21, _), (0, _), (1, _), (2, _), (3, _), (4, _), (8, _), (11, _), (22, _)]) dL_isFilled_494 (by decide) rfl (by decide) rfl ?_
            refine rk_iinc 1 (ls' := [(22, _), (21, _), (0, _), (1, _), (2, _), (3, _), (4, _), (8, _), (11, _)]) dL_isFilled_497 (by decide) rfl (by decide) rfl ?_
            refine rk_goto 463 dL_isFilled_500 (by decide) ?_
            refine rk_ord [0, 1, 2, 3, 4, 8, 11, 21, 22] (ls' := [(0, _), (1, _), (2, _), (3, _), (4, _), (8, _), (11, _), (21, _), (22, _)]) rfl ?_
            rw [nI_1, nI_1]
            exact hn2
          · skip
            exact absurd hv qz489
    · have hn2 := ih (p + 1) kk (by omega) (fun j hj => by have := h1 j hj; omega) (fun j hj hjm => by
        have g1 := h2 j hj hjm
        have g2 : e j ≠ p := fun z => by
          have g3 := e2 j hjm
          rw [z, hz0] at g3
          exact absurd g3 (by decide)
        omega) h3
      have hle : J 27 na p ≤ 0 := by rw [hz0]; decide
      refine rk_iload dL_isFilled_463 rfl ?_
      refine rk_iload_n 3 dL_isFilled_465 rfl rfl ?_
      refine rk_icmp_ge 503 dL_isFilled_466 (by decide) (fun qz466 => ?_) (fun qz466 => ?_)
      · skip
        exact absurd qz466 hn
      · skip
        refine rk_aload dL_isFilled_469 rfl ?_
        refine rk_iload dL_isFilled_471 rfl ?_
        refine rk_rn27 (p) dL_isFilled_473 (by first | rfl | decide | assumption | (simp only [rk_lit, nI_add, pk_mul, nI_1]; done) | (simp only [rk_lit, nI_add, pk_mul, nI_1]; congr 1; omega)) (by first | decide | assumption | omega) ?_
        refine rk_if_le 497 dL_isFilled_474 (by decide) (fun qz474 => ?_) (fun qz474 => ?_)
        · skip
          refine rk_iinc 1 (ls' := [(22, _), (0, _), (1, _), (2, _), (3, _), (4, _), (8, _), (11, _), (21, _)]) dL_isFilled_497 (by decide) rfl (by decide) rfl ?_
          refine rk_pc (pc' := 500) rfl ?_
          refine rk_goto 463 dL_isFilled_500 (by decide) ?_
          refine rk_ord [0, 1, 2, 3, 4, 8, 11, 21, 22] (ls' := [(0, _), (1, _), (2, _), (3, _), (4, _), (8, _), (11, _), (21, _), (22, _)]) rfl ?_
          rw [nI_1]
          exact hn2
        · skip
          exact absurd hle qz474
theorem fill_P {o oc c W f r g m : Nat} {e : Nat → Nat} {L B : Nat → Int32} (h : fR N T U o c W f r g M e m L B) (hcf : sp_cf o W N = (M, r)) (h13 : N 13 = nI oc) (hoc : oc ≤ 16) (ho : o < oc) (hW : N (220 + 7 * o + 3) = nI W) (hW1 : 1 ≤ W) (hW2 : W ≤ 20) : ∃ (P : Nat → Int32) (ans : Int32), (sp_fill N (nI o)).1 = ans ∧ (sp_fill N (nI o)).2.getD N = P ∧ ((r = 0 ∧ ans = -5) ∨ (0 < r ∧ ans = nI r)) ∧ (∀ j, j ≠ 13 → j < 220 → P j = M j) ∧ (r = W → P 13 = nI (oc - 1)) ∧ (r ≠ W → P 13 = nI oc ∧ P (220 + 7 * o + 3) = nI (W - r)) := by
  have hio : sp_isor N (nI o) := ⟨nI_pos' (by omega), by rw [h13, rk_pred (by omega)]; exact nI_le (by omega) (by omega)⟩
  have co : (nI o).toNatClampNeg = o := nI_clamp (by omega)
  have cW : sp_c N (220 + 7 * o + 3) = W := sp_cN hW (by omega)
  have m13 : M 13 = nI oc := (h.2.2.2.2.2.1 13 (by omega)).trans h13
  have m3 := h.2.2.2.2.2.2.1
  have hrW := h.2.1
  by_cases hb : sp_bq N o < 0
  · have e0 := sp_cf0 (n := W) hb
    rw [hcf] at e0
    have eM : M = N := congrArg Prod.fst e0
    have er : r = 0 := congrArg Prod.snd e0
    have hsp : sp_fill N (nI o) = (-5, none) := by
      unfold sp_fill
      rw [if_pos hio, co, if_pos hb]
    refine ⟨N, -5, by rw [hsp], by rw [hsp]; rfl, Or.inl ⟨er, rfl⟩, fun j j1 j2 => by rw [eM], fun z => absurd z (by omega), fun _ => ⟨h13, by rw [er, Nat.sub_zero]; exact hW⟩⟩
  · have hsp : sp_fill N (nI o) = (nI r, some (sp_fillN N o W)) := by
      unfold sp_fill
      rw [if_pos hio, co, if_neg hb, cW, hcf]
    have hr0 : 0 < r := by
      obtain ⟨n, rfl⟩ : ∃ n, W = n + 1 := ⟨W - 1, by omega⟩
      have e1 : (sp_cf o (n + 1) N).2 = (sp_cf o n (sp_step N o (sp_bq N o).toNatClampNeg)).2 + 1 := by
        simp only [sp_cf]
        rw [if_neg hb]
      rw [hcf] at e1
      have e2 : r = (sp_cf o n (sp_step N o (sp_bq N o).toNatClampNeg)).2 + 1 := e1
      omega
    have efN : sp_fillN N o W = if M (220 + 7 * o + 3) = 0 then sp_gone M 13 220 o else M := by
      unfold sp_fillN
      rw [hcf]
    by_cases hrw : r = W
    · have z3 : M (220 + 7 * o + 3) = 0 := by rw [m3, hrw, Nat.sub_self]; exact nI_0
      rw [if_pos z3] at efN
      exact ⟨sp_fillN N o W, nI r, by rw [hsp], by rw [hsp]; rfl, Or.inr ⟨hr0, rfl⟩, fun j j1 j2 => by rw [efN]; exact sp_gone_x m13 (by omega) j1 (by omega), fun _ => by rw [efN]; exact sp_gone_n m13 (by omega), fun z => absurd hrw z⟩
    · have z3 : ¬ M (220 + 7 * o + 3) = 0 := by rw [m3]; exact nI_ne0 (by omega) (by omega)
      rw [if_neg z3] at efN
      exact ⟨sp_fillN N o W, nI r, by rw [hsp], by rw [hsp]; rfl, Or.inr ⟨hr0, rfl⟩, fun j j1 j2 => by rw [efN], fun z => absurd z hrw, fun _ => ⟨by rw [efN]; exact m13, by rw [efN]; exact m3⟩⟩
theorem would_v {o oc W r : Nat} (hcf : sp_cf o W N = (M, r)) (h13 : N 13 = nI oc) (hoc : oc ≤ 16) (ho : o < oc) (hW : N (220 + 7 * o + 3) = nI W) (hW2 : W ≤ 20) {f : Nat} (hf : f < 3) (hof : N (220 + 7 * o + 0) = nI f) : sp_would N (nI o) 0 = nI r ∧ sp_would N (nI o) 1 = M (30 + 4 * f + 3) - N (30 + 4 * f + 3) ∧ sp_would N (nI o) 2 = M 12 := by
  have hio : sp_isor N (nI o) := ⟨nI_pos' (by omega), by rw [h13, rk_pred (by omega)]; exact nI_le (by omega) (by omega)⟩
  have co : (nI o).toNatClampNeg = o := nI_clamp (by omega)
  have cW : sp_c N (220 + 7 * o + 3) = W := sp_cN hW (by omega)
  have cf : sp_c N (220 + 7 * o + 0) = f := sp_cN hof (by omega)
  unfold sp_would
  rw [if_pos hio, if_pos hio, if_pos hio, co, cW, hcf, cf]
  exact ⟨by rw [if_pos (by decide)]; rfl, by rw [if_pos (by decide)]; rfl, by rw [if_pos (by decide)]; rfl⟩
theorem cL_isFilled_e {o oc c na nb W f r g m : Nat} {e : Nat → Nat} {Z : rk_Z} {v : Int32} (hk : k ≤ 200) (hd : (N 10).toInt ≤ 4 * (k : Int)) (h13 : N 13 = nI oc) (hoc : oc ≤ 16) (ho : o < oc) (hc : N 12 = nI c) (hc2 : c ≤ 24) (hf : f < 3) (hof : N (220 + 7 * o + 0) = nI f) (hW : N (220 + 7 * o + 3) = nI W) (hW1 : 1 ≤ W) (hW2 : W ≤ 20) (ga : rg na = 104) (hz : Z.2.1 ≤ 2 ∧ Z.2.2 ≤ 48) (hkd : ∀ q, Sh.2 q ≠ 0 → Z.1.2 q = Sh.2 q) (hR : fR N (k : Int) (3000000 * (k : Int)) o c W f r g M e m (J 27 na) (J 27 nb)) (hcf : sp_cf o W N = (M, r)) (hJ : lY rg J R x (k : Int) N) : rk_Wp w l rk_mL_isFilled 8 2 48 (rk_G w (fun r u => ∃ x', r = some (rk_i x') ∧ (∀ q, Sh.2 q ≠ 0 → u.1.2 q = Sh.2 q) ∧ lZ rg x k x' u) 2 48) 281 [(0, rk_a 11 x), (1, rk_i (nI o)), (2, rk_i (nI oc)), (3, rk_i (nI c)), (4, rk_a 27 na), (5, rk_a 27 nb), (6, rk_i (N (220 + 7 * o + 0))), (7, rk_i (N (220 + 7 * o + 2))), (8, rk_i (nI W)), (9, rk_i (N (220 + 7 * o + 6))), (10, rk_i (sp_ns N (sp_P N) (sp_O N o) c)), (11, rk_i (nI r)), (12, rk_i (nI g)), (13, rk_i v)] [] Z J R := by
  have hm24 : m ≤ 24 := hR.2.2.1.1
  have hrW := hR.2.1
  have hmg := hR.1
  have ec : sp_c N 12 = c := sp_cN hc (by omega)
  have hcg : nI c - nI g = nI m := by rw [pk_sub (by omega)]; congr 1; omega
  obtain ⟨w0, w1, w2⟩ := would_v hcf h13 hoc ho hW hW2 hf hof
  have w2' : sp_would N (nI o) 2 = nI m := w2.trans hR.2.2.1.2.1
  obtain ⟨P, ans, hfa, hfP, hans, pM, p13a, p13b⟩ := fill_P hR hcf h13 hoc ho hW hW1 hW2
  have p12 : P 12 = nI m := (pM 12 (by decide) (by decide)).trans hR.2.2.1.2.1
  have p14 : P 14 = N 14 + nI r := (pM 14 (by decide) (by decide)).trans hR.2.2.2.2.2.2.2.1
  have p15 : P 15 = N 15 + N (220 + 7 * o + 6) * nI r := (pM 15 (by decide) (by decide)).trans hR.2.2.2.2.2.2.2.2.1
  have p5 : sp_acc P f 5 = sp_acc N f 5 + (M (30 + 4 * f + 3) - N (30 + 4 * f + 3)) := by
    show P (30 + 4 * f + 3) = N (30 + 4 * f + 3) + (M (30 + 4 * f + 3) - N (30 + 4 * f + 3))
    rw [pM _ (by omega) (by omega)]
    grind
  have p3 : sp_acc N f 3 ≤ sp_acc P f 3 := by
    show N (30 + 4 * f + 1) ≤ P (30 + 4 * f + 1)
    rw [pM _ (by omega) (by omega)]
    exact Int32.le_iff_toInt_le.mpr hR.2.2.2.2.2.2.2.2.2.1
  have sP : si (3000000 * (k : Int)) P := hR.2.2.2.1.cg hR.2.2.1.2.1 hm24 (pM 12 (by decide) (by decide)) (fun j hj => pM j (by omega) (by omega)) (fun p hp => ⟨pM _ (by omega) (by omega), pM _ (by omega) (by omega)⟩)
  have dP : (P 10).toInt ≤ 4 * (k : Int) := by
    rw [pM 10 (by decide) (by decide), hR.2.2.2.2.2.1 10 (by omega)]; exact hd
  have q1 : ∀ i, i < m → P (50 + 7 * i + 3) = J 27 na (e i) := fun i hi => (pM _ (by omega) (by omega)).trans (hR.2.2.2.2.2.2.2.2.2.2.2.2.1 i hi).1
  have q2 : ∀ i, i < m → 0 < J 27 na (e i) := fun i hi => by
    rw [← (hR.2.2.2.2.2.2.2.2.2.2.2.2.1 i hi).1]
    exact Int32.lt_iff_toInt_lt.mpr (hR.2.2.1.2.2.2.1 i hi).1
  have q5 : ∀ p, p < c → (∃ i, i < m ∧ e i = p) ∨ J 27 na p = 0 := fun p hp => (hR.2.2.2.2.2.2.2.2.2.2.2.2.2 p hp).imp id (fun z => z.1)
  have k503 : ∀ (J4 : rk_Mm) (R4 : rk_Rm), lY rg J4 R4 x ((k : Int) + 1) P → ∀ z21 z22 : Int32, rk_Wp w l rk_mL_isFilled 8 2 48 (rk_G w (fun r u => ∃ x', r = some (rk_i x') ∧ (∀ q, Sh.2 q ≠ 0 → u.1.2 q = Sh.2 q) ∧ lZ rg x k x' u) 2 48) 503 [(0, rk_a 11 x), (1, rk_i (nI o)), (2, rk_i (nI oc)), (3, rk_i (nI c)), (4, rk_a 27 na), (8, rk_i (nI W)), (11, rk_i (nI r)), (21, rk_i z21), (22, rk_i z22)] [] Z J4 R4 := by
    intro J4 R4 hY4 z21 z22
    by_cases hrw : r = W
    · have e1 : nI r = nI W := by rw [hrw]
      have e13 := p13a hrw
      refine rk_iload dL_isFilled_503 rfl ?_
      refine rk_iload dL_isFilled_505 rfl ?_
      refine rk_icmp_ne 529 dL_isFilled_507 (by decide) (fun qz507 => ?_) (fun qz507 => ?_)
      · skip
        exact absurd e1 qz507
      · skip
        refine rk_aload_n 0 dL_isFilled_510 rfl rfl ?_
        refine rk_iconst 2 dL_isFilled_511 (by decide) ?_
        refine rk_cVp (qc2 hY4) rk_eX10_count rfl ⟨rfl, rfl⟩ rk_kL_8 dL_isFilled_512 rfl (by decide) (Nat.le_of_ble_eq_true rfl) hz ?_
        refine rk_iload_n 2 dL_isFilled_515 rfl rfl ?_
        refine rk_pc (pc' := 516) rfl ?_
        refine rk_iconst 1 dL_isFilled_516 (by decide) ?_
        refine rk_isub dL_isFilled_517 ?_
        refine rk_icmp_ne 525 dL_isFilled_518 (by decide) (fun qz518 => ?_) (fun qz518 => ?_)
        · skip
          exact absurd (e13.trans (rk_pred (by omega)).symm) qz518
        · skip
          refine rk_iconst 1 dL_isFilled_521 (by decide) ?_
          refine rk_goto 557 dL_isFilled_522 (by decide) ?_
          refine rk_iretN dL_isFilled_557 rfl (by decide) ?_
          exact ⟨hz, hkd, rfl, P, lX.of hY4 sP dP⟩
    · have e1 : ¬ nI r = nI W := fun z => hrw ((nI_eq (by omega) (by omega)).mp z)
      obtain ⟨e13, e3⟩ := p13b hrw
      refine rk_iload dL_isFilled_503 rfl ?_
      refine rk_iload dL_isFilled_505 rfl ?_
      refine rk_icmp_ne 529 dL_isFilled_507 (by decide) (fun qz507 => ?_) (fun qz507 => ?_)
      · skip
        refine rk_aload_n 0 dL_isFilled_529 rfl rfl ?_
        refine rk_iconst 2 dL_isFilled_530 (by decide) ?_
        refine rk_cVp (qc2 hY4) rk_eX10_count rfl ⟨rfl, rfl⟩ rk_kL_8 dL_isFilled_531 rfl (by decide) (Nat.le_of_ble_eq_true rfl) hz ?_
        refine rk_iload_n 2 dL_isFilled_534 rfl rfl ?_
        refine rk_pc (pc' := 535) rfl ?_
        refine rk_icmp_ne 556 dL_isFilled_535 (by decide) (fun qz535 => ?_) (fun qz535 => ?_)
        · skip
          exact absurd e13 qz535
        · skip
          refine rk_aload_n 0 dL_isFilled_538 rfl rfl ?_
          refine rk_iload_n 1 dL_isFilled_539 rfl rfl ?_
          refine rk_iconst 3 dL_isFilled_540 (by decide) ?_
          refine rk_cVp (qo (k := 3) hY4 e13 hoc ho (by decide) rfl rfl) rk_eX10_ofOrder rfl ⟨rfl, rfl⟩ rk_kL_65 dL_isFilled_541 rfl (by decide) (Nat.le_of_ble_eq_true rfl) hz ?_
          refine rk_iload dL_isFilled_544 rfl ?_
          refine rk_iload dL_isFilled_546 rfl ?_
          refine rk_pc (pc' := 548) rfl ?_
          refine rk_isub dL_isFilled_548 ?_
          refine rk_icmp_ne 556 dL_isFilled_549 (by decide) (fun qz549 => ?_) (fun qz549 => ?_)
          · skip
            exact absurd (e3.trans (pk_sub hrW).symm) qz549
          · skip
            refine rk_iconst 1 dL_isFilled_552 (by decide) ?_
            refine rk_goto 557 dL_isFilled_553 (by decide) ?_
            refine rk_iretN dL_isFilled_557 rfl (by decide) ?_
            exact ⟨hz, hkd, rfl, P, lX.of hY4 sP dP⟩
      · skip
        exact absurd qz507 e1
  have k363 : ∀ (J3 : rk_Mm) (R3 : rk_Rm), lY rg J3 R3 x (k : Int) N → J3 27 na = J 27 na → rk_Wp w l rk_mL_isFilled 8 2 48 (rk_G w (fun r u => ∃ x', r = some (rk_i x') ∧ (∀ q, Sh.2 q ≠ 0 → u.1.2 q = Sh.2 q) ∧ lZ rg x k x' u) 2 48) 363 [(0, rk_a 11 x), (1, rk_i (nI o)), (2, rk_i (nI oc)), (3, rk_i (nI c)), (4, rk_a 27 na), (6, rk_i (N (220 + 7 * o + 0))), (8, rk_i (nI W)), (9, rk_i (N (220 + 7 * o + 6))), (11, rk_i (nI r)), (12, rk_i (nI g)), (14, rk_i (sp_acc N f 3)), (15, rk_i (sp_acc N f 5)), (16, rk_i (N 15)), (17, rk_i (N 14)), (19, rk_i (M (30 + 4 * f + 3) - N (30 + 4 * f + 3)))] [] Z J3 R3 := by
    intro J3 R3 hJ3 hJL
    rcases hans with ⟨hr0, rfl⟩ | ⟨hr0, rfl⟩
    · subst hr0
      refine rk_aload_n 0 dL_isFilled_363 rfl rfl ?_
      refine rk_iload_n 1 dL_isFilled_364 rfl rfl ?_
      refine rk_cVi (lq_fill hJ3 _) rk_eX10_fill rfl ⟨rfl, rfl⟩ rk_kL_72 dL_isFilled_365 rfl (by decide) (Nat.le_of_ble_eq_true rfl) hz (fun xz1 Iz1 Rz1 hz1 => ?_)
      obtain ⟨ex, hY2, fr⟩ := hz1
      have ex2 := ex.trans hfa
      have hY3 : lY rg Iz1 Rz1 x ((k : Int) + 1) P := (by rw [← hfP]; exact hY2)
      have eL : Iz1 27 na = J 27 na := (fr.1 27 na (by rw [ga]; decide)).trans hJL
      refine rk_istore (ls' := [(20, _), (0, _), (1, _), (2, _), (3, _), (4, _), (6, _), (8, _), (9, _), (11, _), (12, _), (14, _), (15, _), (16, _), (17, _), (19, _)]) dL_isFilled_368 (by decide) rfl ?_
      refine rk_iload dL_isFilled_370 rfl ?_
      refine rk_iload dL_isFilled_372 rfl ?_
      refine rk_pc (pc' := 374) rfl ?_
      refine rk_if_ne 382 dL_isFilled_374 (by decide) (fun qz374 => ?_) (fun qz374 => ?_)
      · skip
        exact absurd nI_0 qz374
      · skip
        refine rk_bipush (-5) dL_isFilled_377 (by decide) ?_
        refine rk_goto 384 dL_isFilled_379 (by decide) ?_
        refine rk_icmp_ne 455 dL_isFilled_384 (by decide) (fun qz384 => ?_) (fun qz384 => ?_)
        · skip
          exact absurd ex2 qz384
        · skip
          refine rk_aload_n 0 dL_isFilled_387 rfl rfl ?_
          refine rk_iconst 1 dL_isFilled_388 (by decide) ?_
          refine rk_cVp (qc1 hY3) rk_eX10_count rfl ⟨rfl, rfl⟩ rk_kL_8 dL_isFilled_389 rfl (by decide) (Nat.le_of_ble_eq_true rfl) hz ?_
          refine rk_iload_n 3 dL_isFilled_392 rfl rfl ?_
          refine rk_pc (pc' := 393) rfl ?_
          refine rk_iload dL_isFilled_393 rfl ?_
          refine rk_isub dL_isFilled_395 ?_
          refine rk_icmp_ne 455 dL_isFilled_396 (by decide) (fun qz396 => ?_) (fun qz396 => ?_)
          · skip
            exact absurd (p12.trans hcg.symm) qz396
          · skip
            refine rk_aload_n 0 dL_isFilled_399 rfl rfl ?_
            refine rk_iconst 4 dL_isFilled_400 (by decide) ?_
            refine rk_cVp (qc4 hY3) rk_eX10_count rfl ⟨rfl, rfl⟩ rk_kL_8 dL_isFilled_401 rfl (by decide) (Nat.le_of_ble_eq_true rfl) hz ?_
            refine rk_iload dL_isFilled_404 rfl ?_
            refine rk_pc (pc' := 406) rfl ?_
            refine rk_iload dL_isFilled_406 rfl ?_
            refine rk_iadd dL_isFilled_408 ?_
            refine rk_icmp_ne 455 dL_isFilled_409 (by decide) (fun qz409 => ?_) (fun qz409 => ?_)
            · skip
              exact absurd p14 qz409
            · skip
              refine rk_aload_n 0 dL_isFilled_412 rfl rfl ?_
              refine rk_iconst 5 dL_isFilled_413 (by decide) ?_
              refine rk_cVp (qc5 hY3) rk_eX10_count rfl ⟨rfl, rfl⟩ rk_kL_8 dL_isFilled_414 rfl (by decide) (Nat.le_of_ble_eq_true rfl) hz ?_
              refine rk_iload dL_isFilled_417 rfl ?_
              refine rk_pc (pc' := 419) rfl ?_
              refine rk_iload dL_isFilled_419 rfl ?_
              refine rk_iload dL_isFilled_421 rfl ?_
              refine rk_imul dL_isFilled_423 ?_
              refine rk_iadd dL_isFilled_424 ?_
              refine rk_icmp_ne 455 dL_isFilled_425 (by decide) (fun qz425 => ?_) (fun qz425 => ?_)
              · skip
                exact absurd p15 qz425
              · skip
                refine rk_aload_n 0 dL_isFilled_428 rfl rfl ?_
                refine rk_iload dL_isFilled_429 rfl ?_
                refine rk_pc (pc' := 431) rfl ?_
                refine rk_iconst 5 dL_isFilled_431 (by decide) ?_
                refine rk_cVp (qa (k := 5) hY3 hf (by decide) hof rfl) rk_eX10_account rfl ⟨rfl, rfl⟩ rk_kL_18 dL_isFilled_432 rfl (by decide) (Nat.le_of_ble_eq_true rfl) hz ?_
                refine rk_iload dL_isFilled_435 rfl ?_
                refine rk_iload dL_isFilled_437 rfl ?_
                refine rk_iadd dL_isFilled_439 ?_
                refine rk_icmp_ne 455 dL_isFilled_440 (by decide) (fun qz440 => ?_) (fun qz440 => ?_)
                · skip
                  exact absurd p5 qz440
                · skip
                  refine rk_aload_n 0 dL_isFilled_443 rfl rfl ?_
                  refine rk_pc (pc' := 444) rfl ?_
                  refine rk_iload dL_isFilled_444 rfl ?_
                  refine rk_iconst 3 dL_isFilled_446 (by decide) ?_
                  refine rk_cVp (qa (k := 3) hY3 hf (by decide) hof rfl) rk_eX10_account rfl ⟨rfl, rfl⟩ rk_kL_18 dL_isFilled_447 rfl (by decide) (Nat.le_of_ble_eq_true rfl) hz ?_
                  refine rk_iload dL_isFilled_450 rfl ?_
                  refine rk_icmp_ge 457 dL_isFilled_452 (by decide) (fun qz452 => ?_) (fun qz452 => ?_)
                  · skip
                    refine rk_iconst 0 dL_isFilled_457 (by decide) ?_
                    refine rk_istore (ls' := [(21, _), (20, _), (0, _), (1, _), (2, _), (3, _), (4, _), (6, _), (8, _), (9, _), (11, _), (12, _), (14, _), (15, _), (16, _), (17, _), (19, _)]) dL_isFilled_458 (by decide) rfl ?_
                    refine rk_pc (pc' := 460) rfl ?_
                    refine rk_iconst 0 dL_isFilled_460 (by decide) ?_
                    refine rk_istore (ls' := [(22, _), (21, _), (20, _), (0, _), (1, _), (2, _), (3, _), (4, _), (6, _), (8, _), (9, _), (11, _), (12, _), (14, _), (15, _), (16, _), (17, _), (19, _)]) dL_isFilled_461 (by decide) rfl ?_
                    refine rk_ord [0, 1, 2, 3, 4, 8, 11, 21, 22] (ls' := [(0, _), (1, _), (2, _), (3, _), (4, _), (8, _), (11, _), (21, _), (22, _)]) rfl ?_
                    exact cL_isFilled_d hY3 p12 hm24 hc2 hz (fun i hi => by rw [eL]; exact q1 i hi) (fun i hi => by rw [eL]; exact q2 i hi) hR.2.2.2.2.2.2.2.2.2.2.2.1 (fun p hp => by rw [eL]; exact q5 p hp) (k503 _ _ hY3) c 0 0 (by omega) (fun i hi => absurd hi (Nat.not_lt_zero i)) (fun i _ _ => Nat.zero_le _) (Nat.zero_le _)
                  · skip
                    exact absurd p3 qz452
    · skip
      refine rk_aload_n 0 dL_isFilled_363 rfl rfl ?_
      refine rk_iload_n 1 dL_isFilled_364 rfl rfl ?_
      refine rk_cVi (lq_fill hJ3 _) rk_eX10_fill rfl ⟨rfl, rfl⟩ rk_kL_72 dL_isFilled_365 rfl (by decide) (Nat.le_of_ble_eq_true rfl) hz (fun xz1 Iz1 Rz1 hz1 => ?_)
      obtain ⟨ex, hY2, fr⟩ := hz1
      have ex2 := ex.trans hfa
      have hY3 : lY rg Iz1 Rz1 x ((k : Int) + 1) P := (by rw [← hfP]; exact hY2)
      have eL : Iz1 27 na = J 27 na := (fr.1 27 na (by rw [ga]; decide)).trans hJL
      refine rk_istore (ls' := [(20, _), (0, _), (1, _), (2, _), (3, _), (4, _), (6, _), (8, _), (9, _), (11, _), (12, _), (14, _), (15, _), (16, _), (17, _), (19, _)]) dL_isFilled_368 (by decide) rfl ?_
      refine rk_iload dL_isFilled_370 rfl ?_
      refine rk_iload dL_isFilled_372 rfl ?_
      refine rk_pc (pc' := 374) rfl ?_
      refine rk_if_ne 382 dL_isFilled_374 (by decide) (fun qz374 => ?_) (fun qz374 => ?_)
      · skip
        refine rk_iload dL_isFilled_382 rfl ?_
        refine rk_icmp_ne 455 dL_isFilled_384 (by decide) (fun qz384 => ?_) (fun qz384 => ?_)
        · skip
          exact absurd ex2 qz384
        · skip
          refine rk_aload_n 0 dL_isFilled_387 rfl rfl ?_
          refine rk_iconst 1 dL_isFilled_388 (by decide) ?_
          refine rk_cVp (qc1 hY3) rk_eX10_count rfl ⟨rfl, rfl⟩ rk_kL_8 dL_isFilled_389 rfl (by decide) (Nat.le_of_ble_eq_true rfl) hz ?_
          refine rk_iload_n 3 dL_isFilled_392 rfl rfl ?_
          refine rk_iload dL_isFilled_393 rfl ?_
          refine rk_pc (pc' := 395) rfl ?_
          refine rk_isub dL_isFilled_395 ?_
          refine rk_icmp_ne 455 dL_isFilled_396 (by decide) (fun qz396 => ?_) (fun qz396 => ?_)
          · skip
            exact absurd (p12.trans hcg.symm) qz396
          · skip
            refine rk_aload_n 0 dL_isFilled_399 rfl rfl ?_
            refine rk_iconst 4 dL_isFilled_400 (by decide) ?_
            refine rk_cVp (qc4 hY3) rk_eX10_count rfl ⟨rfl, rfl⟩ rk_kL_8 dL_isFilled_401 rfl (by decide) (Nat.le_of_ble_eq_true rfl) hz ?_
            refine rk_iload dL_isFilled_404 rfl ?_
            refine rk_iload dL_isFilled_406 rfl ?_
            refine rk_pc (pc' := 408) rfl ?_
            refine rk_iadd dL_isFilled_408 ?_
            refine rk_icmp_ne 455 dL_isFilled_409 (by decide) (fun qz409 => ?_) (fun qz409 => ?_)
            · skip
              exact absurd p14 qz409
            · skip
              refine rk_aload_n 0 dL_isFilled_412 rfl rfl ?_
              refine rk_iconst 5 dL_isFilled_413 (by decide) ?_
              refine rk_cVp (qc5 hY3) rk_eX10_count rfl ⟨rfl, rfl⟩ rk_kL_8 dL_isFilled_414 rfl (by decide) (Nat.le_of_ble_eq_true rfl) hz ?_
              refine rk_iload dL_isFilled_417 rfl ?_
              refine rk_iload dL_isFilled_419 rfl ?_
              refine rk_pc (pc' := 421) rfl ?_
              refine rk_iload dL_isFilled_421 rfl ?_
              refine rk_imul dL_isFilled_423 ?_
              refine rk_iadd dL_isFilled_424 ?_
              refine rk_icmp_ne 455 dL_isFilled_425 (by decide) (fun qz425 => ?_) (fun qz425 => ?_)
              · skip
                exact absurd p15 qz425
              · skip
                refine rk_aload_n 0 dL_isFilled_428 rfl rfl ?_
                refine rk_iload dL_isFilled_429 rfl ?_
                refine rk_iconst 5 dL_isFilled_431 (by decide) ?_
                refine rk_pc (pc' := 432) rfl ?_
                refine rk_cVp (qa (k := 5) hY3 hf (by decide) hof rfl) rk_eX10_account rfl ⟨rfl, rfl⟩ rk_kL_18 dL_isFilled_432 rfl (by decide) (Nat.le_of_ble_eq_true rfl) hz ?_
                refine rk_iload dL_isFilled_435 rfl ?_
                refine rk_iload dL_isFilled_437 rfl ?_
                refine rk_iadd dL_isFilled_439 ?_
                refine rk_icmp_ne 455 dL_isFilled_440 (by decide) (fun qz440 => ?_) (fun qz440 => ?_)
                · skip
                  exact absurd p5 qz440
                · skip
                  refine rk_aload_n 0 dL_isFilled_443 rfl rfl ?_
                  refine rk_iload dL_isFilled_444 rfl ?_
                  refine rk_pc (pc' := 446) rfl ?_
                  refine rk_iconst 3 dL_isFilled_446 (by decide) ?_
                  refine rk_cVp (qa (k := 3) hY3 hf (by decide) hof rfl) rk_eX10_account rfl ⟨rfl, rfl⟩ rk_kL_18 dL_isFilled_447 rfl (by decide) (Nat.le_of_ble_eq_true rfl) hz ?_
                  refine rk_iload dL_isFilled_450 rfl ?_
                  refine rk_icmp_ge 457 dL_isFilled_452 (by decide) (fun qz452 => ?_) (fun qz452 => ?_)
                  · skip
                    refine rk_iconst 0 dL_isFilled_457 (by decide) ?_
                    refine rk_istore (ls' := [(21, _), (20, _), (0, _), (1, _), (2, _), (3, _), (4, _), (6, _), (8, _), (9, _), (11, _), (12, _), (14, _), (15, _), (16, _), (17, _), (19, _)]) dL_isFilled_458 (by decide) rfl ?_
                    refine rk_iconst 0 dL_isFilled_460 (by decide) ?_
                    refine rk_pc (pc' := 461) rfl ?_
                    refine rk_istore (ls' := [(22, _), (21, _), (20, _), (0, _), (1, _), (2, _), (3, _), (4, _), (6, _), (8, _), (9, _), (11, _), (12, _), (14, _), (15, _), (16, _), (17, _), (19, _)]) dL_isFilled_461 (by decide) rfl ?_
                    refine rk_ord [0, 1, 2, 3, 4, 8, 11, 21, 22] (ls' := [(0, _), (1, _), (2, _), (3, _), (4, _), (8, _), (11, _), (21, _), (22, _)]) rfl ?_
                    exact cL_isFilled_d hY3 p12 hm24 hc2 hz (fun i hi => by rw [eL]; exact q1 i hi) (fun i hi => by rw [eL]; exact q2 i hi) hR.2.2.2.2.2.2.2.2.2.2.2.1 (fun p hp => by rw [eL]; exact q5 p hp) (k503 _ _ hY3) c 0 0 (by omega) (fun i hi => absurd hi (Nat.not_lt_zero i)) (fun i _ _ => Nat.zero_le _) (Nat.zero_le _)
                  · skip
                    exact absurd p3 qz452
      · skip
        exact absurd qz374 (nI_ne0 hr0 (by omega))
  refine rk_aload_n 0 dL_isFilled_281 rfl rfl ?_
  refine rk_iload dL_isFilled_282 rfl ?_
  refine rk_iconst 3 dL_isFilled_284 (by decide) ?_
  refine rk_cVp (qa (k := 3) hJ hf (by decide) hof rfl) rk_eX10_account rfl ⟨rfl, rfl⟩ rk_kL_18 dL_isFilled_285 rfl (by decide) (Nat.le_of_ble_eq_true rfl) hz ?_
  refine rk_istore (ls' := [(14, _), (0, _), (1, _), (2, _), (3, _), (4, _), (5, _), (6, _), (7, _), (8, _), (9, _), (10, _), (11, _), (12, _), (13, _)]) dL_isFilled_288 (by decide) rfl ?_
  refine rk_aload_n 0 dL_isFilled_290 rfl rfl ?_
  refine rk_pc (pc' := 291) rfl ?_
  refine rk_iload dL_isFilled_291 rfl ?_
  refine rk_iconst 5 dL_isFilled_293 (by decide) ?_
  refine rk_cVp (qa (k := 5) hJ hf (by decide) hof rfl) rk_eX10_account rfl ⟨rfl, rfl⟩ rk_kL_18 dL_isFilled_294 rfl (by decide) (Nat.le_of_ble_eq_true rfl) hz ?_
  refine rk_istore (ls' := [(15, _), (14, _), (0, _), (1, _), (2, _), (3, _), (4, _), (5, _), (6, _), (7, _), (8, _), (9, _), (10, _), (11, _), (12, _), (13, _)]) dL_isFilled_297 (by decide) rfl ?_
  refine rk_aload_n 0 dL_isFilled_299 rfl rfl ?_
  refine rk_iconst 5 dL_isFilled_300 (by decide) ?_
  refine rk_pc (pc' := 301) rfl ?_
  refine rk_cVp (qc5 hJ) rk_eX10_count rfl ⟨rfl, rfl⟩ rk_kL_8 dL_isFilled_301 rfl (by decide) (Nat.le_of_ble_eq_true rfl) hz ?_
  refine rk_istore (ls' := [(16, _), (15, _), (14, _), (0, _), (1, _), (2, _), (3, _), (4, _), (5, _), (6, _), (7, _), (8, _), (9, _), (10, _), (11, _), (12, _), (13, _)]) dL_isFilled_304 (by decide) rfl ?_
  refine rk_aload_n 0 dL_isFilled_306 rfl rfl ?_
  refine rk_iconst 4 dL_isFilled_307 (by decide) ?_
  refine rk_cVp (qc4 hJ) rk_eX10_count rfl ⟨rfl, rfl⟩ rk_kL_8 dL_isFilled_308 rfl (by decide) (Nat.le_of_ble_eq_true rfl) hz ?_
  refine rk_istore (ls' := [(17, _), (16, _), (15, _), (14, _), (0, _), (1, _), (2, _), (3, _), (4, _), (5, _), (6, _), (7, _), (8, _), (9, _), (10, _), (11, _), (12, _), (13, _)]) dL_isFilled_311 (by decide) rfl ?_
  refine rk_pc (pc' := 313) rfl ?_
  refine rk_aload_n 0 dL_isFilled_313 rfl rfl ?_
  refine rk_iload_n 1 dL_isFilled_314 rfl rfl ?_
  refine rk_iconst 0 dL_isFilled_315 (by decide) ?_
  refine rk_cVi (lq_would hJ _ _) rk_eX10_wouldFill rfl ⟨rfl, rfl⟩ rk_kL_79 dL_isFilled_316 rfl (by decide) (Nat.le_of_ble_eq_true rfl) hz (fun xz1 Iz1 Rz1 hz1 => ?_)
  obtain ⟨ew0, hJa, fra⟩ := hz1
  have eLa : Iz1 27 na = J 27 na := fra.1 27 na (by rw [ga]; decide)
  refine rk_istore (ls' := [(18, _), (17, _), (16, _), (15, _), (14, _), (0, _), (1, _), (2, _), (3, _), (4, _), (5, _), (6, _), (7, _), (8, _), (9, _), (10, _), (11, _), (12, _), (13, _)]) dL_isFilled_319 (by decide) rfl ?_
  refine rk_aload_n 0 dL_isFilled_321 rfl rfl ?_
  refine rk_pc (pc' := 322) rfl ?_
  refine rk_iload_n 1 dL_isFilled_322 rfl rfl ?_
  refine rk_iconst 1 dL_isFilled_323 (by decide) ?_
  refine rk_cVi (lq_would hJa _ _) rk_eX10_wouldFill rfl ⟨rfl, rfl⟩ rk_kL_79 dL_isFilled_324 rfl (by decide) (Nat.le_of_ble_eq_true rfl) hz (fun xz2 Iz2 Rz2 hz2 => ?_)
  obtain ⟨ew1, hJb, frb⟩ := hz2
  have eLb : Iz2 27 na = J 27 na := (frb.1 27 na (by rw [ga]; decide)).trans eLa
  obtain rfl := ew1.trans w1
  refine rk_istore (ls' := [(19, _), (18, _), (17, _), (16, _), (15, _), (14, _), (0, _), (1, _), (2, _), (3, _), (4, _), (5, _), (6, _), (7, _), (8, _), (9, _), (10, _), (11, _), (12, _), (13, _)]) dL_isFilled_327 (by decide) rfl ?_
  refine rk_aload_n 0 dL_isFilled_329 rfl rfl ?_
  refine rk_iload_n 1 dL_isFilled_330 rfl rfl ?_
  refine rk_pc (pc' := 331) rfl ?_
  refine rk_bipush 7 dL_isFilled_331 (by decide) ?_
  refine rk_cVp (qo7 hJb h13 hoc ho rfl) rk_eX10_ofOrder rfl ⟨rfl, rfl⟩ rk_kL_65 dL_isFilled_333 rfl (by decide) (Nat.le_of_ble_eq_true rfl) hz ?_
  rw [ec]
  refine rk_iload dL_isFilled_336 rfl ?_
  refine rk_icmp_ne 361 dL_isFilled_338 (by decide) (fun qz338 => ?_) (fun qz338 => ?_)
  · skip
    exact absurd rfl qz338
  · skip
    refine rk_iload dL_isFilled_341 rfl ?_
    refine rk_iload dL_isFilled_343 rfl ?_
    refine rk_icmp_ne 361 dL_isFilled_345 (by decide) (fun qz345 => ?_) (fun qz345 => ?_)
    · skip
      exact absurd (ew0.trans w0) qz345
    · skip
      refine rk_aload_n 0 dL_isFilled_348 rfl rfl ?_
      refine rk_pc (pc' := 349) rfl ?_
      refine rk_iload_n 1 dL_isFilled_349 rfl rfl ?_
      refine rk_iconst 2 dL_isFilled_350 (by decide) ?_
      refine rk_cVi (lq_would hJb _ _) rk_eX10_wouldFill rfl ⟨rfl, rfl⟩ rk_kL_79 dL_isFilled_351 rfl (by decide) (Nat.le_of_ble_eq_true rfl) hz (fun xz3 Iz3 Rz3 hz3 => ?_)
      obtain ⟨ew2, hJc, frc⟩ := hz3
      have eLc : Iz3 27 na = J 27 na := (frc.1 27 na (by rw [ga]; decide)).trans eLb
      refine rk_iload_n 3 dL_isFilled_354 rfl rfl ?_
      refine rk_iload dL_isFilled_355 rfl ?_
      refine rk_isub dL_isFilled_357 ?_
      refine rk_pc (pc' := 358) rfl ?_
      refine rk_icmp_eq 363 dL_isFilled_358 (by decide) (fun qz358 => ?_) (fun qz358 => ?_)
      · skip
        refine rk_ord [0, 1, 2, 3, 4, 6, 8, 9, 11, 12, 14, 15, 16, 17, 19] (ls' := [(0, _), (1, _), (2, _), (3, _), (4, _), (6, _), (8, _), (9, _), (11, _), (12, _), (14, _), (15, _), (16, _), (17, _), (19, _)]) rfl ?_
        exact k363 _ _ hJc eLc
      · skip
        exact absurd ((ew2.trans w2').trans hcg.symm) qz358
theorem cL_isFilled_m {o oc c na nb W f : Nat} {Z : rk_Z} (hv : sp_pv (k : Int) N c) (hk : k ≤ 200) (hd : (N 10).toInt ≤ 4 * (k : Int)) (hsi : si (3000000 * (k : Int)) N) (h13 : N 13 = nI oc) (hoc : oc ≤ 16) (ho : o < oc) (hc : N 12 = nI c) (hc2 : c ≤ 24) (hf : f < 3) (hof : N (220 + 7 * o + 0) = nI f) (hF : 0 < (N (220 + 7 * o + 2)).toInt) (hW : N (220 + 7 * o + 3) = nI W) (hW1 : 1 ≤ W) (hW2 : W ≤ 20) (ga : rg na = 104) (gb : rg nb = 104) (hab : na ≠ nb) (hz : Z.2.1 ≤ 2 ∧ Z.2.2 ≤ 48) (hkd : ∀ q, Sh.2 q ≠ 0 → Z.1.2 q = Sh.2 q) (hR0 : fR N (k : Int) (3000000 * (k : Int)) o c W f 0 0 N (fun i => i) c (J 27 na) (J 27 nb)) (hJ : lY rg J R x (k : Int) N) : rk_Wp w l rk_mL_isFilled 8 2 48 (rk_G w (fun r u => ∃ x', r = some (rk_i x') ∧ (∀ q, Sh.2 q ≠ 0 → u.1.2 q = Sh.2 q) ∧ lZ rg x k x' u) 2 48) 137 [(0, rk_a 11 x), (1, rk_i (nI o)), (2, rk_i (nI oc)), (3, rk_i (nI c)), (4, rk_a 27 na), (5, rk_a 27 nb), (6, rk_i (N (220 + 7 * o + 0))), (7, rk_i (N (220 + 7 * o + 2))), (8, rk_i (nI W)), (9, rk_i (N (220 + 7 * o + 6))), (10, rk_i (sp_ns N (sp_P N) (sp_O N o) c)), (11, rk_i (nI c))] [] Z J R := by
  have hm := cL_isFilled_c (w := w) (l := l) (oc := oc) (R := R) (x := x) (rg := rg) (Z := Z) (G := (rk_G w (fun r u => ∃ x', r = some (rk_i x') ∧ (∀ q, Sh.2 q ≠ 0 → u.1.2 q = Sh.2 q) ∧ lZ rg x k x' u) 2 48)) (s := sp_ns N (sp_P N) (sp_O N o) c) hv (U := 3000000 * (k : Int)) (by omega) (show o < 16 by omega) hf hof hF hW2 hc2 ga gb hab hz (fun r g M e m J hR hcf hJ v => cL_isFilled_e hk hd h13 hoc ho hc hc2 hf hof hW hW1 hW2 ga hz hkd hR hcf hJ) W 0 0 N (fun i => i) c J 0 (by omega) hR0 hJ (Int32.le_refl 0)
  refine rk_iconst 0 dL_isFilled_137 (by decide) ?_
  refine rk_istore (ls' := [(11, _), (0, _), (1, _), (2, _), (3, _), (4, _), (5, _), (6, _), (7, _), (8, _), (9, _), (10, _)]) dL_isFilled_138 (by decide) rfl ?_
  refine rk_iconst 0 dL_isFilled_140 (by decide) ?_
  refine rk_istore (ls' := [(12, _), (11, _), (0, _), (1, _), (2, _), (3, _), (4, _), (5, _), (6, _), (7, _), (8, _), (9, _), (10, _)]) dL_isFilled_141 (by decide) rfl ?_
  refine rk_iconst 0 dL_isFilled_143 (by decide) ?_
  refine rk_istore (ls' := [(13, _), (12, _), (11, _), (0, _), (1, _), (2, _), (3, _), (4, _), (5, _), (6, _), (7, _), (8, _), (9, _), (10, _)]) dL_isFilled_144 (by decide) rfl ?_
  refine rk_pc (pc' := 146) rfl ?_
  refine rk_ord [0, 1, 2, 3, 4, 5, 6, 7, 8, 9, 10, 11, 12, 13] (ls' := [(0, _), (1, _), (2, _), (3, _), (4, _), (5, _), (6, _), (7, _), (8, _), (9, _), (10, _), (11, _), (12, _), (13, _)]) rfl ?_
  exact hm
theorem cL_isFilled_s {o oc : Nat} (h : lX rg I R x k N) (hk : k ≤ 200) (hrg : ∀ q, Sh.2 q = 0 → rg q = 104) (h13 : N 13 = nI oc) (hoc : oc ≤ 16) (ho : o ≤ oc) : rk_N w l rk_mL_isFilled 8 2 48 [rk_a 11 x, rk_i (nI o)] Sh I R (lZ rg x k) := by
  obtain ⟨hY, hsi, hd⟩ := h
  obtain ⟨c, hc2, hc⟩ := hY.c12
  by_cases hlt : o < oc
  · have hv := hY.pv hc hc2
    obtain ⟨-, ⟨oc', hoc', h13', hb⟩, -, hr⟩ := hY.vs.1
    have eoc : oc' = oc := (nI_eq (by omega) (by omega)).mp (h13'.symm.trans h13)
    subst eoc
    obtain ⟨⟨⟨f, hf, hof⟩, hF⟩, ⟨W, hW1, hW2, hW⟩, -⟩ := hb o hlt
    have hnge : ¬ nI oc' ≤ nI o := nI_ge (by omega) (by omega)
    refine rk_bN (ls := [(0, _), (1, _)]) (by decide) rfl (Nat.le_of_ble_eq_true rfl) ?_
    refine rk_aload_n 0 dL_isFilled_0 rfl rfl ?_
    refine rk_iconst 2 dL_isFilled_1 (by decide) ?_
    refine rk_cVp (qc2 hY) rk_eX10_count rfl ⟨rfl, rfl⟩ rk_kL_8 dL_isFilled_2 rfl (by decide) (Nat.le_of_ble_eq_true rfl) ⟨Nat.le_of_ble_eq_true rfl, Nat.le_of_ble_eq_true rfl⟩ ?_
    rw [h13]
    refine rk_istore_n 2 (ls' := [(2, _), (0, _), (1, _)]) dL_isFilled_5 rfl (by decide) rfl ?_
    refine rk_iload_n 1 dL_isFilled_6 rfl rfl ?_
    refine rk_iload_n 2 dL_isFilled_7 rfl rfl ?_
    refine rk_pc (pc' := 8) rfl ?_
    refine rk_icmp_lt 26 dL_isFilled_8 (by decide) (fun qz8 => ?_) (fun qz8 => ?_)
    · skip
      refine rk_aload_n 0 dL_isFilled_26 rfl rfl ?_
      refine rk_iconst 1 dL_isFilled_27 (by decide) ?_
      refine rk_cVp (qc1 hY) rk_eX10_count rfl ⟨rfl, rfl⟩ rk_kL_8 dL_isFilled_28 rfl (by decide) (Nat.le_of_ble_eq_true rfl) ⟨Nat.le_of_ble_eq_true rfl, Nat.le_of_ble_eq_true rfl⟩ ?_
      rw [hc]
      refine rk_istore_n 3 (ls' := [(3, _), (2, _), (0, _), (1, _)]) dL_isFilled_31 rfl (by decide) rfl ?_
      refine rk_bipush 24 dL_isFilled_32 (by decide) ?_
      refine rk_nb27 (by decide) (by exact Nat.le_of_ble_eq_true rfl) (by exact Nat.le_of_ble_eq_true rfl) dL_isFilled_34 (fun nz1 hn1 => ?_)
      refine rk_astore (ls' := [(4, _), (3, _), (2, _), (0, _), (1, _)]) dL_isFilled_36 (by decide) rfl ?_
      refine rk_pc (pc' := 38) rfl ?_
      refine rk_bipush 24 dL_isFilled_38 (by decide) ?_
      refine rk_nb27 (by decide) (by exact Nat.le_of_ble_eq_true rfl) (by exact Nat.le_of_ble_eq_true rfl) dL_isFilled_40 (fun nz2 hn2 => ?_)
      have g1 : rg nz1 = 104 := hrg nz1 hn1.1
      have g2 : rg nz2 = 104 := hrg nz2 (rk_nS_0 (by decide) hn2.1).2
      have n12 : nz1 ≠ nz2 := (rk_nS_0 (by decide) hn2.1).1.symm
      have hk2 : ∀ q, Sh.2 q ≠ 0 → (rk_nS (rk_nS Sh nz1 27) nz2 27).2 q = Sh.2 q := fun q hq => (rk_nS_k hn2.1 (by rw [rk_nS_k hn1.1 hq]; exact hq)).trans (rk_nS_k hn1.1 hq)
      have hY1 : lY rg (rk_nI (rk_nI I nz1) nz2) R x (k : Int) N := (hY.mf (rk_nI_f g1)).mf (rk_nI_f g2)
      refine rk_astore (ls' := [(5, _), (4, _), (3, _), (2, _), (0, _), (1, _)]) dL_isFilled_42 (by decide) rfl ?_
      refine rk_aload_n 0 dL_isFilled_44 rfl rfl ?_
      refine rk_iload_n 1 dL_isFilled_45 rfl rfl ?_
      refine rk_iconst 0 dL_isFilled_46 (by decide) ?_
      refine rk_cVp (qo (k := 0) hY1 h13 hoc hlt (by decide) rfl rfl) rk_eX10_ofOrder rfl ⟨rfl, rfl⟩ rk_kL_65 dL_isFilled_47 rfl (by decide) (Nat.le_of_ble_eq_true rfl) ⟨Nat.le_of_ble_eq_true rfl, Nat.le_of_ble_eq_true rfl⟩ ?_
      refine rk_pc (pc' := 50) rfl ?_
      refine rk_istore (ls' := [(6, _), (5, _), (4, _), (3, _), (2, _), (0, _), (1, _)]) dL_isFilled_50 (by decide) rfl ?_
      refine rk_aload_n 0 dL_isFilled_52 rfl rfl ?_
      refine rk_iload_n 1 dL_isFilled_53 rfl rfl ?_
      refine rk_iconst 2 dL_isFilled_54 (by decide) ?_
      refine rk_cVp (qo (k := 2) hY1 h13 hoc hlt (by decide) rfl rfl) rk_eX10_ofOrder rfl ⟨rfl, rfl⟩ rk_kL_65 dL_isFilled_55 rfl (by decide) (Nat.le_of_ble_eq_true rfl) ⟨Nat.le_of_ble_eq_true rfl, Nat.le_of_ble_eq_true rfl⟩ ?_
      refine rk_istore (ls' := [(7, _), (6, _), (5, _), (4, _), (3, _), (2, _), (0, _), (1, _)]) dL_isFilled_58 (by decide) rfl ?_
      refine rk_pc (pc' := 60) rfl ?_
      refine rk_aload_n 0 dL_isFilled_60 rfl rfl ?_
      refine rk_iload_n 1 dL_isFilled_61 rfl rfl ?_
      refine rk_iconst 3 dL_isFilled_62 (by decide) ?_
      refine rk_cVp (qo (k := 3) hY1 h13 hoc hlt (by decide) rfl rfl) rk_eX10_ofOrder rfl ⟨rfl, rfl⟩ rk_kL_65 dL_isFilled_63 rfl (by decide) (Nat.le_of_ble_eq_true rfl) ⟨Nat.le_of_ble_eq_true rfl, Nat.le_of_ble_eq_true rfl⟩ ?_
      rw [hW]
      refine rk_istore (ls' := [(8, _), (7, _), (6, _), (5, _), (4, _), (3, _), (2, _), (0, _), (1, _)]) dL_isFilled_66 (by decide) rfl ?_
      refine rk_aload_n 0 dL_isFilled_68 rfl rfl ?_
      refine rk_pc (pc' := 69) rfl ?_
      refine rk_iload_n 1 dL_isFilled_69 rfl rfl ?_
      refine rk_bipush 6 dL_isFilled_70 (by decide) ?_
      refine rk_cVp (qo (k := 6) hY1 h13 hoc hlt (by decide) rfl rfl) rk_eX10_ofOrder rfl ⟨rfl, rfl⟩ rk_kL_65 dL_isFilled_72 rfl (by decide) (Nat.le_of_ble_eq_true rfl) ⟨Nat.le_of_ble_eq_true rfl, Nat.le_of_ble_eq_true rfl⟩ ?_
      refine rk_istore (ls' := [(9, _), (8, _), (7, _), (6, _), (5, _), (4, _), (3, _), (2, _), (0, _), (1, _)]) dL_isFilled_75 (by decide) rfl ?_
      refine rk_iconst 0 dL_isFilled_77 (by decide) ?_
      refine rk_istore (ls' := [(10, _), (9, _), (8, _), (7, _), (6, _), (5, _), (4, _), (3, _), (2, _), (0, _), (1, _)]) dL_isFilled_78 (by decide) rfl ?_
      refine rk_pc (pc' := 80) rfl ?_
      refine rk_iconst 0 dL_isFilled_80 (by decide) ?_
      refine rk_istore (ls' := [(11, _), (10, _), (9, _), (8, _), (7, _), (6, _), (5, _), (4, _), (3, _), (2, _), (0, _), (1, _)]) dL_isFilled_81 (by decide) rfl ?_
      refine rk_ord [0, 1, 2, 3, 4, 5, 6, 7, 8, 9, 10, 11] (ls' := [(0, _), (1, _), (2, _), (3, _), (4, _), (5, _), (6, _), (7, _), (8, _), (9, _), (10, _), (11, _)]) rfl ?_
      refine cL_isFilled_a h13 hoc hlt hc hc2 g1 g2 n12 ⟨Nat.le_of_ble_eq_true rfl, Nat.le_of_ble_eq_true rfl⟩ (fun J hJ hL hB => ?_) c 0 _ (by omega) hY1 (fun q h => absurd h (Nat.not_lt_zero q)) (fun q h => absurd h (Nat.not_lt_zero q))
      have hR0 : fR N (k : Int) (3000000 * (k : Int)) o c W f 0 0 N (fun i => i) c (J 27 nz1) (J 27 nz2) := ⟨by omega, by omega, hv, hsi, by rw [Nat.sub_zero]; rfl, fun _ _ => rfl, by rw [Nat.sub_zero]; exact hW, by rw [nI_0]; exact (Int32.add_zero _).symm, by rw [nI_0, Int32.mul_zero]; exact (Int32.add_zero _).symm, Int.le_refl _, fun i hi => hi, fun i j h1 h2 => h1, fun i hi => ⟨(hL i hi).symm, by rw [hL i hi]; exact Int32.le_refl _, hB i hi, fun _ _ _ _ => rfl⟩, fun p hp => Or.inl ⟨p, hp, rfl⟩⟩
      exact cL_isFilled_m hv hk hd hsi h13 hoc hlt hc hc2 hf hof hF hW hW1 hW2 g1 g2 n12 ⟨Nat.le_of_ble_eq_true rfl, Nat.le_of_ble_eq_true rfl⟩ hk2 hR0 hJ
    · skip
      exact absurd (nI_lt hlt (by omega)) qz8
  · have hio : ¬ sp_isor N (nI o) := fun z => by
      obtain ⟨i, hi, e⟩ := sp_isor_n z h13 hoc
      have := (nI_eq (by omega) (by omega)).mp e
      omega
    have hsp : sp_fill N (nI o) = (-1, none) := by
      unfold sp_fill
      rw [if_neg hio]
    refine rk_bN (ls := [(0, _), (1, _)]) (by decide) rfl (Nat.le_of_ble_eq_true rfl) ?_
    refine rk_aload_n 0 dL_isFilled_0 rfl rfl ?_
    refine rk_iconst 2 dL_isFilled_1 (by decide) ?_
    refine rk_cVp (qc2 hY) rk_eX10_count rfl ⟨rfl, rfl⟩ rk_kL_8 dL_isFilled_2 rfl (by decide) (Nat.le_of_ble_eq_true rfl) ⟨Nat.le_of_ble_eq_true rfl, Nat.le_of_ble_eq_true rfl⟩ ?_
    rw [h13]
    refine rk_istore_n 2 (ls' := [(2, _), (0, _), (1, _)]) dL_isFilled_5 rfl (by decide) rfl ?_
    refine rk_iload_n 1 dL_isFilled_6 rfl rfl ?_
    refine rk_iload_n 2 dL_isFilled_7 rfl rfl ?_
    refine rk_pc (pc' := 8) rfl ?_
    refine rk_icmp_lt 26 dL_isFilled_8 (by decide) (fun qz8 => ?_) (fun qz8 => ?_)
    · skip
      exact absurd qz8 (nI_nlt (by omega) (by omega))
    · skip
      refine rk_aload_n 0 dL_isFilled_11 rfl rfl ?_
      refine rk_iload_n 1 dL_isFilled_12 rfl rfl ?_
      refine rk_cVi (lq_fill hY _) rk_eX10_fill rfl ⟨rfl, rfl⟩ rk_kL_72 dL_isFilled_13 rfl (by decide) (Nat.le_of_ble_eq_true rfl) ⟨Nat.le_of_ble_eq_true rfl, Nat.le_of_ble_eq_true rfl⟩ (fun xz1 Iz1 Rz1 hz1 => ?_)
      rw [hsp] at hz1
      obtain ⟨ex, hY2, -⟩ := hz1
      have hY3 : lY rg Iz1 Rz1 x ((k : Int) + 1) N := hY2
      refine rk_iconst (-1) dL_isFilled_16 (by decide) ?_
      refine rk_icmp_ne 24 dL_isFilled_17 (by decide) (fun qz17 => ?_) (fun qz17 => ?_)
      · skip
        exact absurd ex qz17
      · skip
        refine rk_iconst 1 dL_isFilled_20 (by decide) ?_
        refine rk_goto 25 dL_isFilled_21 (by decide) ?_
        refine rk_pc (pc' := 25) rfl ?_
        refine rk_iretN dL_isFilled_25 rfl (by decide) ?_
        exact ⟨⟨Nat.le_of_ble_eq_true rfl, Nat.le_of_ble_eq_true rfl⟩, fun _ _ => rfl, rfl, N, lX.of hY3 hsi hd⟩
end PM

