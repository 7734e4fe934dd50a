section CR
variable {w : rk_W} {l : Launch} {Sh : rk_Sh} {I : rk_Mm} {R : rk_Rm}
def sp_take (N : Nat → Int32) (fi : Nat) (s y f what : Int32) : Int32 := if what = 0 then sp_strand N f else if what = 1 then sp_yarn N f else if what = 2 then s * y * sp_yarn N f else if what = 3 then sp_hours N s f else if what = 4 then sp_qual N fi else if what = 5 then sp_news N fi s y else -2
theorem rk_toI {x v : Int32} {n : Int} (h : x.toInt = n) (hv : Int32.ofInt n = v) : x = v := by rw [← hv, ← h]; exact (Int32.ofInt_toInt x).symm
theorem sp_take0 {N : Nat → Int32} {fi : Nat} {s y f what : Int32} (h : what = 0) : sp_strand N f = sp_take N fi s y f what := by subst h; simp [sp_take]
theorem sp_take1 {N : Nat → Int32} {fi : Nat} {s y f what : Int32} (h : what = 1) : sp_yarn N f = sp_take N fi s y f what := by subst h; simp [sp_take]
theorem sp_take2 {N : Nat → Int32} {fi : Nat} {s y f what : Int32} (h : what = 2) : s * y * sp_yarn N f = sp_take N fi s y f what := by subst h; simp [sp_take]
theorem sp_take3 {N : Nat → Int32} {fi : Nat} {s y f what : Int32} (h : what = 3) : sp_hours N s f = sp_take N fi s y f what := by subst h; simp [sp_take]
theorem sp_take4 {N : Nat → Int32} {fi : Nat} {s y f what : Int32} (h : what = 4) : sp_qual N fi = sp_take N fi s y f what := by subst h; simp [sp_take]
theorem sp_take5 {N : Nat → Int32} {fi : Nat} {s y f what : Int32} (h : what = 5) : sp_news N fi s y = sp_take N fi s y f what := by subst h; simp [sp_take]
theorem cX6_aboutNewRope_s {a fi : Nat} {N : Nat → Int32} (h : cl_ru I R a N) (h8 : 1 ≤ N 8) (hf : fi < 3) (s y f what : Int32) : rk_P w l rk_mX6_aboutNewRope 4 [rk_a 7 a, rk_i (nI fi), rk_i s, rk_i y, rk_i f, rk_i what] Sh I R (sp_take N fi s y f what) := by
  refine rk_bP (ls := [(0, _), (1, _), (2, _), (3, _), (4, _), (5, _)]) (by decide) rfl (Nat.le_of_ble_eq_true rfl) ?_
  refine rk_iload dX6_aboutNewRope_0 rfl ?_
  refine rk_tsw 85 dX6_aboutNewRope_2 (by decide) (by decide) (by decide) ?_ (fun qz2 => ?_)
  · refine ⟨fun qz2 => ?_, fun qz2 => ?_, fun qz2 => ?_, fun qz2 => ?_, fun qz2 => ?_, fun qz2 => ?_, trivial⟩
    · skip
      have hw : what = 0 := rk_toI qz2 (by decide)
      refine rk_pc (pc' := 40) (by decide) ?_
      refine rk_aload_n 0 dX6_aboutNewRope_40 rfl rfl ?_
      refine rk_iload dX6_aboutNewRope_41 rfl ?_
      refine rk_cVp (cX6_strandLength_s h _) rk_eX6_strandLength rfl ⟨rfl, rfl⟩ rk_kX6_49 dX6_aboutNewRope_43 rfl (by decide) (Nat.le_of_ble_eq_true rfl) ⟨Nat.le_refl _, Nat.le_refl _⟩ ?_
      refine rk_iretP dX6_aboutNewRope_46 rfl rfl ?_
      exact sp_take0 hw
    · skip
      have hw : what = 1 := rk_toI qz2 (by decide)
      refine rk_pc (pc' := 47) (by decide) ?_
      refine rk_aload_n 0 dX6_aboutNewRope_47 rfl rfl ?_
      refine rk_iload dX6_aboutNewRope_48 rfl ?_
      refine rk_pc (pc' := 50) rfl ?_
      refine rk_cVp (cX6_yarnLength_s h _) rk_eX6_yarnLength rfl ⟨rfl, rfl⟩ rk_kX6_40 dX6_aboutNewRope_50 rfl (by decide) (Nat.le_of_ble_eq_true rfl) ⟨Nat.le_refl _, Nat.le_refl _⟩ ?_
      refine rk_iretP dX6_aboutNewRope_53 rfl rfl ?_
      exact sp_take1 hw
    · skip
      have hw : what = 2 := rk_toI qz2 (by decide)
      refine rk_pc (pc' := 54) (by decide) ?_
      refine rk_aload_n 0 dX6_aboutNewRope_54 rfl rfl ?_
      refine rk_iload_n 2 dX6_aboutNewRope_55 rfl rfl ?_
      refine rk_iload_n 3 dX6_aboutNewRope_56 rfl rfl ?_
      refine rk_iload dX6_aboutNewRope_57 rfl ?_
      refine rk_cVp (cX6_yarnFor_s h _ _ _) rk_eX6_yarnFor rfl ⟨rfl, rfl⟩ rk_kX6_94 dX6_aboutNewRope_59 rfl (by decide) (Nat.le_of_ble_eq_true rfl) ⟨Nat.le_refl _, Nat.le_refl _⟩ ?_
      refine rk_pc (pc' := 62) rfl ?_
      refine rk_iretP dX6_aboutNewRope_62 rfl rfl ?_
      exact sp_take2 hw
    · skip
      have hw : what = 3 := rk_toI qz2 (by decide)
      refine rk_pc (pc' := 63) (by decide) ?_
      refine rk_aload_n 0 dX6_aboutNewRope_63 rfl rfl ?_
      refine rk_iload_n 2 dX6_aboutNewRope_64 rfl rfl ?_
      refine rk_iload dX6_aboutNewRope_65 rfl ?_
      refine rk_cVp (cX6_hoursFor_s h h8 _ _) rk_eX6_hoursFor rfl ⟨rfl, rfl⟩ rk_kX6_98 dX6_aboutNewRope_67 rfl (by decide) (Nat.le_of_ble_eq_true rfl) ⟨Nat.le_refl _, Nat.le_refl _⟩ ?_
      refine rk_iretP dX6_aboutNewRope_70 rfl rfl ?_
      exact sp_take3 hw
    · skip
      have hw : what = 4 := rk_toI qz2 (by decide)
      refine rk_pc (pc' := 71) (by decide) ?_
      refine rk_aload_n 0 dX6_aboutNewRope_71 rfl rfl ?_
      refine rk_iload_n 1 dX6_aboutNewRope_72 rfl rfl ?_
      refine rk_pc (pc' := 73) rfl ?_
      refine rk_cVp (cX6_qualityNow_s h hf) rk_eX6_qualityNow rfl ⟨rfl, rfl⟩ rk_kX6_55 dX6_aboutNewRope_73 rfl (by decide) (Nat.le_of_ble_eq_true rfl) ⟨Nat.le_refl _, Nat.le_refl _⟩ ?_
      refine rk_iretP dX6_aboutNewRope_76 rfl rfl ?_
      exact sp_take4 hw
    · skip
      have hw : what = 5 := rk_toI qz2 (by decide)
      refine rk_pc (pc' := 77) (by decide) ?_
      refine rk_aload_n 0 dX6_aboutNewRope_77 rfl rfl ?_
      refine rk_iload_n 1 dX6_aboutNewRope_78 rfl rfl ?_
      refine rk_iload_n 2 dX6_aboutNewRope_79 rfl rfl ?_
      refine rk_iload_n 3 dX6_aboutNewRope_80 rfl rfl ?_
      refine rk_cVp (cX6_newStrength_s h hf _ _) rk_eX6_newStrength rfl ⟨rfl, rfl⟩ rk_kX6_101 dX6_aboutNewRope_81 rfl (by decide) (Nat.le_of_ble_eq_true rfl) ⟨Nat.le_refl _, Nat.le_refl _⟩ ?_
      refine rk_pc (pc' := 84) rfl ?_
      refine rk_iretP dX6_aboutNewRope_84 rfl rfl ?_
      exact sp_take5 hw
  · skip
    refine rk_bipush (-2) dX6_aboutNewRope_85 (by decide) ?_
    refine rk_iretP dX6_aboutNewRope_87 rfl rfl ?_
    have n0 : ¬ what = 0 := fun z => by rw [z] at qz2; exact absurd qz2 (by decide)
    have n1 : ¬ what = 1 := fun z => by rw [z] at qz2; exact absurd qz2 (by decide)
    have n2 : ¬ what = 2 := fun z => by rw [z] at qz2; exact absurd qz2 (by decide)
    have n3 : ¬ what = 3 := fun z => by rw [z] at qz2; exact absurd qz2 (by decide)
    have n4 : ¬ what = 4 := fun z => by rw [z] at qz2; exact absurd qz2 (by decide)
    have n5 : ¬ what = 5 := fun z => by rw [z] at qz2; exact absurd qz2 (by decide)
    simp only [sp_take, if_neg n0, if_neg n1, if_neg n2, if_neg n3, if_neg n4, if_neg n5]
end CR

