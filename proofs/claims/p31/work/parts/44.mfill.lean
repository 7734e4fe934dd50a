section MW
variable {w : rk_W} {l : Launch} {Sh : rk_Sh} {I : rk_Mm} {R : rk_Rm}
theorem sp_cf_inv {T : Int} {o : Nat} (ho : o < 16) : ∀ (n c : Nat) (N : Nat → Int32), n < 2 ^ 20 → sp_pv T N c → sp_ov N o → N (220 + 7 * o + 3) = nI n → (∀ j, (j < 12 ∨ j = 13 ∨ (16 ≤ j ∧ j < 30) ∨ (218 ≤ j ∧ j ≠ 220 + 7 * o + 3)) → (sp_cf o n N).1 j = N j) ∧ (∃ c', c' ≤ c ∧ sp_pv T (sp_cf o n N).1 c') ∧ (sp_cf o n N).2 ≤ n ∧ (sp_cf o n N).1 (220 + 7 * o + 3) = nI (n - (sp_cf o n N).2) := by
  intro n
  induction n with
  | zero => intro c N _ hv _ hn; exact ⟨fun _ _ => rfl, ⟨c, Nat.le_refl _, hv⟩, Nat.le_refl _, hn⟩
  | succ n ih =>
    intro c N hk hv hov hn
    rcases sp_bq_in (o := o) hv with hb | ⟨q, hq, hb, hsu⟩
    · rw [sp_cf0 (by rw [hb]; exact rk_n6)]
      exact ⟨fun _ _ => rfl, ⟨c, Nat.le_refl _, hv⟩, Nat.zero_le _, hn⟩
    · obtain ⟨⟨g, hg, hg0⟩, hfe⟩ := hov
      have hc24 := hv.1
      obtain ⟨f, hf, hf0⟩ := hv.2.2.1 q hq
      have hfg : f = g := by
        have e1 : N (50 + 7 * q + 0) = N (220 + 7 * o + 0) := hsu.1
        rw [hf0, hg0] at e1
        exact (nI_eq (by omega) (by omega)).mp e1
      subst hfg
      have hsc : sp_c N (220 + 7 * o) = f := sp_cN hg0 (by omega)
      have hfeet : (N (220 + 7 * o + 2)).toInt ≤ (N (50 + 7 * q + 3)).toInt := Int32.le_iff_toInt_le.mp hsu.2.1
      obtain ⟨c', hc', hv'⟩ := sp_pv_step hv ho hq hfe hfeet (by rw [hsc]; exact hf)
      have hsx : ∀ j, (j < 12 ∨ j = 13 ∨ (16 ≤ j ∧ j < 30) ∨ (218 ≤ j ∧ j ≠ 220 + 7 * o + 3)) → sp_step N o q j = N j := fun j hj => sp_step_x hv.2.1 hc24 hq hf hf0 hf hg0 rfl (by omega) (by omega) (by omega) (by omega) (by omega) (by omega) (by omega)
      have hn' : sp_step N o q (220 + 7 * o + 3) = nI n := by simp only [sp_step, hsc]; rw [sp_un (by omega), sp_un (by omega), sp_us, hn, nI_pred]
      obtain ⟨i1, ⟨c2, i2, i3⟩, i4, i5⟩ := ih c' (sp_step N o q) (by omega) hv' ⟨⟨f, hf, by rw [hsx _ (by omega)]; exact hg0⟩, by rw [hsx _ (by omega)]; exact hfe⟩ hn'
      rw [sp_cf1 hb (by omega)]
      exact ⟨fun j hj => by rw [i1 j hj, hsx j hj], ⟨c2, by omega, i3⟩, by show _ + 1 ≤ n + 1; omega, by rw [i5]; congr 1; omega⟩
noncomputable def sp_fillN (N : Nat → Int32) (o n : Nat) : Nat → Int32 := if (sp_cf o n N).1 (220 + 7 * o + 3) = 0 then sp_gone (sp_cf o n N).1 13 220 o else (sp_cf o n N).1
noncomputable def sp_fill (N : Nat → Int32) (x : Int32) : sp_R := @ite _ (sp_isor N x) (Classical.propDecidable _) (if sp_bq N x.toNatClampNeg < 0 then (-5, none) else (nI (sp_cf x.toNatClampNeg (sp_c N (220 + 7 * x.toNatClampNeg + 3)) N).2, some (sp_fillN N x.toNatClampNeg (sp_c N (220 + 7 * x.toNatClampNeg + 3))))) (-1, none)
/-- the reference's wouldFill(): its own row stays, another one of its rows may change -/
noncomputable def sp_would (N : Nat → Int32) (x k : Int32) : Int32 := @ite _ (sp_isor N x) (Classical.propDecidable _) (@ite _ (0 ≤ k ∧ k ≤ 2) (Classical.propDecidable _) (if k = 0 then nI (sp_cf x.toNatClampNeg (sp_c N (220 + 7 * x.toNatClampNeg + 3)) N).2 else if k = 1 then (sp_cf x.toNatClampNeg (sp_c N (220 + 7 * x.toNatClampNeg + 3)) N).1 (30 + 4 * sp_c N (220 + 7 * x.toNatClampNeg + 0) + 3) - N (30 + 4 * sp_c N (220 + 7 * x.toNatClampNeg + 0) + 3) else (sp_cf x.toNatClampNeg (sp_c N (220 + 7 * x.toNatClampNeg + 3)) N).1 12) (-2)) (-1)
end MW

