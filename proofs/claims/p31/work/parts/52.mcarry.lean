section MK
variable {w : rk_W} {l : Launch} {Sh : rk_Sh} {I : rk_Mm} {R : rk_Rm}
theorem sp_iv_T {T T' : Int} {N : Nat → Int32} (h : sp_iv T N) (e : T ≤ T') : sp_iv T' N := by
  obtain ⟨⟨c, hp⟩, h2⟩ := h
  exact ⟨⟨c, sp_pv_T hp e⟩, h2⟩
end MK

