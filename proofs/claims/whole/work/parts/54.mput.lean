section MQ
variable {w : rk_W} {l : Launch} {Sh : rk_Sh} {I : rk_Mm} {R : rk_Rm}
/-- a number shifted by one character -/
def lsh (x : Int64) : Int64 := (x.toUInt64 >>> ((8 : Int32).toInt64.toUInt64 &&& Int64.toUInt64 63)).toInt64
def lk (x : Int64) : Nat → Int64
  | 0 => x
  | n + 1 => lsh (lk x n)
def lb (x : Int64) (i : Nat) : Int32 := (lk x i &&& 255).toInt32
theorem lsh_n (x : Int64) : (lsh x).toUInt64.toNat = x.toUInt64.toNat / 256 := by
  unfold lsh
  rw [UInt64.toUInt64_toInt64, show ((8 : Int32).toInt64.toUInt64 &&& Int64.toUInt64 63) = 8 from by decide, UInt64.toNat_shiftRight, show (8 : UInt64).toNat % 64 = 8 from rfl, Nat.shiftRight_eq_div_pow]
theorem lk_n (x : Int64) : ∀ n, (lk x n).toUInt64.toNat = x.toUInt64.toNat / 256 ^ n := by
  intro n
  induction n with
  | zero => rw [Nat.pow_zero, Nat.div_one]; rfl
  | succ n ih => rw [show lk x (n + 1) = lsh (lk x n) from rfl, lsh_n, ih, Nat.div_div_eq_div_mul, Nat.pow_succ]
theorem l_n0 {x : Int64} (h : x.toUInt64.toNat = 0) : x = 0 := by
  have e : x.toUInt64 = 0 := UInt64.toNat_inj.mp (by rw [h]; rfl)
  rw [← Int64.toInt64_toUInt64 x, e]
  rfl
theorem lk_8 (x : Int64) : lk x 8 = 0 := l_n0 (by
  rw [lk_n]
  exact Nat.div_eq_of_lt (UInt64.toNat_lt _))
end MQ

