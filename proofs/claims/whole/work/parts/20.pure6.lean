/-! The reference: what its loops do, as functions -/
def dfM (U : Nat → Nat) (k : Nat) : Nat → Nat
  | 0 => 0
  | a + 1 => if dif (U a) k = 0 then dfM U k a ||| 2 ^ a else dfM U k a
theorem dfM_lt {U : Nat → Nat} {k n : Nat} (h : n ≤ 12) : dfM U k n < 4096 := by
  induction n with
  | zero => exact Nat.zero_lt_succ _
  | succ n ih =>
    simp only [dfM]; split
    · exact Nat.or_lt_two_pow (n := 12) (ih (by omega)) (Nat.pow_lt_pow_right (by decide) (by omega))
    · exact ih (by omega)
def frM (X : Nat → Nat) (a : Nat) : Nat → Nat
  | 0 => 0
  | b + 1 => if (X b).testBit a then frM X a b ||| 2 ^ b else frM X a b
theorem frM_lt {X : Nat → Nat} {a n : Nat} (h : n ≤ 12) : frM X a n < 4096 := by
  induction n with
  | zero => exact Nat.zero_lt_succ _
  | succ n ih =>
    simp only [frM]; split
    · exact Nat.or_lt_two_pow (n := 12) (ih (by omega)) (Nat.pow_lt_pow_right (by decide) (by omega))
    · exact ih (by omega)
