/-! numbers out of a script; what a set attacks -/
def inR (x : Int32) (n : Nat) : Bool := decide (¬ x < 0 ∧ ¬ nI n ≤ x)
theorem inR_of {x : Int32} {n : Nat} (h : inR x n = true) (hn : n < 2 ^ 31 := by omega) : ∃ j : Nat, j < n ∧ x = nI j := by
  simp only [inR, decide_eq_true_eq] at h
  rcases pk_ix x hn with h1 | h1 | h1
  · exact absurd h1 h.1
  · exact absurd h1 h.2
  · exact h1
theorem inR_nI {j n : Nat} (hj : j < 2 ^ 31) (hn : n < 2 ^ 31) : inR (nI j) n = decide (j < n) := by
  simp only [inR, nI_pos hj, not_false_eq_true, true_and, nI_leI hn hj, Nat.not_le]
theorem lt4 {x : Nat} (h : x < 4096) : x < 2 ^ 31 := Nat.lt_trans h (by decide)
theorem ev_lt {n : Nat} (h : n ≤ 12) : 2 ^ n - 1 < 2 ^ 31 := by
  have : 2 ^ n ≤ 2 ^ 12 := Nat.pow_le_pow_right (by decide) h
  omega
/-- what the arguments in a set attack, looked at up to i -/
def tgU (T : Nat → Nat) (k : Nat) : Nat → Nat
  | 0 => 0
  | i + 1 => if k.testBit i then tgU T k i ||| T i else tgU T k i
theorem tgU_lt {T : Nat → Nat} (hT : ∀ a, T a < 4096) (k i : Nat) : tgU T k i < 4096 := by
  induction i with
  | zero => exact Nat.zero_lt_succ _
  | succ i ih =>
    simp only [tgU]
    split
    · exact Nat.or_lt_two_pow (n := 12) ih (hT i)
    · exact ih
def putT (on : Bool) (T : Nat → Nat) (i j : Nat) : Nat → Nat := va_up T i (if on then T i ||| 2 ^ j else dif (T i) (2 ^ j))
