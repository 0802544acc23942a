/-! Listing, Grounds, Talk, Rings: what their loops do, as functions -/
def fstM (M : Nat → Nat) (k : Nat) : Nat → Nat → Option Nat
  | 0, _ => none
  | f + 1, x => if (M x).testBit k then some x else fstM M k f (x + 1)
def oP : Option Nat → Nat → Nat
  | none, y => y
  | some x, _ => x + 1
theorem fst_y {M : Nat → Nat} {k ev i : Nat} {F : Option Nat} (h : fstM M k (ev + 1 - i) i = F) (hi : i ≤ ev) (hb : (M i).testBit k = true) : F = some i := by
  rw [← h, show ev + 1 - i = (ev - i) + 1 by omega]
  simp [fstM, hb]
theorem fst_n {M : Nat → Nat} {k ev i : Nat} {F : Option Nat} (h : fstM M k (ev + 1 - i) i = F) (hi : i ≤ ev) (hb : (M i).testBit k = false) : fstM M k (ev + 1 - (i + 1)) (i + 1) = F := by
  rw [← h, show ev + 1 - i = (ev + 1 - (i + 1)) + 1 by omega]
  simp [fstM, hb]
theorem fst_e {M : Nat → Nat} {k ev i : Nat} {F : Option Nat} (h : fstM M k (ev + 1 - i) i = F) (hi : ev < i) : F = none := by
  rw [← h, show ev + 1 - i = 0 by omega]
  rfl
/-- what a set defends -/
def dfd (T : Nat → Nat) (n k : Nat) : Nat := dif (2 ^ n - 1) (tgU T (dif (2 ^ n - 1) (tgU T k n)) n)
theorem dfd_le (T : Nat → Nat) (n k : Nat) : dfd T n k ≤ 2 ^ n - 1 := dif_le _ _
theorem dfd_lt {T : Nat → Nat} {n k : Nat} (hn : n ≤ 12) : dfd T n k < 4096 := by
  have := dfd_le T n k
  have := p12_le hn
  have := Nat.one_le_two_pow (n := n)
  omega
/-- the grounded set after r rounds -/
def gdA (T : Nat → Nat) (n : Nat) : Nat → Nat
  | 0 => 0
  | r + 1 => dfd T n (gdA T n r)
theorem gdA_lt {T : Nat → Nat} {n : Nat} (hn : n ≤ 12) (r : Nat) : gdA T n r < 4096 := by
  cases r with
  | zero => exact Nat.zero_lt_succ _
  | succ r => exact dfd_lt hn
def nrU (R : Nat → Nat) (k r i : Nat) : Nat → Nat := fun a => if a < i ∧ k.testBit a = true then r else R a
theorem nrU_0 (R : Nat → Nat) (k r : Nat) : nrU R k r 0 = R := by funext a; simp [nrU]
theorem nrU_y {R : Nat → Nat} {k r i : Nat} (h : k.testBit i = true) : va_up (nrU R k r i) i r = nrU R k r (i + 1) := by
  funext a
  simp only [va_up, nrU]
  by_cases e : a = i
  · subst e; simp [h]
  · simp only [e, if_false]
    by_cases h2 : a < i
    · simp [h2, Nat.lt_succ_of_lt h2]
    · simp [h2, show ¬ a < i + 1 by omega]
theorem nrU_n {R : Nat → Nat} {k r i : Nat} (h : k.testBit i = false) : nrU R k r i = nrU R k r (i + 1) := by
  funext a
  simp only [nrU]
  by_cases e : a = i
  · subst e; simp [h]
  · by_cases h2 : a < i
    · simp [h2, Nat.lt_succ_of_lt h2]
    · simp [h2, show ¬ a < i + 1 by omega]
def gdR (T : Nat → Nat) (n : Nat) (R0 : Nat → Nat) : Nat → Nat → Nat
  | 0 => R0
  | r + 1 => nrU (gdR T n R0 r) (dif (dfd T n (gdA T n r)) (gdA T n r)) (r + 1) 12
/-- the one of the least round, of those the least -/
def erl (R : Nat → Nat) (k : Nat) : Nat → Option Nat
  | 0 => none
  | i + 1 => if k.testBit i = true ∧ (∀ b, erl R k i = some b → R i < R b) then some i else erl R k i
theorem erl_lt {R : Nat → Nat} {k : Nat} : ∀ {i j : Nat}, erl R k i = some j → j < i ∧ k.testBit j = true := by
  intro i
  induction i with
  | zero => intro j h; cases h
  | succ i ih =>
    intro j h
    simp only [erl] at h
    split at h
    · rename_i hc
      cases h
      exact ⟨Nat.lt_succ_self _, hc.1⟩
    · exact ⟨Nat.lt_succ_of_lt (ih h).1, (ih h).2⟩
theorem erl_n1 {R : Nat → Nat} {k i : Nat} (h : k.testBit i = false) : erl R k (i + 1) = erl R k i := by simp [erl, h]
theorem erl_y0 {R : Nat → Nat} {k i : Nat} (h : k.testBit i = true) (e : erl R k i = none) : erl R k (i + 1) = some i := by
  simp only [erl, h, true_and, e]
  rw [if_pos]
  intro b q; cases q
theorem erl_y1 {R : Nat → Nat} {k i b : Nat} (h : k.testBit i = true) (e : erl R k i = some b) (hr : R i < R b) : erl R k (i + 1) = some i := by
  simp only [erl, h, true_and, e]
  rw [if_pos]
  intro b' q; cases q; exact hr
theorem erl_n2 {R : Nat → Nat} {k i b : Nat} (h : k.testBit i = true) (e : erl R k i = some b) (hr : R b ≤ R i) : erl R k (i + 1) = some b := by
  simp only [erl, h, true_and, e]
  rw [if_neg]
  intro q
  have := q b rfl
  omega
/-- a move of the dialogue, as it is asked for -/
def tellF (z : Nat) (Sa : Nat → Nat) (An : Nat → Int32) (Sd : Nat → Nat) (x y : Int32) : Int32 :=
  if inR x z then (if y = 0 then nI (Sa x.toNatClampNeg) else if y = 1 then An x.toNatClampNeg else if y = 2 then nI (Sd x.toNatClampNeg) else -1) else -1
/-- reach, one by one -/
def rcA (T : Nat → Nat) (n : Nat) : Nat → Nat := fun a => (if a < n then T a else 0) ||| 2 ^ a
def rcU (X : Nat → Nat) (by_ : Nat) : Nat → Nat → Nat
  | 0 => X
  | a + 1 => if (rcU X by_ a a).testBit by_ then va_up (rcU X by_ a) a (rcU X by_ a a ||| rcU X by_ a by_) else rcU X by_ a
def rcB (X : Nat → Nat) (n : Nat) : Nat → Nat → Nat
  | 0 => X
  | by_ + 1 => rcU (rcB X n by_) by_ n
/-- the circle around a -/
def arU (X : Nat → Nat) (a : Nat) : Nat → Nat
  | 0 => 0
  | b + 1 => if (X a).testBit b && (X b).testBit a then arU X a b ||| 2 ^ b else arU X a b
theorem arU_lt {X : Nat → Nat} {a b : Nat} (h : b ≤ 12) : arU X a b < 4096 := by
  induction b with
  | zero => exact Nat.zero_lt_succ _
  | succ b ih =>
    simp only [arU]; split
    · exact Nat.or_lt_two_pow (n := 12) (ih (by omega)) (Nat.pow_lt_pow_right (by decide) (by omega))
    · exact ih (by omega)
/-- the first circle that is ready, from a on -/
def frd (X U : Nat → Nat) (n dn : Nat) : Nat → Nat → Nat
  | 0, _ => 0
  | f + 1, a => if dn.testBit a = false ∧ dif (tgU U (arU X a n) n) (arU X a n ||| dn) = 0 then arU X a n else frd X U n dn f (a + 1)
theorem frd_lt {X U : Nat → Nat} {n dn : Nat} (hn : n ≤ 12) : ∀ (f a : Nat), frd X U n dn f a < 4096 := by
  intro f
  induction f with
  | zero => intro a; exact Nat.zero_lt_succ _
  | succ f ih =>
    intro a
    simp only [frd]; split
    · exact arU_lt hn
    · exact ih _
def nbU (Y : Nat → Nat) (k z : Nat) : Nat → Nat := nrU Y k z 12
/-- the numbering after k turns: the numbers, how many, which -/
def fnd (X U : Nat → Nat) (n : Nat) (Y : Nat → Nat) : Nat → (Nat → Nat) × Nat × Nat
  | 0 => (Y, 0, 0)
  | k + 1 => (if frd X U n (fnd X U n Y k).2.2 n 0 = 0 then (fnd X U n Y k).1 else nbU (fnd X U n Y k).1 (frd X U n (fnd X U n Y k).2.2 n 0) (fnd X U n Y k).2.1,
      if frd X U n (fnd X U n Y k).2.2 n 0 = 0 then (fnd X U n Y k).2.1 else (fnd X U n Y k).2.1 + 1,
      (fnd X U n Y k).2.2 ||| frd X U n (fnd X U n Y k).2.2 n 0)
