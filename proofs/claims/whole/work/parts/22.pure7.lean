/-! The reference's reckoning, as functions -/
def ovB (f g : Nat → Bool) (i : Nat) : Nat → Bool := fun x => if x < i then g x else f x
theorem ovB_0 (f g : Nat → Bool) : ovB f g 0 = f := by funext x; simp [ovB]
theorem ovB_s (f g : Nat → Bool) (i : Nat) : va_up (ovB f g i) i (g i) = ovB f g (i + 1) := by
  funext x
  simp only [va_up, ovB]
  by_cases h : x = i
  · subst h; simp
  · simp only [h, if_false]
    by_cases h2 : x < i
    · simp [h2, Nat.lt_succ_of_lt h2]
    · simp [h2, show ¬ x < i + 1 by omega]
theorem ovB_lt {f g : Nat → Bool} {i x : Nat} (h : x < i) : ovB f g i x = g x := by simp [ovB, h]
theorem up_up {α : Type} (f : Nat → α) (k : Nat) (v w : α) : va_up (va_up f k v) k w = va_up f k w := by
  funext j; simp only [va_up]; split <;> rfl
theorem up_at {α : Type} (f : Nat → α) (k : Nat) (v : α) : va_up f k v k = v := by simp [va_up]
theorem up_ne {α : Type} {f : Nat → α} {k j : Nat} {v : α} (h : j ≠ k) : va_up f k v j = f j := by simp [va_up, h]
/-- whether a set has one above it: the inner loop -/
def laI (HE V : Nat → Bool) (x : Nat) : Nat → Bool
  | 0 => false
  | a + 1 => laI HE V x a || ((x ||| 2 ^ a) != x && (HE (x ||| 2 ^ a) || V (x ||| 2 ^ a)))
/-- the outer loop, down from 2 ^ n - 1, after d turns -/
def laO (HE AV : Nat → Bool) (n : Nat) : Nat → Nat → Bool
  | 0 => AV
  | d + 1 => va_up (laO HE AV n d) (2 ^ n - 1 - d) (laI HE (laO HE AV n d) (2 ^ n - 1 - d) n)
theorem laO_s {HE AV : Nat → Bool} {n i : Nat} {V : Nat → Bool} (h : V = laO HE AV n (2 ^ n - 1 + 1 - (i + 1))) (hi : i + 1 ≤ 2 ^ n - 1 + 1) : va_up V i (laI HE V i n) = laO HE AV n (2 ^ n - 1 + 1 - i) := by
  rw [show 2 ^ n - 1 + 1 - i = (2 ^ n - 1 + 1 - (i + 1)) + 1 by omega]
  simp only [laO, ← h, show 2 ^ n - 1 - (2 ^ n - 1 + 1 - (i + 1)) = i by omega]
theorem or_ne_lt {x a n : Nat} (hx : x < 2 ^ n) (ha : a < n) : x ||| 2 ^ a < 2 ^ n := Nat.or_lt_two_pow hx (Nat.pow_lt_pow_right (by decide) ha)
/-- the kinds that a set has by itself -/
def kd1 (T U : Nat → Nat) (n x : Nat) : Nat :=
  (if (tgU T x n &&& x == 0) = true ∧ tgU T x n ||| x = 2 ^ n - 1 then
    (if ((tgU T x n &&& x == 0) && (dif x (dfM U (tgU T x n) n) == 0)) = true ∧ dfM U (tgU T x n) n = x then
      (if ((tgU T x n &&& x == 0) && (dif x (dfM U (tgU T x n) n) == 0)) = true then 0 ||| 2 ^ 4 else 0) ||| 2 ^ 0
    else (if ((tgU T x n &&& x == 0) && (dif x (dfM U (tgU T x n) n) == 0)) = true then 0 ||| 2 ^ 4 else 0)) ||| 2 ^ 2
  else
    (if ((tgU T x n &&& x == 0) && (dif x (dfM U (tgU T x n) n) == 0)) = true ∧ dfM U (tgU T x n) n = x then
      (if ((tgU T x n &&& x == 0) && (dif x (dfM U (tgU T x n) n) == 0)) = true then 0 ||| 2 ^ 4 else 0) ||| 2 ^ 0
    else (if ((tgU T x n &&& x == 0) && (dif x (dfM U (tgU T x n) n) == 0)) = true then 0 ||| 2 ^ 4 else 0)))
/-- which sets are admissible -/
def adB (T U : Nat → Nat) (n x : Nat) : Bool := (tgU T x n &&& x == 0) && (dif x (dfM U (tgU T x n) n) == 0)
def frB (T : Nat → Nat) (n x : Nat) : Bool := tgU T x n &&& x == 0
/-- the ranges of the conflict-free sets, marked -/
def rnB (HI : Nat → Nat) (HE : Nat → Bool) : Nat → Nat → Bool
  | 0 => HE
  | i + 1 => if (HI i &&& i == 0) = true then va_up (rnB HI HE i) (i ||| HI i) true else rnB HI HE i
/-- a kind is added where a test holds -/
def kdU (KD : Nat → Nat) (tst : Nat → Bool) (k i : Nat) : Nat → Nat := fun x => if x < i ∧ tst x = true then KD x ||| 2 ^ k else KD x
theorem kdU_0 (KD : Nat → Nat) (tst : Nat → Bool) (k : Nat) : kdU KD tst k 0 = KD := by funext x; simp [kdU]
theorem kdU_at {KD : Nat → Nat} {tst : Nat → Bool} {k i : Nat} : kdU KD tst k i i = KD i := by simp [kdU]
theorem kdU_y {KD : Nat → Nat} {tst : Nat → Bool} {k i : Nat} (h : tst i = true) : va_up (kdU KD tst k i) i (KD i ||| 2 ^ k) = kdU KD tst k (i + 1) := by
  funext x
  simp only [va_up, kdU]
  by_cases e : x = i
  · subst e; simp [h]
  · simp only [e, if_false]
    by_cases h2 : x < i
    · simp [h2, Nat.lt_succ_of_lt h2]
    · simp [h2, show ¬ x < i + 1 by omega]
theorem kdU_n {KD : Nat → Nat} {tst : Nat → Bool} {k i : Nat} (h : tst i = false) : kdU KD tst k i = kdU KD tst k (i + 1) := by
  funext x
  simp only [kdU]
  by_cases e : x = i
  · subst e; simp [h]
  · by_cases h2 : x < i
    · simp [h2, Nat.lt_succ_of_lt h2]
    · simp [h2, show ¬ x < i + 1 by omega]
theorem kdU_lt {KD : Nat → Nat} {tst : Nat → Bool} {k i : Nat} (hk : k < 5) (h : ∀ x, KD x < 32) : ∀ x, kdU KD tst k i x < 32 := by
  intro x
  simp only [kdU]; split
  · exact Nat.or_lt_two_pow (n := 5) (h x) (Nat.pow_lt_pow_right (by decide) hk)
  · exact h x
/-- the rounds, one by one -/
def grU (MR : Nat → Nat) (d r i : Nat) : Nat → Nat := fun a => if a < i ∧ d.testBit a = true ∧ MR a = 0 then r else MR a
theorem grU_0 (MR : Nat → Nat) (d r : Nat) : grU MR d r 0 = MR := by funext a; simp [grU]
theorem grU_at {MR : Nat → Nat} {d r i : Nat} : grU MR d r i i = MR i := by simp [grU]
theorem grU_s {MR : Nat → Nat} {d r i v : Nat} (h : v = if d.testBit i = true ∧ MR i = 0 then r else MR i) : va_up (grU MR d r i) i v = grU MR d r (i + 1) := by
  funext a
  simp only [va_up, grU]
  by_cases e : a = i
  · subst e
    simp [h]
  · simp only [e, if_false]
    by_cases h2 : a < i
    · simp [h2, Nat.lt_succ_of_lt h2]
    · simp [h2, show ¬ a < i + 1 by omega]
def rdA (HI U : Nat → Nat) (n : Nat) : Nat → Nat
  | 0 => 0
  | r + 1 => dfM U (HI (rdA HI U n r)) n
theorem rdA_lt {HI U : Nat → Nat} {n : Nat} (hn : n ≤ 12) (r : Nat) : rdA HI U n r < 4096 := by
  cases r with
  | zero => exact Nat.zero_lt_succ _
  | succ r => exact dfM_lt hn
def rdR (HI U : Nat → Nat) (n : Nat) (MR : Nat → Nat) : Nat → Nat → Nat
  | 0 => MR
  | r + 1 => grU (rdR HI U n MR r) (dfM U (HI (rdA HI U n r)) n) (r + 1) n
theorem la_st {HE V V2 : Nat → Bool} {x a : Nat} {v : Bool} (h : V2 = va_up V x (laI HE V x a)) (hv : v = (V2 x || ((x ||| 2 ^ a) != x && (HE (x ||| 2 ^ a) || V2 (x ||| 2 ^ a))))) : va_up V2 x v = va_up V x (laI HE V x (a + 1)) := by
  rw [hv, h, up_up, up_at]
  simp only [laI]
  congr 2
  by_cases e : (x ||| 2 ^ a) = x
  · rw [e]; simp
  · rw [up_ne e]
theorem gr_st {MR V3 : Nat → Nat} {d r i v : Nat} (h : V3 = grU MR d r i) (hv : v = if d.testBit i = true ∧ V3 i = 0 then r else V3 i) : va_up V3 i v = grU MR d r (i + 1) := by
  have e : V3 i = MR i := by rw [h]; exact grU_at
  rw [e] at hv
  rw [h]
  exact grU_s hv
theorem rdR_le {HI U MR : Nat → Nat} {n : Nat} : ∀ {r a : Nat}, a < n → rdR HI U n (ovw MR (fun _ => 0) n) r a ≤ r := by
  intro r
  induction r with
  | zero => intro a ha; simp [rdR, ovw, ha]
  | succ r ih =>
    intro a ha
    simp only [rdR, grU]
    split
    · exact Nat.le_refl _
    · exact Nat.le_succ_of_le (ih ha)
