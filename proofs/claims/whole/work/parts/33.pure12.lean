/-! The reference: joint and support; the numbering -/
theorem tb_lt {x m : Nat} (h : x < 2 ^ m) : x.testBit m ≠ true := by rw [Nat.testBit_lt_two_pow h]; decide
theorem up0_lt {V : Nat → Nat} {i m : Nat} (h : ∀ a, V a < 2 ^ m) : ∀ a, va_up V i 0 a < 2 ^ m := by
  intro a
  unfold va_up
  split
  · exact Nat.two_pow_pos m
  · exact h a
theorem upx_lt {V : Nat → Nat} {i b m : Nat} (h : ∀ a, V a < 2 ^ m) (hb : b < m) : ∀ a, va_up V i (V i ^^^ 2 ^ b) a < 2 ^ m := by
  intro a
  unfold va_up
  split
  · exact Nat.xor_lt_two_pow (h i) (Nat.pow_lt_pow_right (by decide) hb)
  · exact h a
theorem pw_mono {V : Nat → Nat} {m k : Nat} (h : ∀ a, V a < 2 ^ m) (hk : m ≤ k) : ∀ a, V a < 2 ^ k := fun a => Nat.lt_of_lt_of_le (h a) (Nat.pow_le_pow_right (by decide) hk)
theorem z_bit (k : Nat) : (0 : Nat).testBit k ≠ true := by rw [Nat.zero_testBit]; decide
/-- the reference's reach -/
def mrA (T : Nat → Nat) : Nat → Nat := fun a => T a ||| 2 ^ a
theorem mrA_lt {T : Nat → Nat} {a : Nat} (hT : ∀ a, T a < 4096) (ha : a < 12) : mrA T a < 4096 := Nat.or_lt_two_pow (n := 12) (hT a) (Nat.pow_lt_pow_right (by decide) ha)
def ovI (f : Nat → Int32) (i : Nat) : Nat → Int32 := fun x => if x < i then -1 else f x
theorem ovI_0 (f : Nat → Int32) : ovI f 0 = f := by funext x; simp [ovI]
theorem ovI_s (f : Nat → Int32) (i : Nat) : upd (ovI f i) i (-1) = ovI f (i + 1) := by
  funext x
  simp only [upd, ovI]
  by_cases h : x = i
  · subst h; simp
  · simp only [h, if_false]
    by_cases h2 : x < i
    · simp [h2, Nat.lt_succ_of_lt h2]
    · simp [h2, show ¬ x < i + 1 by omega]
theorem rc_st {X V : Nat → Nat} {b a v : Nat} (h : V = rcU X b a) (hv : v = if (V a).testBit b then V a ||| V b else V a) : va_up V a v = rcU X b (a + 1) := by
  rw [hv]
  simp only [rcU, ← h]
  split
  · rfl
  · funext j; simp only [va_up]; split
    · rename_i e; rw [e]
    · rfl
/-- which circle is next: the least that is ready -/
def nxU (X : Nat → Nat) (n dn : Nat) : Nat → Option Nat
  | 0 => none
  | d + 1 => if dn.testBit (n - 1 - d) = false ∧ dif (dif (frM X (n - 1 - d) n) dn) (frM X (n - 1 - d) n &&& X (n - 1 - d)) = 0 then some (n - 1 - d) else nxU X n dn d
theorem NX_y {X : Nat → Nat} {n dn i : Nat} (hi : i + 1 ≤ n) (h1 : dn.testBit i = false) (h2 : dif (dif (frM X i n) dn) (frM X i n &&& X i) = 0) : some i = nxU X n dn (n - i) := by
  obtain ⟨e1, e2⟩ := AG_d hi
  rw [e1]
  simp only [nxU, e2]
  rw [if_pos ⟨h1, h2⟩]
theorem NX_n {X : Nat → Nat} {n dn i : Nat} {o : Option Nat} (h : o = nxU X n dn (n - (i + 1))) (hi : i + 1 ≤ n) (hb : ¬ (dn.testBit i = false ∧ dif (dif (frM X i n) dn) (frM X i n &&& X i) = 0)) : o = nxU X n dn (n - i) := by
  obtain ⟨e1, e2⟩ := AG_d hi
  rw [e1]
  simp only [nxU, e2]
  rw [if_neg hb]
  exact h
def nrI (V : Nat → Int32) (k z i : Nat) : Nat → Int32 := fun a => if a < i ∧ k.testBit a = true then nI z else V a
theorem nrI_0 (V : Nat → Int32) (k z : Nat) : nrI V k z 0 = V := by funext a; simp [nrI]
theorem nrI_st {V W : Nat → Int32} {k z i : Nat} {v : Int32} (h : W = nrI V k z i) (hv : v = if k.testBit i = true then nI z else W i) : upd W i v = nrI V k z (i + 1) := by
  have e : W i = V i := by rw [h]; simp [nrI]
  rw [hv, e, h]
  funext a
  simp only [upd, nrI]
  by_cases h : a = i
  · subst h; simp
  · simp only [h, if_false]
    by_cases h2 : a < i
    · simp [h2, Nat.lt_succ_of_lt h2]
    · simp [h2, show ¬ a < i + 1 by omega]
/-- the numbering after k turns: the numbers, which are done -/
def mnS (X : Nat → Nat) (n : Nat) (C : Nat → Int32) : Nat → (Nat → Int32) × Nat
  | 0 => (C, 0)
  | k + 1 => match nxU X n (mnS X n C k).2 n with
    | none => mnS X n C k
    | some a => (nrI (mnS X n C k).1 (frM X a n &&& X a) k n, (mnS X n C k).2 ||| (frM X a n &&& X a))
theorem mnS_s {X : Nat → Nat} {n : Nat} {C V : Nat → Int32} {k dn a : Nat} (h : mnS X n C k = (V, dn)) (ha : nxU X n dn n = some a) : mnS X n C (k + 1) = (nrI V (frM X a n &&& X a) k n, dn ||| (frM X a n &&& X a)) := by
  simp only [mnS, h, ha]
theorem NX_lt {X : Nat → Nat} {n dn : Nat} : ∀ {d b : Nat}, d ≤ n → nxU X n dn d = some b → b < n ∧ dn.testBit b = false := by
  intro d
  induction d with
  | zero => intro b _ h; cases h
  | succ d ih =>
    intro b hd h
    simp only [nxU] at h
    split at h
    · rename_i hc; cases h; exact ⟨by omega, hc.1⟩
    · exact ih (by omega) h
theorem or_gt {a b i : Nat} (h1 : a.testBit i = false) (h2 : b.testBit i = true) : a < a ||| b := by
  refine Nat.lt_of_le_of_ne Nat.left_le_or (fun q => ?_)
  have := congrArg (fun z => z.testBit i) q
  simp [h1, h2] at this
def mrX (T : Nat → Nat) (n : Nat) (X : Nat → Nat) : Nat → Nat := rcB (ovw X (mrA T) n) n n
theorem rx_lt {T MX : Nat → Nat} {n a : Nat} (hT : ∀ a, T a < 4096) (hM : ∀ a, MX a < 4096) (ha : a < 12) : ovw MX (mrA T) n a < 4096 := by
  simp only [ovw]
  split
  · exact mrA_lt hT ha
  · exact hM a
theorem bf_of {b : Bool} (h : b = false) : b = false := h
