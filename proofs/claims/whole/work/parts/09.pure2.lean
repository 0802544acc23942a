/-! Senses: what its loops do, as functions -/
/-- the first i places are those of g -/
def ovw (f g : Nat → Nat) (i : Nat) : Nat → Nat := fun x => if x < i then g x else f x
theorem ovw_0 (f g : Nat → Nat) : ovw f g 0 = f := by funext x; simp [ovw]
theorem ovw_s (f g : Nat → Nat) (i : Nat) : va_up (ovw f g i) i (g i) = ovw f g (i + 1) := by
  funext x
  simp only [va_up, ovw]
  by_cases h : x = i
  · subst h; simp
  · simp only [h, if_false]
    by_cases h2 : x < i
    · simp [h2, Nat.lt_succ_of_lt h2]
    · simp [h2, show ¬ x < i + 1 by omega]
theorem ovw_lt {f g : Nat → Nat} {i x : Nat} (h : x < i) : ovw f g i x = g x := by simp [ovw, h]
theorem ovw_ge {f g : Nat → Nat} {i x : Nat} (h : ¬ x < i) : ovw f g i x = f x := by simp [ovw, h]
def cntM (M : Nat → Nat) (k : Nat) : Nat → Nat
  | 0 => 0
  | i + 1 => if (M i).testBit k then cntM M k i + 1 else cntM M k i
theorem cntM_le (M : Nat → Nat) (k i : Nat) : cntM M k i ≤ i := by
  induction i with
  | zero => exact Nat.le_refl _
  | succ i ih => simp only [cntM]; split <;> omega
def metM (M : Nat → Nat) (k ev : Nat) : Nat → Nat
  | 0 => ev
  | i + 1 => if (M i).testBit k then metM M k ev i &&& i else metM M k ev i
theorem metM_le (M : Nat → Nat) (k ev i : Nat) : metM M k ev i ≤ ev := by
  induction i with
  | zero => exact Nat.le_refl _
  | succ i ih =>
    simp only [metM]; split
    · exact Nat.le_trans Nat.and_le_left ih
    · exact ih
def joiM (M : Nat → Nat) (k bd : Nat) : Nat → Nat
  | 0 => 0
  | i + 1 => if (dif i bd == 0) && (M i).testBit k then joiM M k bd i ||| i else joiM M k bd i
theorem joiM_lt (M : Nat → Nat) (k bd : Nat) {i : Nat} (h : i ≤ 4096) : joiM M k bd i < 4096 := by
  induction i with
  | zero => exact Nat.zero_lt_succ _
  | succ i ih =>
    simp only [joiM]; split
    · exact Nat.or_lt_two_pow (n := 12) (ih (by omega)) (by omega)
    · exact ih (by omega)
theorem bit_and {m k : Nat} : (m &&& 2 ^ k != 0) = m.testBit k := by
  cases h : m.testBit k with
  | false => rw [and_pow_bit.mpr h]; rfl
  | true =>
    have : m &&& 2 ^ k ≠ 0 := fun q => by rw [and_pow_bit.mp q] at h; cases h
    simp [this]
def ownM (TS : Nat → Nat) (ev x : Nat) : Nat :=
  if TS x &&& x ≠ 0 then 0
  else
    (if x = dif ev (TS (dif ev (TS x))) then
      (if dif x (dif ev (TS (dif ev (TS x)))) = 0 then (if TS x ||| x = ev then 32 ||| 4 else 32) ||| 16 else (if TS x ||| x = ev then 32 ||| 4 else 32)) ||| 1
    else
      (if dif x (dif ev (TS (dif ev (TS x)))) = 0 then (if TS x ||| x = ev then 32 ||| 4 else 32) ||| 16 else (if TS x ||| x = ev then 32 ||| 4 else 32)))
/-- whether x is in none of the first i tops -/
def ntU (P : Nat → Nat) (x : Nat) : Nat → Bool
  | 0 => true
  | i + 1 => ntU P x i && !(dif x (P i) == 0)
/-- the loop that goes down from ev: the marks, the tops, how many -/
def tpS (mk sb : Nat) (M0 P0 : Nat → Nat) (ev : Nat) : Nat → (Nat → Nat) × (Nat → Nat) × Nat
  | 0 => (M0, P0, 0)
  | d + 1 =>
    if ((tpS mk sb M0 P0 ev d).1 (ev - d) &&& mk != 0) && ntU (tpS mk sb M0 P0 ev d).2.1 (ev - d) (tpS mk sb M0 P0 ev d).2.2 then
      (va_up (tpS mk sb M0 P0 ev d).1 (ev - d) ((tpS mk sb M0 P0 ev d).1 (ev - d) ||| sb), va_up (tpS mk sb M0 P0 ev d).2.1 (tpS mk sb M0 P0 ev d).2.2 (ev - d), (tpS mk sb M0 P0 ev d).2.2 + 1)
    else tpS mk sb M0 P0 ev d
def rgS (TS M : Nat → Nat) : Nat → Nat → Nat
  | 0 => M
  | i + 1 => if rgS TS M i i &&& 32 != 0 then va_up (rgS TS M i) (i ||| TS i) (rgS TS M i (i ||| TS i) ||| 64) else rgS TS M i
def stS (TS M : Nat → Nat) : Nat → Nat → Nat
  | 0 => M
  | i + 1 => if (stS TS M i i &&& 32 != 0) && (stS TS M i (i ||| TS i) &&& 128 != 0) then va_up (stS TS M i) i (stS TS M i i ||| 8) else stS TS M i
