/-! Class and reference agree: what is put down -/
theorem put_bit {V : Nat → Nat} {i j a b : Nat} {on : Bool} : (putT on V i j a).testBit b = (if a = i ∧ b = j then on else (V a).testBit b) := by
  unfold putT va_up
  by_cases ha : a = i
  · subst ha
    cases on with
    | true =>
      simp only [if_true, or_pow_bit]
      by_cases hb : b = j
      · subst hb; simp
      · simp [hb, Ne.symm hb]
    | false =>
      simp only [if_true, Bool.false_eq_true, if_false, dif_bit, Nat.testBit_two_pow]
      by_cases hb : b = j
      · subst hb; simp
      · simp [hb, Ne.symm hb]
  · simp [ha]
theorem put_xor {V : Nat → Nat} {i j : Nat} {on : Bool} (h : (V i).testBit j ≠ on) : va_up V i (V i ^^^ 2 ^ j) = putT on V i j := by
  funext a
  apply Nat.eq_of_testBit_eq
  intro b
  rw [put_bit]
  unfold va_up
  by_cases ha : a = i
  · subst ha
    rw [if_pos rfl, Nat.testBit_xor, Nat.testBit_two_pow]
    by_cases hb : b = j
    · subst hb
      cases on <;> simp_all
    · simp [hb, Ne.symm hb]
  · simp [ha]
theorem px (V : Nat → Nat) (i j : Nat) (h : (V i).testBit j = false) : va_up V i (V i ^^^ 2 ^ j) = putT true V i j := put_xor (by rw [h]; decide)
theorem up_zero {V : Nat → Nat} {i : Nat} (h : V i = 0) : va_up V i 0 = V := by
  funext a
  unfold va_up
  split
  · rename_i e; rw [e, h]
  · rfl
theorem CON_up {n : Nat} {T U : Nat → Nat} (h : CON n T U) : CON (n + 1) T U := by
  obtain ⟨h1, h2, h3, h4, h5⟩ := h
  have hp : 2 ^ n ≤ 2 ^ (n + 1) := Nat.pow_le_pow_right (by decide) (Nat.le_succ n)
  exact ⟨fun a => Nat.lt_of_lt_of_le (h1 a) hp, fun a => Nat.lt_of_lt_of_le (h2 a) hp, fun a ha => h3 a (by omega), fun a ha => h4 a (by omega), h5⟩
theorem put_lt2 {V : Nat → Nat} {n i j : Nat} {on : Bool} (h : ∀ a, V a < 2 ^ n) (hj : j < n) : ∀ a, putT on V i j a < 2 ^ n := by
  intro a
  apply Nat.lt_pow_two_of_testBit
  intro b hb
  rw [put_bit, if_neg (fun q => by omega)]
  exact Nat.testBit_lt_two_pow (Nat.lt_of_lt_of_le (h a) (Nat.pow_le_pow_right (by decide) hb))
theorem put_ne {V : Nat → Nat} {i j a : Nat} {on : Bool} (h : a ≠ i) : putT on V i j a = V a := by unfold putT; exact up_ne h
theorem CON_put {n : Nat} {T U : Nat → Nat} {i j : Nat} {on : Bool} (h : CON n T U) (hi : i < n) (hj : j < n) : CON n (putT on T i j) (putT on U j i) := by
  obtain ⟨h1, h2, h3, h4, h5⟩ := h
  refine ⟨put_lt2 h1 hj, put_lt2 h2 hi, fun a ha => ?_, fun a ha => ?_, fun a b => ?_⟩
  · rw [put_ne (by omega)]; exact h3 a ha
  · rw [put_ne (by omega)]; exact h4 a ha
  · rw [put_bit, put_bit, h5]
    by_cases q : b = j ∧ a = i
    · rw [if_pos q, if_pos ⟨q.2, q.1⟩]
    · rw [if_neg q, if_neg (fun z => q ⟨z.2, z.1⟩)]
theorem CON_0 : CON 0 (fun _ => 0) (fun _ => 0) := ⟨fun _ => Nat.zero_lt_one, fun _ => Nat.zero_lt_one, fun _ _ => rfl, fun _ _ => rfl, fun a b => by show (0 : Nat).testBit a = (0 : Nat).testBit b; simp⟩
theorem hi_bit {x n b : Nat} (h : x < 2 ^ n) (hb : n ≤ b) : x.testBit b = false := Nat.testBit_lt_two_pow (Nat.lt_of_lt_of_le h (Nat.pow_le_pow_right (by decide) hb))
theorem support_T {n : Nat} {T U : Nat → Nat} {i j : Nat} (h : CON n T U) (hi : i < n) (hj : j < n) : va_up (va_up (va_up T n 0) i ((va_up T n 0) i ^^^ 2 ^ n)) n ((va_up (va_up T n 0) i ((va_up T n 0) i ^^^ 2 ^ n)) n ^^^ 2 ^ j) = putT true (putT true T i n) n j := by
  rw [up_zero (h.2.2.1 n (Nat.le_refl n)), px T i n (hi_bit (h.1 i) (Nat.le_refl n)), px (putT true T i n) n j (by rw [put_ne (by omega), h.2.2.1 n (Nat.le_refl n)]; simp)]
theorem support_U {n : Nat} {T U : Nat → Nat} {i j : Nat} (h : CON n T U) (hi : i < n) (hj : j < n) : va_up (va_up (va_up U n 0) n ((va_up U n 0) n ^^^ 2 ^ i)) j ((va_up (va_up U n 0) n ((va_up U n 0) n ^^^ 2 ^ i)) j ^^^ 2 ^ n) = putT true (putT true U n i) j n := by
  rw [up_zero (h.2.2.2.1 n (Nat.le_refl n)), px U n i (by rw [h.2.2.2.1 n (Nat.le_refl n)]; simp), px (putT true U n i) j n (by rw [put_ne (by omega)]; exact hi_bit (h.2.1 j) (Nat.le_refl n))]
theorem CON_support {n : Nat} {T U : Nat → Nat} {i j : Nat} (h : CON n T U) (hi : i < n) (hj : j < n) : CON (n + 1) (putT true (putT true T i n) n j) (putT true (putT true U n i) j n) := CON_put (CON_put (CON_up h) (by omega) (by omega)) (by omega) (by omega)
theorem joint_T {n : Nat} {T U : Nat → Nat} {i j k : Nat} (h : CON n T U) (hi : i < n) (hj : j < n) (hk : k < n) : va_up (va_up (va_up (va_up (va_up (va_up (va_up (va_up T n 0) (n + 1) 0) ((n + 1) + 1) 0) i ((va_up (va_up (va_up T n 0) (n + 1) 0) ((n + 1) + 1) 0) i ^^^ 2 ^ n)) j ((va_up (va_up (va_up (va_up T n 0) (n + 1) 0) ((n + 1) + 1) 0) i ((va_up (va_up (va_up T n 0) (n + 1) 0) ((n + 1) + 1) 0) i ^^^ 2 ^ n)) j ^^^ 2 ^ (n + 1))) n ((va_up (va_up (va_up (va_up (va_up T n 0) (n + 1) 0) ((n + 1) + 1) 0) i ((va_up (va_up (va_up T n 0) (n + 1) 0) ((n + 1) + 1) 0) i ^^^ 2 ^ n)) j ((va_up (va_up (va_up (va_up T n 0) (n + 1) 0) ((n + 1) + 1) 0) i ((va_up (va_up (va_up T n 0) (n + 1) 0) ((n + 1) + 1) 0) i ^^^ 2 ^ n)) j ^^^ 2 ^ (n + 1))) n ^^^ 2 ^ ((n + 1) + 1))) (n + 1) ((va_up (va_up (va_up (va_up (va_up (va_up T n 0) (n + 1) 0) ((n + 1) + 1) 0) i ((va_up (va_up (va_up T n 0) (n + 1) 0) ((n + 1) + 1) 0) i ^^^ 2 ^ n)) j ((va_up (va_up (va_up (va_up T n 0) (n + 1) 0) ((n + 1) + 1) 0) i ((va_up (va_up (va_up T n 0) (n + 1) 0) ((n + 1) + 1) 0) i ^^^ 2 ^ n)) j ^^^ 2 ^ (n + 1))) n ((va_up (va_up (va_up (va_up (va_up T n 0) (n + 1) 0) ((n + 1) + 1) 0) i ((va_up (va_up (va_up T n 0) (n + 1) 0) ((n + 1) + 1) 0) i ^^^ 2 ^ n)) j ((va_up (va_up (va_up (va_up T n 0) (n + 1) 0) ((n + 1) + 1) 0) i ((va_up (va_up (va_up T n 0) (n + 1) 0) ((n + 1) + 1) 0) i ^^^ 2 ^ n)) j ^^^ 2 ^ (n + 1))) n ^^^ 2 ^ ((n + 1) + 1))) (n + 1) ^^^ 2 ^ ((n + 1) + 1))) ((n + 1) + 1) ((va_up (va_up (va_up (va_up (va_up (va_up (va_up T n 0) (n + 1) 0) ((n + 1) + 1) 0) i ((va_up (va_up (va_up T n 0) (n + 1) 0) ((n + 1) + 1) 0) i ^^^ 2 ^ n)) j ((va_up (va_up (va_up (va_up T n 0) (n + 1) 0) ((n + 1) + 1) 0) i ((va_up (va_up (va_up T n 0) (n + 1) 0) ((n + 1) + 1) 0) i ^^^ 2 ^ n)) j ^^^ 2 ^ (n + 1))) n ((va_up (va_up (va_up (va_up (va_up T n 0) (n + 1) 0) ((n + 1) + 1) 0) i ((va_up (va_up (va_up T n 0) (n + 1) 0) ((n + 1) + 1) 0) i ^^^ 2 ^ n)) j ((va_up (va_up (va_up (va_up T n 0) (n + 1) 0) ((n + 1) + 1) 0) i ((va_up (va_up (va_up T n 0) (n + 1) 0) ((n + 1) + 1) 0) i ^^^ 2 ^ n)) j ^^^ 2 ^ (n + 1))) n ^^^ 2 ^ ((n + 1) + 1))) (n + 1) ((va_up (va_up (va_up (va_up (va_up (va_up T n 0) (n + 1) 0) ((n + 1) + 1) 0) i ((va_up (va_up (va_up T n 0) (n + 1) 0) ((n + 1) + 1) 0) i ^^^ 2 ^ n)) j ((va_up (va_up (va_up (va_up T n 0) (n + 1) 0) ((n + 1) + 1) 0) i ((va_up (va_up (va_up T n 0) (n + 1) 0) ((n + 1) + 1) 0) i ^^^ 2 ^ n)) j ^^^ 2 ^ (n + 1))) n ((va_up (va_up (va_up (va_up (va_up T n 0) (n + 1) 0) ((n + 1) + 1) 0) i ((va_up (va_up (va_up T n 0) (n + 1) 0) ((n + 1) + 1) 0) i ^^^ 2 ^ n)) j ((va_up (va_up (va_up (va_up T n 0) (n + 1) 0) ((n + 1) + 1) 0) i ((va_up (va_up (va_up T n 0) (n + 1) 0) ((n + 1) + 1) 0) i ^^^ 2 ^ n)) j ^^^ 2 ^ (n + 1))) n ^^^ 2 ^ ((n + 1) + 1))) (n + 1) ^^^ 2 ^ ((n + 1) + 1))) ((n + 1) + 1) ^^^ 2 ^ k) = putT true (putT true (putT true (putT true (putT true T i n) j (n + 1)) n (n + 1 + 1)) (n + 1) (n + 1 + 1)) (n + 1 + 1) k := by
  have z0 := h.2.2.1 n (by omega)
  have z1 := h.2.2.1 (n + 1) (by omega)
  have z2 := h.2.2.1 (n + 1 + 1) (by omega)
  rw [up_zero z0, up_zero z1, up_zero z2]
  rw [px T i n (hi_bit (h.1 i) (Nat.le_refl n))]
  rw [px (putT true T i n) j (n + 1) (by rw [put_bit, if_neg (by omega)]; exact hi_bit (h.1 j) (by omega))]
  rw [px (putT true (putT true T i n) j (n + 1)) n (n + 1 + 1) (by rw [put_bit, if_neg (by omega), put_bit, if_neg (by omega), z0]; simp)]
  rw [px (putT true (putT true (putT true T i n) j (n + 1)) n (n + 1 + 1)) (n + 1) (n + 1 + 1) (by rw [put_bit, if_neg (by omega), put_bit, if_neg (by omega), put_bit, if_neg (by omega), z1]; simp)]
  rw [px (putT true (putT true (putT true (putT true T i n) j (n + 1)) n (n + 1 + 1)) (n + 1) (n + 1 + 1)) (n + 1 + 1) k (by rw [put_bit, if_neg (by omega), put_bit, if_neg (by omega), put_bit, if_neg (by omega), put_bit, if_neg (by omega), z2]; simp)]
theorem joint_U {n : Nat} {T U : Nat → Nat} {i j k : Nat} (h : CON n T U) (hi : i < n) (hj : j < n) (hk : k < n) : va_up (va_up (va_up (va_up (va_up (va_up (va_up (va_up U n 0) (n + 1) 0) ((n + 1) + 1) 0) n ((va_up (va_up (va_up U n 0) (n + 1) 0) ((n + 1) + 1) 0) n ^^^ 2 ^ i)) (n + 1) ((va_up (va_up (va_up (va_up U n 0) (n + 1) 0) ((n + 1) + 1) 0) n ((va_up (va_up (va_up U n 0) (n + 1) 0) ((n + 1) + 1) 0) n ^^^ 2 ^ i)) (n + 1) ^^^ 2 ^ j)) ((n + 1) + 1) ((va_up (va_up (va_up (va_up (va_up U n 0) (n + 1) 0) ((n + 1) + 1) 0) n ((va_up (va_up (va_up U n 0) (n + 1) 0) ((n + 1) + 1) 0) n ^^^ 2 ^ i)) (n + 1) ((va_up (va_up (va_up (va_up U n 0) (n + 1) 0) ((n + 1) + 1) 0) n ((va_up (va_up (va_up U n 0) (n + 1) 0) ((n + 1) + 1) 0) n ^^^ 2 ^ i)) (n + 1) ^^^ 2 ^ j)) ((n + 1) + 1) ^^^ 2 ^ n)) ((n + 1) + 1) ((va_up (va_up (va_up (va_up (va_up (va_up U n 0) (n + 1) 0) ((n + 1) + 1) 0) n ((va_up (va_up (va_up U n 0) (n + 1) 0) ((n + 1) + 1) 0) n ^^^ 2 ^ i)) (n + 1) ((va_up (va_up (va_up (va_up U n 0) (n + 1) 0) ((n + 1) + 1) 0) n ((va_up (va_up (va_up U n 0) (n + 1) 0) ((n + 1) + 1) 0) n ^^^ 2 ^ i)) (n + 1) ^^^ 2 ^ j)) ((n + 1) + 1) ((va_up (va_up (va_up (va_up (va_up U n 0) (n + 1) 0) ((n + 1) + 1) 0) n ((va_up (va_up (va_up U n 0) (n + 1) 0) ((n + 1) + 1) 0) n ^^^ 2 ^ i)) (n + 1) ((va_up (va_up (va_up (va_up U n 0) (n + 1) 0) ((n + 1) + 1) 0) n ((va_up (va_up (va_up U n 0) (n + 1) 0) ((n + 1) + 1) 0) n ^^^ 2 ^ i)) (n + 1) ^^^ 2 ^ j)) ((n + 1) + 1) ^^^ 2 ^ n)) ((n + 1) + 1) ^^^ 2 ^ (n + 1))) k ((va_up (va_up (va_up (va_up (va_up (va_up (va_up U n 0) (n + 1) 0) ((n + 1) + 1) 0) n ((va_up (va_up (va_up U n 0) (n + 1) 0) ((n + 1) + 1) 0) n ^^^ 2 ^ i)) (n + 1) ((va_up (va_up (va_up (va_up U n 0) (n + 1) 0) ((n + 1) + 1) 0) n ((va_up (va_up (va_up U n 0) (n + 1) 0) ((n + 1) + 1) 0) n ^^^ 2 ^ i)) (n + 1) ^^^ 2 ^ j)) ((n + 1) + 1) ((va_up (va_up (va_up (va_up (va_up U n 0) (n + 1) 0) ((n + 1) + 1) 0) n ((va_up (va_up (va_up U n 0) (n + 1) 0) ((n + 1) + 1) 0) n ^^^ 2 ^ i)) (n + 1) ((va_up (va_up (va_up (va_up U n 0) (n + 1) 0) ((n + 1) + 1) 0) n ((va_up (va_up (va_up U n 0) (n + 1) 0) ((n + 1) + 1) 0) n ^^^ 2 ^ i)) (n + 1) ^^^ 2 ^ j)) ((n + 1) + 1) ^^^ 2 ^ n)) ((n + 1) + 1) ((va_up (va_up (va_up (va_up (va_up (va_up U n 0) (n + 1) 0) ((n + 1) + 1) 0) n ((va_up (va_up (va_up U n 0) (n + 1) 0) ((n + 1) + 1) 0) n ^^^ 2 ^ i)) (n + 1) ((va_up (va_up (va_up (va_up U n 0) (n + 1) 0) ((n + 1) + 1) 0) n ((va_up (va_up (va_up U n 0) (n + 1) 0) ((n + 1) + 1) 0) n ^^^ 2 ^ i)) (n + 1) ^^^ 2 ^ j)) ((n + 1) + 1) ((va_up (va_up (va_up (va_up (va_up U n 0) (n + 1) 0) ((n + 1) + 1) 0) n ((va_up (va_up (va_up U n 0) (n + 1) 0) ((n + 1) + 1) 0) n ^^^ 2 ^ i)) (n + 1) ((va_up (va_up (va_up (va_up U n 0) (n + 1) 0) ((n + 1) + 1) 0) n ((va_up (va_up (va_up U n 0) (n + 1) 0) ((n + 1) + 1) 0) n ^^^ 2 ^ i)) (n + 1) ^^^ 2 ^ j)) ((n + 1) + 1) ^^^ 2 ^ n)) ((n + 1) + 1) ^^^ 2 ^ (n + 1))) k ^^^ 2 ^ ((n + 1) + 1)) = putT true (putT true (putT true (putT true (putT true U n i) (n + 1) j) (n + 1 + 1) n) (n + 1 + 1) (n + 1)) k (n + 1 + 1) := by
  have z0 := h.2.2.2.1 n (by omega)
  have z1 := h.2.2.2.1 (n + 1) (by omega)
  have z2 := h.2.2.2.1 (n + 1 + 1) (by omega)
  rw [up_zero z0, up_zero z1, up_zero z2]
  rw [px U n i (by rw [z0]; simp)]
  rw [px (putT true U n i) (n + 1) j (by rw [put_bit, if_neg (by omega), z1]; simp)]
  rw [px (putT true (putT true U n i) (n + 1) j) (n + 1 + 1) n (by rw [put_bit, if_neg (by omega), put_bit, if_neg (by omega), z2]; simp)]
  rw [px (putT true (putT true (putT true U n i) (n + 1) j) (n + 1 + 1) n) (n + 1 + 1) (n + 1) (by rw [put_bit, if_neg (by omega), put_bit, if_neg (by omega), put_bit, if_neg (by omega), z2]; simp)]
  rw [px (putT true (putT true (putT true (putT true U n i) (n + 1) j) (n + 1 + 1) n) (n + 1 + 1) (n + 1)) k (n + 1 + 1) (by rw [put_bit, if_neg (by omega), put_bit, if_neg (by omega), put_bit, if_neg (by omega), put_bit, if_neg (by omega)]; exact hi_bit (h.2.1 k) (by omega))]
theorem CON_joint {n : Nat} {T U : Nat → Nat} {i j k : Nat} (h : CON n T U) (hi : i < n) (hj : j < n) (hk : k < n) : CON (n + 1 + 1 + 1) (putT true (putT true (putT true (putT true (putT true T i n) j (n + 1)) n (n + 1 + 1)) (n + 1) (n + 1 + 1)) (n + 1 + 1) k) (putT true (putT true (putT true (putT true (putT true U n i) (n + 1) j) (n + 1 + 1) n) (n + 1 + 1) (n + 1)) k (n + 1 + 1)) :=
  CON_put (CON_put (CON_put (CON_put (CON_put (CON_up (CON_up (CON_up h))) (by omega) (by omega)) (by omega) (by omega)) (by omega) (by omega)) (by omega) (by omega)) (by omega) (by omega)
/-- the moves, as they are asked for -/
theorem tell_eq {z : Nat} {Sa Sy : Nat → Nat} {An Ay : Nat → Int32} {Sd Dy : Nat → Nat} (hz : z < 2 ^ 31) (h : ∀ i, i < z → Sa i = Sy i ∧ An i = Ay i ∧ Sd i = Dy i) (x y : Int32) : tellF z Sa An Sd x y = tellF z Sy Ay Dy x y := by
  unfold tellF
  cases hr : inR x z with
  | false => rfl
  | true =>
    obtain ⟨j, hj, e⟩ := inR_of hr hz
    have e2 : x.toNatClampNeg = j := by rw [e]; exact nI_clamp (by omega)
    rw [e2, (h j hj).1, (h j hj).2.1, (h j hj).2.2]
