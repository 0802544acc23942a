/-! Class and reference agree: attacks, defence, grounds -/
/-- who is attacked by whom, seen from both sides -/
def CON (n : Nat) (T U : Nat → Nat) : Prop := (∀ a, T a < 2 ^ n) ∧ (∀ a, U a < 2 ^ n) ∧ (∀ a, n ≤ a → T a = 0) ∧ (∀ a, n ≤ a → U a = 0) ∧ ∀ a b, (U b).testBit a = (T a).testBit b
theorem ev_bit {n i : Nat} : (2 ^ n - 1).testBit i = decide (i < n) := Nat.testBit_two_pow_sub_one n i
theorem bit_lt {x m i : Nat} (h : x < 2 ^ m) (hi : x.testBit i = true) : i < m := by
  rcases Nat.lt_or_ge i m with q | q
  · exact q
  · rw [Nat.testBit_lt_two_pow (Nat.lt_of_lt_of_le h (Nat.pow_le_pow_right (by decide) q))] at hi; cases hi
theorem dfM_bit {U : Nat → Nat} {k a : Nat} : ∀ {i : Nat}, (dfM U k i).testBit a = true ↔ a < i ∧ dif (U a) k = 0 := by
  intro i
  induction i with
  | zero => simp [dfM]
  | succ i ih =>
    simp only [dfM]
    by_cases hc : dif (U i) k = 0
    · rw [if_pos hc, Nat.testBit_or, Bool.or_eq_true, ih, Nat.testBit_two_pow]
      simp only [decide_eq_true_eq]
      constructor
      · rintro (⟨h1, h2⟩ | h)
        · exact ⟨by omega, h2⟩
        · subst h; exact ⟨by omega, hc⟩
      · rintro ⟨h1, h2⟩
        by_cases e : a = i
        · exact Or.inr e.symm
        · exact Or.inl ⟨by omega, h2⟩
    · rw [if_neg hc, ih]
      constructor
      · rintro ⟨h1, h2⟩; exact ⟨by omega, h2⟩
      · rintro ⟨h1, h2⟩
        refine ⟨?_, h2⟩
        by_cases e : a = i
        · subst e; exact absurd h2 hc
        · omega
theorem dfd_bit {T : Nat → Nat} {n k a : Nat} : (dfd T n k).testBit a = true ↔ a < n ∧ ∀ c, c < n → (T c).testBit a = true → (tgU T k n).testBit c = true := by
  unfold dfd
  rw [dif_bit, ev_bit, Bool.and_eq_true, decide_eq_true_eq, Bool.not_eq_true']
  constructor
  · rintro ⟨h1, h2⟩
    refine ⟨h1, fun c hc ht => ?_⟩
    cases hh : (tgU T k n).testBit c with
    | true => rfl
    | false =>
      have : (tgU T (dif (2 ^ n - 1) (tgU T k n)) n).testBit a = true := tgU_bit.mpr ⟨c, hc, by rw [dif_bit, ev_bit, hh]; simp [hc], ht⟩
      rw [h2] at this
      cases this
  · rintro ⟨h1, h2⟩
    refine ⟨h1, ?_⟩
    cases hh : (tgU T (dif (2 ^ n - 1) (tgU T k n)) n).testBit a with
    | false => rfl
    | true =>
      obtain ⟨c, hc, hb, ht⟩ := tgU_bit.mp hh
      rw [dif_bit, h2 c hc ht] at hb
      simp at hb
theorem dfd_dfM {n : Nat} {T U : Nat → Nat} (h : CON n T U) (k : Nat) : dfM U (tgU T k n) n = dfd T n k := by
  apply Nat.eq_of_testBit_eq
  intro a
  rw [Bool.eq_iff_iff, dfM_bit, dfd_bit]
  constructor
  · rintro ⟨h1, h2⟩
    refine ⟨h1, fun c _ ht => ?_⟩
    exact inn_dif.mp h2 c (by rw [h.2.2.2.2]; exact ht)
  · rintro ⟨h1, h2⟩
    refine ⟨h1, inn_dif.mpr fun c hc => ?_⟩
    have hcn := bit_lt (h.2.1 a) hc
    rw [h.2.2.2.2] at hc
    exact h2 c hcn hc
theorem tgU_lt2 {n : Nat} {T : Nat → Nat} (hT : ∀ a, T a < 2 ^ n) (k i : Nat) : tgU T k i < 2 ^ n := by
  induction i with
  | zero => exact Nat.two_pow_pos n
  | succ i ih =>
    simp only [tgU]
    split
    · exact Nat.or_lt_two_pow ih (hT i)
    · exact ih
theorem dfd_lt2 {T : Nat → Nat} {n k : Nat} : dfd T n k < 2 ^ n := by
  have := dfd_le T n k
  have := Nat.one_le_two_pow (n := n)
  omega
theorem gdA_lt2 {T : Nat → Nat} {n : Nat} (r : Nat) : gdA T n r < 2 ^ n := by
  cases r with
  | zero => exact Nat.two_pow_pos n
  | succ r => exact dfd_lt2
/-- the reference's rows of attacked sets -/
def HOK (n : Nat) (T HI : Nat → Nat) : Prop := ∀ k, k < 2 ^ n → HI k = tgU T k n
theorem rdA_gdA {n : Nat} {T U HI : Nat → Nat} (h : CON n T U) (hH : HOK n T HI) : ∀ r, rdA HI U n r = gdA T n r := by
  intro r
  induction r with
  | zero => rfl
  | succ r ih =>
    simp only [rdA, gdA]
    rw [ih, hH _ (gdA_lt2 r), dfd_dfM h]
/-- defence grows with the set -/
theorem tgU_mono {T : Nat → Nat} {n k m : Nat} (h : inn k m) : inn (tgU T k n) (tgU T m n) := by
  intro i hi
  obtain ⟨a, h1, h2, h3⟩ := tgU_bit.mp hi
  exact tgU_bit.mpr ⟨a, h1, h a h2, h3⟩
theorem dfd_mono {T : Nat → Nat} {n k m : Nat} (h : inn k m) : inn (dfd T n k) (dfd T n m) := by
  intro i hi
  obtain ⟨h1, h2⟩ := dfd_bit.mp hi
  exact dfd_bit.mpr ⟨h1, fun c hc ht => tgU_mono h c (h2 c hc ht)⟩
theorem gdA_mono1 {T : Nat → Nat} {n : Nat} : ∀ r, inn (gdA T n r) (gdA T n (r + 1)) := by
  intro r
  induction r with
  | zero => intro i hi; simp [gdA] at hi
  | succ r ih => exact dfd_mono ih
theorem gdA_mono {T : Nat → Nat} {n : Nat} : ∀ (d r : Nat), inn (gdA T n r) (gdA T n (r + d)) := by
  intro d
  induction d with
  | zero => intro r; exact inn_refl _
  | succ d ih => intro r; exact inn_trans (ih r) (gdA_mono1 (r + d))
/-- how many are in a set -/
def pcU (x : Nat) : Nat → Nat
  | 0 => 0
  | i + 1 => pcU x i + (if x.testBit i then 1 else 0)
theorem pcU_le (x i : Nat) : pcU x i ≤ i := by
  induction i with
  | zero => exact Nat.le_refl _
  | succ i ih => simp only [pcU]; split <;> omega
theorem pcU_mono {x y : Nat} (h : inn x y) (i : Nat) : pcU x i ≤ pcU y i := by
  induction i with
  | zero => exact Nat.le_refl _
  | succ i ih =>
    simp only [pcU]
    by_cases hx : x.testBit i = true
    · rw [if_pos hx, if_pos (h i hx)]; omega
    · rw [if_neg hx]; omega
theorem pcU_eq {x y : Nat} (h : inn x y) : ∀ i, pcU x i = pcU y i → ∀ j, j < i → x.testBit j = y.testBit j := by
  intro i
  induction i with
  | zero => intro _ j hj; omega
  | succ i ih =>
    intro he j hj
    simp only [pcU] at he
    have hm := pcU_mono h i
    have hxy : x.testBit i = y.testBit i := by
      cases hx : x.testBit i with
      | true => rw [h i hx]
      | false =>
        cases hy : y.testBit i with
        | false => rfl
        | true => simp [hx, hy] at he; omega
    have he2 : pcU x i = pcU y i := by rw [hxy] at he; omega
    by_cases e : j = i
    · subst e; exact hxy
    · exact ih he2 j (by omega)
theorem gdA_fix {T : Nat → Nat} {n : Nat} {r : Nat} (h : gdA T n (r + 1) = gdA T n r) : ∀ d, gdA T n (r + d) = gdA T n r := by
  intro d
  induction d with
  | zero => rfl
  | succ d ih =>
    show dfd T n (gdA T n (r + d)) = gdA T n r
    rw [ih]
    exact h
/-- after n rounds nothing comes any more -/
theorem gdA_stop {T : Nat → Nat} {n : Nat} : ∀ d, gdA T n (n + d) = gdA T n n := by
  have key : ∀ r, (∃ q, q ≤ r ∧ gdA T n (q + 1) = gdA T n q) ∨ r + 1 ≤ pcU (gdA T n (r + 1)) n := by
    intro r
    induction r with
    | zero =>
      by_cases e : gdA T n 1 = gdA T n 0
      · exact Or.inl ⟨0, Nat.le_refl _, e⟩
      · right
        have hm : pcU (gdA T n 0) n ≤ pcU (gdA T n 1) n := pcU_mono (gdA_mono1 (T := T) (n := n) 0) n
        rcases Nat.lt_or_ge (pcU (gdA T n 0) n) (pcU (gdA T n 1) n) with q | q
        · show 1 ≤ pcU (gdA T n 1) n
          omega
        · exfalso; apply e
          have he : pcU (gdA T n 0) n = pcU (gdA T n 1) n := by omega
          apply Nat.eq_of_testBit_eq
          intro j
          rcases Nat.lt_or_ge j n with hj | hj
          · exact (pcU_eq (gdA_mono1 0) n he j hj).symm
          · rw [Nat.testBit_lt_two_pow (Nat.lt_of_lt_of_le (gdA_lt2 1) (Nat.pow_le_pow_right (by decide) hj)), Nat.testBit_lt_two_pow (Nat.lt_of_lt_of_le (gdA_lt2 0) (Nat.pow_le_pow_right (by decide) hj))]
    | succ r ih =>
      rcases ih with ⟨q, hq, e⟩ | ih
      · exact Or.inl ⟨q, by omega, e⟩
      by_cases e : gdA T n (r + 1 + 1) = gdA T n (r + 1)
      · exact Or.inl ⟨r + 1, Nat.le_refl _, e⟩
      · right
        have hm := pcU_mono (gdA_mono1 (T := T) (n := n) (r + 1)) n
        rcases Nat.lt_or_ge (pcU (gdA T n (r + 1)) n) (pcU (gdA T n (r + 1 + 1)) n) with q | q
        · omega
        · exfalso; apply e
          have he : pcU (gdA T n (r + 1)) n = pcU (gdA T n (r + 1 + 1)) n := by omega
          apply Nat.eq_of_testBit_eq
          intro j
          rcases Nat.lt_or_ge j n with hj | hj
          · exact (pcU_eq (gdA_mono1 (r + 1)) n he j hj).symm
          · rw [Nat.testBit_lt_two_pow (Nat.lt_of_lt_of_le (gdA_lt2 _) (Nat.pow_le_pow_right (by decide) hj)), Nat.testBit_lt_two_pow (Nat.lt_of_lt_of_le (gdA_lt2 _) (Nat.pow_le_pow_right (by decide) hj))]
  intro d
  rcases key n with ⟨q, hq, e⟩ | h
  · have h1 := gdA_fix e (n - q)
    have h2 := gdA_fix e (n - q + d)
    rw [show q + (n - q) = n by omega] at h1
    rw [show q + (n - q + d) = n + d by omega] at h2
    rw [h1, h2]
  · have := pcU_le (gdA T n (n + 1)) n
    omega
