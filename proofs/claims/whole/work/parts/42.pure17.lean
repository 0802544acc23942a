theorem kqD_len {U : Nat → Nat} {a k n : Nat} : ∀ d, (kqD U a k n d).length ≤ d := by
  intro d
  induction d with
  | zero => exact Nat.le_refl _
  | succ d ih =>
    simp only [kqD]
    split
    · rw [List.length_cons]; omega
    · omega
theorem KQ_y {U : Nat → Nat} {a k n i : Nat} (hi : i + 1 ≤ n) (h : (U a).testBit i = true) : kqD U a k n (n - i) = (i, nI k, 1) :: kqD U a k n (n - (i + 1)) := by
  obtain ⟨e1, e2⟩ := AG_d hi
  rw [e1]
  simp only [kqD, e2, h, if_true]
theorem KQ_n {U : Nat → Nat} {a k n i : Nat} (hi : i + 1 ≤ n) (h : ¬ (U a).testBit i = true) : kqD U a k n (n - i) = kqD U a k n (n - (i + 1)) := by
  obtain ⟨e1, e2⟩ := AG_d hi
  rw [e1]
  simp only [kqD, e2]
  rw [if_neg h]
theorem KS_y {U : Nat → Nat} {a k n i : Nat} {S : Nat → Nat} {A : Nat → Int32} {Dd : Nat → Nat} {l : Nat} {P : List Mv} (hi : i + 1 ≤ n) (h : (U a).testBit i = true) (hl : l = (kqD U a k n (n - (i + 1)) ++ P).length) (hs : STK S A Dd (kqD U a k n (n - (i + 1)) ++ P)) : STK (va_up S l i) (upd A l (nI k)) (va_up Dd l 1) (kqD U a k n (n - i) ++ P) ∧ l + 1 = (kqD U a k n (n - i) ++ P).length := by
  rw [KQ_y hi h, List.cons_append, hl]
  exact ⟨STK_push hs, rfl⟩
theorem qR_b {kn : Bool} {T U : Nat → Nat} {n : Nat} {HI MR : Nat → Nat} (h : ∀ a, MR a ≤ 12) (hn : n ≤ 12) : ∀ a, qR kn T U n HI MR a ≤ 12 := by
  intro a
  cases kn
  · show rdR (rkH T n HI) U n (ovw MR (fun _ => 0) n) n a ≤ 12
    rcases Nat.lt_or_ge a n with q | q
    · exact Nat.le_trans (rdR_le q) hn
    · have : ∀ r, rdR (rkH T n HI) U n (ovw MR (fun _ => 0) n) r a = MR a := by
        intro r
        induction r with
        | zero => simp [rdR, ovw, Nat.not_lt.mpr q]
        | succ r ih => simp only [rdR, grU]; rw [if_neg (fun w => absurd w.1 (by omega)), ih]
      rw [this]
      exact h a
  · exact h a
