/-! Class and reference agree: counting, listing, holding; the rounds -/
theorem cnt_eq {M K : Nat → Nat} {k : Nat} : ∀ {i : Nat}, (∀ x, x < i → (M x).testBit k = (K x).testBit k) → cntM M k i = cntM K k i := by
  intro i
  induction i with
  | zero => intro _; rfl
  | succ i ih => intro h; simp only [cntM, h i (Nat.lt_succ_self i), ih (fun x hx => h x (by omega))]
theorem fst_eq {M K : Nat → Nat} {k : Nat} : ∀ {f x : Nat}, (∀ y, x ≤ y → y < x + f → (M y).testBit k = (K y).testBit k) → fstM M k f x = fstM K k f x := by
  intro f
  induction f with
  | zero => intro x _; rfl
  | succ f ih => intro x h; simp only [fstM, h x (Nat.le_refl x) (by omega), ih (x := x + 1) (fun y h1 h2 => h y (by omega) (by omega))]
theorem fst_in {M : Nat → Nat} {k : Nat} : ∀ {f x y : Nat}, fstM M k f x = some y → x ≤ y ∧ y < x + f := by
  intro f
  induction f with
  | zero => intro x y h; cases h
  | succ f ih =>
    intro x y h
    simp only [fstM] at h
    split at h
    · cases h; omega
    · have := ih h; omega
theorem met_eq {M K : Nat → Nat} {k ev : Nat} : ∀ {i : Nat}, (∀ x, x < i → (M x).testBit k = (K x).testBit k) → metM M k ev i = metM K k ev i := by
  intro i
  induction i with
  | zero => intro _; rfl
  | succ i ih => intro h; simp only [metM, h i (Nat.lt_succ_self i), ih (fun x hx => h x (by omega))]
theorem joi_eq {M K : Nat → Nat} {k bd : Nat} : ∀ {i : Nat}, (∀ x, x < i → (M x).testBit k = (K x).testBit k) → joiM M k bd i = joiM K k bd i := by
  intro i
  induction i with
  | zero => intro _; rfl
  | succ i ih => intro h; simp only [joiM, h i (Nat.lt_succ_self i), ih (fun x hx => h x (by omega))]
theorem met_bit {M : Nat → Nat} {k n a : Nat} (ha : a < n) : ∀ i, (metM M k (2 ^ n - 1) i).testBit a = faM M k a i := by
  intro i
  induction i with
  | zero => simp [metM, faM, ha]
  | succ i ih =>
    simp only [metM, faM]
    cases (M i).testBit k with
    | false => simpa using ih
    | true => simp [Nat.testBit_and, ih]
theorem joi_bit {M : Nat → Nat} {k n a : Nat} : ∀ i, i ≤ 2 ^ n → (joiM M k (2 ^ n - 1) i).testBit a = exM M k a i := by
  intro i
  induction i with
  | zero => intro _; simp [joiM, exM]
  | succ i ih =>
    intro hi
    have h0 : (dif i (2 ^ n - 1) == 0) = true := by
      rw [beq_iff_eq, inn_dif]
      intro j hj
      rw [ev_bit, decide_eq_true_eq]
      exact bit_lt (show i < 2 ^ n by omega) hj
    simp only [joiM, exM, h0, Bool.true_and]
    cases (M i).testBit k with
    | false => simpa using ih (by omega)
    | true => simp [Nat.testBit_or, ih (by omega)]
/-- in which round an argument comes in -/
def RND (T : Nat → Nat) (n a v : Nat) : Prop := (v = 0 ∧ ∀ s, (gdA T n s).testBit a = false) ∨ (0 < v ∧ (gdA T n v).testBit a = true ∧ (gdA T n (v - 1)).testBit a = false)
theorem gd_up {T : Nat → Nat} {n a r s : Nat} (h : r ≤ s) (hb : (gdA T n r).testBit a = true) : (gdA T n s).testBit a = true := by
  have := gdA_mono (T := T) (n := n) (s - r) r
  rw [show r + (s - r) = s by omega] at this
  exact this a hb
theorem RND_one {T : Nat → Nat} {n a v w : Nat} (h : RND T n a v) (h2 : RND T n a w) : v = w := by
  rcases h with ⟨h, ha⟩ | ⟨h, ha, hb⟩ <;> rcases h2 with ⟨h2, hc⟩ | ⟨h2, hc, hd⟩
  · omega
  · rw [ha] at hc; cases hc
  · rw [hc] at ha; cases ha
  · rcases Nat.lt_trichotomy v w with q | q | q
    · rw [gd_up (show v ≤ w - 1 by omega) ha] at hd; cases hd
    · exact q
    · rw [gd_up (show w ≤ v - 1 by omega) hc] at hb; cases hb
theorem gdR_spec {T R : Nat → Nat} {n a : Nat} (ha : a < 12) : ∀ r, ((gdA T n r).testBit a = false → gdR T n (ovw R (fun _ => 0) 12) r a = 0) ∧ ((gdA T n r).testBit a = true → 0 < gdR T n (ovw R (fun _ => 0) 12) r a ∧ (gdA T n (gdR T n (ovw R (fun _ => 0) 12) r a)).testBit a = true ∧ (gdA T n (gdR T n (ovw R (fun _ => 0) 12) r a - 1)).testBit a = false) := by
  intro r
  induction r with
  | zero =>
    refine ⟨fun _ => ?_, fun h => ?_⟩
    · show ovw R (fun _ => 0) 12 a = 0
      exact ovw_lt ha
    · simp [gdA] at h
  | succ r ih =>
    have e : dfd T n (gdA T n r) = gdA T n (r + 1) := rfl
    have hv : gdR T n (ovw R (fun _ => 0) 12) (r + 1) a = if a < 12 ∧ (dif (gdA T n (r + 1)) (gdA T n r)).testBit a = true then r + 1 else gdR T n (ovw R (fun _ => 0) 12) r a := rfl
    rw [hv, dif_bit]
    cases h1 : (gdA T n r).testBit a with
    | true =>
      rw [gd_up (Nat.le_succ r) h1]
      simp only [Bool.not_true, Bool.and_false, Bool.false_eq_true, and_false, if_false]
      exact ⟨fun q => (by cases q), fun _ => ih.2 h1⟩
    | false =>
      cases h2 : (gdA T n (r + 1)).testBit a with
      | true =>
        simp only [ha, Bool.not_false, Bool.and_self, and_self, if_true]
        refine ⟨fun q => (by cases q), fun _ => ⟨Nat.succ_pos r, h2, ?_⟩⟩
        rw [Nat.add_sub_cancel]; exact h1
      | false =>
        simp only [Bool.false_and, Bool.false_eq_true, and_false, if_false]
        exact ⟨fun _ => ih.1 h1, fun q => by cases q⟩
theorem rdR_spec {T U HI MR : Nat → Nat} {n a : Nat} (h : CON n T U) (hH : HOK n T HI) (ha : a < n) : ∀ r, ((gdA T n r).testBit a = false → rdR HI U n (ovw MR (fun _ => 0) n) r a = 0) ∧ ((gdA T n r).testBit a = true → 0 < rdR HI U n (ovw MR (fun _ => 0) n) r a ∧ (gdA T n (rdR HI U n (ovw MR (fun _ => 0) n) r a)).testBit a = true ∧ (gdA T n (rdR HI U n (ovw MR (fun _ => 0) n) r a - 1)).testBit a = false) := by
  intro r
  induction r with
  | zero =>
    refine ⟨fun _ => ?_, fun h => ?_⟩
    · show ovw MR (fun _ => 0) n a = 0
      exact ovw_lt ha
    · simp [gdA] at h
  | succ r ih =>
    have e : dfM U (HI (rdA HI U n r)) n = gdA T n (r + 1) := rdA_gdA h hH (r + 1)
    have hv : rdR HI U n (ovw MR (fun _ => 0) n) (r + 1) a = if a < n ∧ (dfM U (HI (rdA HI U n r)) n).testBit a = true ∧ rdR HI U n (ovw MR (fun _ => 0) n) r a = 0 then r + 1 else rdR HI U n (ovw MR (fun _ => 0) n) r a := rfl
    rw [hv, e]
    cases h1 : (gdA T n r).testBit a with
    | true =>
      have h3 := ih.2 h1
      rw [gd_up (Nat.le_succ r) h1, if_neg (fun q => by have := h3.1; omega)]
      exact ⟨fun q => (by cases q), fun _ => h3⟩
    | false =>
      have h3 := ih.1 h1
      cases h2 : (gdA T n (r + 1)).testBit a with
      | true =>
        rw [if_pos ⟨ha, rfl, h3⟩]
        refine ⟨fun q => (by cases q), fun _ => ⟨Nat.succ_pos r, h2, ?_⟩⟩
        rw [Nat.add_sub_cancel]; exact h1
      | false =>
        rw [if_neg (fun q => by cases q.2.1)]
        exact ⟨fun _ => h3, fun q => by cases q⟩
theorem gd_all {T : Nat → Nat} {n a : Nat} (h : (gdA T n n).testBit a = false) : ∀ s, (gdA T n s).testBit a = false := by
  intro s
  cases hs : (gdA T n s).testBit a with
  | false => rfl
  | true =>
    rcases Nat.lt_or_ge s n with q | q
    · rw [gd_up (Nat.le_of_lt q) hs] at h; cases h
    · have := gdA_stop (T := T) (n := n) (s - n)
      rw [show n + (s - n) = s by omega] at this
      rw [this, h] at hs; cases hs
theorem gdR_RND {T R : Nat → Nat} {n a r : Nat} (ha : a < 12) (hr : n ≤ r) : RND T n a (gdR T n (ovw R (fun _ => 0) 12) r a) := by
  obtain ⟨h1, h2⟩ := gdR_spec (T := T) (R := R) (n := n) ha r
  cases h : (gdA T n r).testBit a with
  | true => exact Or.inr (h2 h)
  | false =>
    refine Or.inl ⟨h1 h, gd_all ?_⟩
    cases q : (gdA T n n).testBit a with
    | false => rfl
    | true => rw [gd_up hr q] at h; cases h
theorem rdR_RND {T U HI MR : Nat → Nat} {n a : Nat} (h : CON n T U) (hH : HOK n T HI) (ha : a < n) : RND T n a (rdR HI U n (ovw MR (fun _ => 0) n) n a) := by
  obtain ⟨h1, h2⟩ := rdR_spec (MR := MR) h hH ha n
  cases q : (gdA T n n).testBit a with
  | true => exact Or.inr (h2 q)
  | false => exact Or.inl ⟨h1 q, gd_all q⟩
theorem gd_12 {T : Nat → Nat} {n : Nat} (hn : n ≤ 12) : gdA T n 12 = gdA T n n := by
  have := gdA_stop (T := T) (n := n) (12 - n)
  rw [show n + (12 - n) = 12 by omega] at this
  exact this
