/-! Class and reference agree: who reaches whom -/
theorem rcU_at {X : Nat → Nat} {b : Nat} : ∀ i a, rcU X b i a = if a < i ∧ (X a).testBit b = true then X a ||| X b else X a := by
  intro i
  induction i with
  | zero => intro a; simp [rcU]
  | succ i ih =>
    intro a
    have hi : rcU X b i i = X i := by rw [ih]; simp
    have hb : rcU X b i b = X b := by
      rw [ih]; split
      · exact Nat.or_self _
      · rfl
    simp only [rcU, hi, hb]
    by_cases hc : (X i).testBit b = true
    · rw [if_pos hc]
      by_cases e : a = i
      · subst e; rw [up_at, if_pos ⟨Nat.lt_succ_self _, hc⟩]
      · rw [up_ne e, ih]
        by_cases q : a < i
        · simp [q, Nat.lt_succ_of_lt q]
        · simp [q, show ¬ a < i + 1 by omega]
    · rw [if_neg hc, ih]
      by_cases e : a = i
      · subst e; simp [hc]
      · by_cases q : a < i
        · simp [q, Nat.lt_succ_of_lt q]
        · simp [q, show ¬ a < i + 1 by omega]
/-- ways through the first k only -/
def wsh (Y : Nat → Nat) : Nat → Nat → Nat → Bool
  | 0, a, b => (Y a).testBit b
  | k + 1, a, b => wsh Y k a b || (wsh Y k a k && wsh Y k k b)
theorem rcB_wsh {Y : Nat → Nat} {m : Nat} : ∀ k, k ≤ m → ∀ a, a < m → ∀ b, (rcB Y m k a).testBit b = wsh Y k a b := by
  intro k
  induction k with
  | zero => intro _ a _ b; rfl
  | succ k ih =>
    intro hk a ha b
    have hi := ih (by omega)
    simp only [rcB, wsh, rcU_at, hi a ha k]
    rw [← hi a ha b, ← hi k (by omega) b]
    cases hw : wsh Y k a k with
    | true => simp [ha, Nat.testBit_or]
    | false => simp
theorem wsh_c {Y Z : Nat → Nat} {n : Nat} (h : ∀ a, a < n → Y a = Z a) : ∀ k, k ≤ n → ∀ a, a < n → ∀ b, wsh Y k a b = wsh Z k a b := by
  intro k
  induction k with
  | zero => intro _ a ha b; simp only [wsh, h a ha]
  | succ k ih =>
    intro hk a ha b
    have hi := ih (by omega)
    simp only [wsh, hi a ha, hi k (by omega)]
theorem wsh_lt {Y : Nat → Nat} {n : Nat} (h : ∀ a, a < n → Y a < 2 ^ n) : ∀ k a b, a < n → wsh Y k a b = true → b < n := by
  intro k
  induction k with
  | zero => intro a b ha hb; exact bit_lt (h a ha) hb
  | succ k ih =>
    intro a b ha hb
    simp only [wsh, Bool.or_eq_true, Bool.and_eq_true] at hb
    rcases hb with hb | ⟨h1, h2⟩
    · exact ih a b ha hb
    · exact ih k b (ih a k ha h1) h2
/-- beyond n nothing comes any more -/
theorem wsh_n {Y : Nat → Nat} {n : Nat} (h : ∀ a, a < n → Y a < 2 ^ n) : ∀ d a, a < n → ∀ b, wsh Y (n + d) a b = wsh Y n a b := by
  intro d
  induction d with
  | zero => intro a _ b; rfl
  | succ d ih =>
    intro a ha b
    show (wsh Y (n + d) a b || (wsh Y (n + d) a (n + d) && wsh Y (n + d) (n + d) b)) = _
    have : wsh Y (n + d) a (n + d) = false := by
      cases hw : wsh Y (n + d) a (n + d) with
      | false => rfl
      | true => exact absurd (wsh_lt h (n + d) a (n + d) ha hw) (by omega)
    rw [this, ih a ha b]; simp
/-- who reaches whom -/
def RE (T : Nat → Nat) (n a b : Nat) : Bool := wsh (mrA T) n a b
theorem mrA_lt2 {T : Nat → Nat} {n a : Nat} (hT : ∀ a, T a < 2 ^ n) (ha : a < n) : mrA T a < 2 ^ n := Nat.or_lt_two_pow (hT a) (Nat.pow_lt_pow_right (by decide) ha)
theorem rcX_RE {T X : Nat → Nat} {n a b : Nat} (hn : n ≤ 12) (hT : ∀ a, T a < 2 ^ n) (ha : a < n) : (rcX T n X a).testBit b = RE T n a b := by
  unfold rcX RE
  rw [rcB_wsh 12 (Nat.le_refl _) a (by omega) b]
  have hY : ∀ a, a < n → ovw X (rcA T n) 12 a = mrA T a := fun a ha => by
    rw [ovw_lt (by omega)]; simp [rcA, mrA, ha]
  have h1 := wsh_n (Y := ovw X (rcA T n) 12) (n := n) (fun a ha => by rw [hY a ha]; exact mrA_lt2 hT ha) (12 - n) a ha b
  rw [show n + (12 - n) = 12 by omega] at h1
  rw [h1, wsh_c hY n (Nat.le_refl _) a ha b]
theorem mrX_RE {T X : Nat → Nat} {n a b : Nat} (ha : a < n) : (mrX T n X a).testBit b = RE T n a b := by
  unfold mrX RE
  rw [rcB_wsh n (Nat.le_refl _) a ha b]
  exact wsh_c (fun a ha => ovw_lt ha) n (Nat.le_refl _) a ha b
theorem wsh_up {Y : Nat → Nat} {a b : Nat} : ∀ {d k : Nat}, wsh Y k a b = true → wsh Y (k + d) a b = true := by
  intro d
  induction d with
  | zero => intro k h; exact h
  | succ d ih => intro k h; show (wsh Y (k + d) a b || _) = true; rw [ih h]; rfl
theorem wsh_tr {Y : Nat → Nat} : ∀ k a b c, c < k → wsh Y k a c = true → wsh Y k c b = true → wsh Y k a b = true := by
  intro k
  induction k with
  | zero => intro a b c h; omega
  | succ k ih =>
    intro a b c hc h1 h2
    simp only [wsh, Bool.or_eq_true, Bool.and_eq_true] at h1 h2 ⊢
    by_cases e : c = k
    · subst e
      right
      refine ⟨?_, ?_⟩
      · rcases h1 with h1 | ⟨h1, -⟩ <;> exact h1
      · rcases h2 with h2 | ⟨-, h2⟩ <;> exact h2
    · have hck : c < k := by omega
      rcases h1 with h1 | ⟨h1, h3⟩ <;> rcases h2 with h2 | ⟨h2, h4⟩
      · exact Or.inl (ih a b c hck h1 h2)
      · exact Or.inr ⟨ih a k c hck h1 h2, h4⟩
      · exact Or.inr ⟨h1, ih k b c hck h3 h2⟩
      · exact Or.inr ⟨h1, h4⟩
theorem RE_refl {T : Nat → Nat} {n a : Nat} : RE T n a a = true := by
  have h : wsh (mrA T) 0 a a = true := by simp [wsh, mrA, Nat.testBit_or]
  have := wsh_up (d := n) h
  rwa [Nat.zero_add] at this
theorem RE_step {T : Nat → Nat} {n a b : Nat} (h : (T a).testBit b = true) : RE T n a b = true := by
  have h : wsh (mrA T) 0 a b = true := by simp [wsh, mrA, Nat.testBit_or, h]
  have := wsh_up (d := n) h
  rwa [Nat.zero_add] at this
theorem RE_lt {T : Nat → Nat} {n a b : Nat} (hT : ∀ a, T a < 2 ^ n) (ha : a < n) (h : RE T n a b = true) : b < n := wsh_lt (fun a ha => mrA_lt2 hT ha) n a b ha h
theorem RE_tr {T : Nat → Nat} {n a b c : Nat} (hT : ∀ a, T a < 2 ^ n) (ha : a < n) (h1 : RE T n a c = true) (h2 : RE T n c b = true) : RE T n a b = true := wsh_tr n a b c (RE_lt hT ha h1) h1 h2
theorem wsh_snd {T : Nat → Nat} {P : Nat → Prop} (hP : ∀ b c, P b → (T c).testBit b = true → P c) : ∀ k a b, wsh (mrA T) k a b = true → P b → P a := by
  intro k
  induction k with
  | zero =>
    intro a b h hb
    simp only [wsh, mrA, or_pow_bit, Bool.or_eq_true, decide_eq_true_eq] at h
    rcases h with h | h
    · exact hP b a hb h
    · rw [h]; exact hb
  | succ k ih =>
    intro a b h hb
    simp only [wsh, Bool.or_eq_true, Bool.and_eq_true] at h
    rcases h with h | ⟨h1, h2⟩
    · exact ih a b h hb
    · exact ih a k h1 (ih k b h2 hb)
theorem arU_bit {X : Nat → Nat} {a : Nat} : ∀ {b i : Nat}, (arU X a b).testBit i = true ↔ i < b ∧ (X a).testBit i = true ∧ (X i).testBit a = true := by
  intro b
  induction b with
  | zero => intro i; simp [arU]
  | succ b ih =>
    intro i
    simp only [arU]
    by_cases hc : ((X a).testBit b && (X b).testBit a) = true
    · rw [if_pos hc, or_pow_bit, Bool.or_eq_true, ih, decide_eq_true_eq]
      rw [Bool.and_eq_true] at hc
      constructor
      · rintro (⟨h1, h2⟩ | h)
        · exact ⟨by omega, h2⟩
        · subst h; exact ⟨by omega, hc⟩
      · rintro ⟨h1, h2⟩
        by_cases e : i = b
        · exact Or.inr e.symm
        · exact Or.inl ⟨by omega, h2⟩
    · rw [if_neg hc, ih]
      rw [Bool.and_eq_true] at hc
      constructor
      · rintro ⟨h1, h2⟩; exact ⟨by omega, h2⟩
      · rintro ⟨h1, h2⟩
        refine ⟨?_, h2⟩
        by_cases e : i = b
        · subst e; exact absurd h2 hc
        · omega
theorem frM_bit {X : Nat → Nat} {a : Nat} : ∀ {b i : Nat}, (frM X a b).testBit i = true ↔ i < b ∧ (X i).testBit a = true := by
  intro b
  induction b with
  | zero => intro i; simp [frM]
  | succ b ih =>
    intro i
    simp only [frM]
    by_cases hc : (X b).testBit a = true
    · rw [if_pos hc, or_pow_bit, Bool.or_eq_true, ih, decide_eq_true_eq]
      constructor
      · rintro (⟨h1, h2⟩ | h)
        · exact ⟨by omega, h2⟩
        · subst h; exact ⟨by omega, hc⟩
      · rintro ⟨h1, h2⟩
        by_cases e : i = b
        · exact Or.inr e.symm
        · exact Or.inl ⟨by omega, h2⟩
    · rw [if_neg hc, ih]
      constructor
      · rintro ⟨h1, h2⟩; exact ⟨by omega, h2⟩
      · rintro ⟨h1, h2⟩
        refine ⟨?_, h2⟩
        by_cases e : i = b
        · subst e; exact absurd h2 hc
        · omega
