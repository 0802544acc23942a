/-! The reference: next, count, holds, against -/
theorem pI_add (i : Nat) : pI i + nI 1 = nI i := by
  unfold pI
  rw [Int32.sub_add_cancel]
theorem RKs.w {i : Nat} {kn : Bool} {T U : Nat → Nat} {n : Nat} {HI KD : Nat → Nat} {HE AV : Nat → Bool} {MR : Nat → Nat} {gr : Nat} {kn1 : Bool} {H1 K1 : Nat → Nat} {E1 A1 : Nat → Bool} {R1 : Nat → Nat} {g1 : Nat} (h : RKs i kn T U n HI KD HE AV MR gr kn1 H1 K1 E1 A1 R1 g1) : RKs 0 kn T U n HI KD HE AV MR gr kn1 H1 K1 E1 A1 R1 g1 := by
  rcases h with h | h
  · exact Or.inl ⟨rfl, h.2⟩
  · exact Or.inr h
theorem fs2_y {M : Nat → Nat} {k N i : Nat} {F : Option Nat} (h : fstM M k (N - i) i = F) (hi : i < N) (hb : (M i).testBit k = true) : F = some i := by
  rw [← h, show N - i = (N - i - 1) + 1 by omega]
  simp [fstM, hb]
theorem fs2_n {M : Nat → Nat} {k N i : Nat} {F : Option Nat} (h : fstM M k (N - i) i = F) (hi : i < N) (hb : (M i).testBit k = false) : fstM M k (N - (i + 1)) (i + 1) = F := by
  rw [← h, show N - i = (N - (i + 1)) + 1 by omega]
  simp [fstM, hb]
theorem fs2_e {M : Nat → Nat} {k N i : Nat} {F : Option Nat} (h : fstM M k (N - i) i = F) (hi : N ≤ i) : F = none := by
  rw [← h, show N - i = 0 by omega]
  rfl
def exM (M : Nat → Nat) (k a : Nat) : Nat → Bool
  | 0 => false
  | i + 1 => bif (M i).testBit k then exM M k a i || i.testBit a else exM M k a i
def faM (M : Nat → Nat) (k a : Nat) : Nat → Bool
  | 0 => true
  | i + 1 => bif (M i).testBit k then faM M k a i && i.testBit a else faM M k a i
theorem AG_d {n i : Nat} (h : i + 1 ≤ n) : n - i = (n - (i + 1)) + 1 ∧ n - 1 - (n - (i + 1)) = i := by omega
theorem AG_n1 {U MR : Nat → Nat} {a n i : Nat} {o : Option Nat} (h : o = agU U MR a n (n - (i + 1))) (hi : i + 1 ≤ n) (hb : ¬ ((U a).testBit i = true ∧ 0 < MR i)) : o = agU U MR a n (n - i) := by
  obtain ⟨e1, e2⟩ := AG_d hi
  rw [e1]
  simp only [agU, e2, ← h]
  rw [if_neg]
  rintro ⟨h1, h2, -⟩
  exact hb ⟨h1, h2⟩
theorem AG_y0 {U MR : Nat → Nat} {a n i : Nat} (h : none = agU U MR a n (n - (i + 1))) (hi : i + 1 ≤ n) (h1 : (U a).testBit i = true) (h2 : 0 < MR i) : some i = agU U MR a n (n - i) := by
  obtain ⟨e1, e2⟩ := AG_d hi
  rw [e1]
  simp only [agU, e2, ← h]
  rw [if_pos ⟨h1, h2, fun b q => by cases q⟩]
theorem AG_y1 {U MR : Nat → Nat} {a n i b : Nat} (h : some b = agU U MR a n (n - (i + 1))) (hi : i + 1 ≤ n) (h1 : (U a).testBit i = true) (h2 : 0 < MR i) (h3 : MR i ≤ MR b) : some i = agU U MR a n (n - i) := by
  obtain ⟨e1, e2⟩ := AG_d hi
  rw [e1]
  simp only [agU, e2, ← h]
  rw [if_pos ⟨h1, h2, fun b' q => by cases q; exact h3⟩]
theorem AG_n2 {U MR : Nat → Nat} {a n i b : Nat} (h : some b = agU U MR a n (n - (i + 1))) (hi : i + 1 ≤ n) (h3 : MR b < MR i) : some b = agU U MR a n (n - i) := by
  obtain ⟨e1, e2⟩ := AG_d hi
  rw [e1]
  simp only [agU, e2, ← h]
  rw [if_neg]
  rintro ⟨-, -, q⟩
  have := q b rfl
  omega
theorem AG_lt {U MR : Nat → Nat} {a n : Nat} : ∀ {d b : Nat}, d ≤ n → agU U MR a n d = some b → b < n := by
  intro d
  induction d with
  | zero => intro b _ h; cases h
  | succ d ih =>
    intro b hd h
    simp only [agU] at h
    split at h
    · cases h; omega
    · exact ih (by omega) h
theorem tellF_dn {z : Nat} {Sa : Nat → Nat} {An : Nat → Int32} {Sd : Nat → Nat} {x y : Int32} (q : inR x z = true) (h0 : ¬ y = 0) (h1 : ¬ y = nI 1) (h2 : ¬ y = nI 2) : tellF z Sa An Sd x y = -1 := by
  simp only [tellF, q, if_true]
  rw [if_neg h0, if_neg (show ¬ y = 1 from h1), if_neg (show ¬ y = 2 from h2)]
