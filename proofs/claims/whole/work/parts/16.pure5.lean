/-! Rings, Talk.tell: what the walks need -/
theorem rcA_lt {T : Nat → Nat} {n a : Nat} (hT : ∀ a, T a < 4096) (ha : a < 12) : rcA T n a < 4096 := by
  unfold rcA
  refine Nat.or_lt_two_pow (n := 12) ?_ (Nat.pow_lt_pow_right (by decide) ha)
  split
  · exact hT a
  · decide
theorem rcU_lt {X : Nat → Nat} {by_ : Nat} (hb : by_ < 12) (hX : ∀ a, a < 12 → X a < 4096) : ∀ i a, a < 12 → rcU X by_ i a < 4096 := by
  intro i
  induction i with
  | zero => exact hX
  | succ i ih =>
    intro a ha
    simp only [rcU]
    split
    · simp only [va_up]
      split
      · rename_i e; subst e; exact Nat.or_lt_two_pow (n := 12) (ih _ ha) (ih _ hb)
      · exact ih a ha
    · exact ih a ha
theorem rcB_lt {X : Nat → Nat} {n : Nat} (hX : ∀ a, a < 12 → X a < 4096) : ∀ b, b ≤ 12 → ∀ a, a < 12 → rcB X n b a < 4096 := by
  intro b
  induction b with
  | zero => intro _; exact hX
  | succ b ih => intro hb; exact rcU_lt (by omega) (ih (by omega)) n
theorem frd_y {X U : Nat → Nat} {n dn a F : Nat} (h : frd X U n dn (n - a) a = F) (ha : a < n) (h1 : dn.testBit a = false) (h2 : (dif (tgU U (arU X a n) n) (arU X a n ||| dn) == 0) = true) : F = arU X a n := by
  rw [← h, show n - a = (n - a - 1) + 1 by omega]
  simp only [frd]
  rw [if_pos ⟨h1, beq_iff_eq.mp h2⟩]
theorem frd_n1 {X U : Nat → Nat} {n dn a F : Nat} (h : frd X U n dn (n - a) a = F) (ha : a < n) (h1 : dn.testBit a = true) : frd X U n dn (n - (a + 1)) (a + 1) = F := by
  rw [← h, show n - a = (n - (a + 1)) + 1 by omega]
  simp only [frd]
  rw [if_neg (fun q => by rw [h1] at q; cases q.1)]
theorem frd_n2 {X U : Nat → Nat} {n dn a F : Nat} (h : frd X U n dn (n - a) a = F) (ha : a < n) (h2 : (dif (tgU U (arU X a n) n) (arU X a n ||| dn) == 0) = false) : frd X U n dn (n - (a + 1)) (a + 1) = F := by
  rw [← h, show n - a = (n - (a + 1)) + 1 by omega]
  simp only [frd]
  rw [if_neg (fun q => beq_eq_false_iff_ne.mp h2 q.2)]
theorem frd_e {X U : Nat → Nat} {n dn a F : Nat} (h : frd X U n dn (n - a) a = F) (ha : n ≤ a) : F = 0 := by
  rw [← h, show n - a = 0 by omega]
  rfl
theorem sw_no {x : Int32} (j : Nat) (hj : j ≤ 2) (q : x = nI j) (h0 : ¬ x = 0) (h1 : ¬ x = 1) (h2 : ¬ x = 2) : False := by
  match j, hj with
  | 0, _ => exact h0 (q.trans (by decide))
  | 1, _ => exact h1 (q.trans (by decide))
  | 2, _ => exact h2 (q.trans (by decide))
theorem fnd_dn {X U : Nat → Nat} {n : Nat} {Y : Nat → Nat} (hn : n ≤ 12) : ∀ k, (fnd X U n Y k).2.2 < 4096 := by
  intro k
  induction k with
  | zero => exact Nat.zero_lt_succ _
  | succ k ih => exact Nat.or_lt_two_pow (n := 12) ih (frd_lt hn _ _)
theorem fnd_z {X U : Nat → Nat} {n : Nat} {Y : Nat → Nat} : ∀ k, (fnd X U n Y k).2.1 ≤ k := by
  intro k
  induction k with
  | zero => exact Nat.le_refl _
  | succ k ih =>
    simp only [fnd]
    split <;> omega
def rcX (T : Nat → Nat) (n : Nat) (X : Nat → Nat) : Nat → Nat := rcB (ovw X (rcA T n) 12) 12 12
theorem rcX_lt {T : Nat → Nat} {n : Nat} {X : Nat → Nat} (hT : ∀ a, T a < 4096) : ∀ a, a < 12 → rcX T n X a < 4096 :=
  rcB_lt (fun a ha => by rw [ovw_lt ha]; exact rcA_lt hT ha) 12 (Nat.le_refl _)
/-- a number is a set -/
theorem set_of {x : Int32} {n : Nat} (hn : n ≤ 12) (h : x &&& (nI (2 ^ n - 1) ^^^ -1) = 0) : ∃ k, k < 2 ^ n ∧ x = nI k := by
  obtain ⟨m, hm, rfl⟩ : ∃ m, m < 2 ^ 32 ∧ x = nI m := ⟨x.toBitVec.toNat, x.toBitVec.isLt, by
    apply Int32.toBitVec_inj.mp
    show x.toBitVec = BitVec.ofNat 32 _
    simp⟩
  refine ⟨m, ?_, rfl⟩
  rw [nx_dif] at h
  have hd : dif m (2 ^ n - 1) = 0 := by
    have h1 := congrArg (fun z => z.toBitVec.toNat) h
    simp only [pk_tn (Nat.lt_of_le_of_lt (dif_le _ _) hm)] at h1
    simpa using h1
  have hi := inn_dif.mp hd
  have := inn_le hi
  have := Nat.one_le_two_pow (n := n)
  omega
theorem set_is {k n : Nat} (h : k < 2 ^ n) : nI k &&& (nI (2 ^ n - 1) ^^^ -1) = 0 := by
  rw [nx_dif, inn_dif.mpr, nI_0]
  intro i hi
  rw [Nat.testBit_two_pow_sub_one]
  rcases Nat.lt_or_ge i n with q | q
  · simp [q]
  · rw [Nat.testBit_lt_two_pow (Nat.lt_of_lt_of_le h (Nat.pow_le_pow_right (by decide) q))] at hi
    cases hi
theorem tellF_no {z : Nat} {Sa : Nat → Nat} {An : Nat → Int32} {Sd : Nat → Nat} {x y : Int32} (q : inR x z = false) : tellF z Sa An Sd x y = -1 := by simp only [tellF, q, Bool.false_eq_true, if_false]
