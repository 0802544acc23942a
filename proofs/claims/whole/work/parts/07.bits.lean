/-! Sets as numbers. -/
theorem and_lt {a b : Nat} (h : b < 2 ^ 31) : a &&& b < 2 ^ 31 := Nat.lt_of_le_of_lt Nat.and_le_right h
theorem and_ltl {a b : Nat} (h : a < 2 ^ 31) : a &&& b < 2 ^ 31 := Nat.lt_of_le_of_lt Nat.and_le_left h
theorem or_lt {a b : Nat} (ha : a < 2 ^ 31) (hb : b < 2 ^ 31) : a ||| b < 2 ^ 31 := Nat.or_lt_two_pow ha hb
theorem pow_lt {a : Nat} (h : a < 31) : 2 ^ a < 2 ^ 31 := Nat.pow_lt_pow_right (by decide) h
theorem dif_lt {a b : Nat} (h : a < 2 ^ 31) : dif a b < 2 ^ 31 := Nat.lt_of_le_of_lt (dif_le a b) h
theorem nI_dec {a : Nat} (h : 0 < a) : nI a + Int32.ofInt (-1) = nI (a - 1) := sb_m1 h
theorem bI_fit (b : Bool) : fits .boolean (.int (bI b)) = true := by cases b <;> rfl
/-- a is in b -/
def inn (a b : Nat) : Prop := ∀ i, a.testBit i = true → b.testBit i = true
theorem inn_dif {a b : Nat} : dif a b = 0 ↔ inn a b := by
  constructor
  · intro h i hi
    have := congrArg (fun z => z.testBit i) h
    simp only [dif_bit, hi, Nat.zero_testBit, Bool.true_and, Bool.not_eq_eq_eq_not, Bool.not_false] at this
    exact this
  · intro h
    apply Nat.eq_of_testBit_eq
    intro i
    rw [dif_bit, Nat.zero_testBit]
    cases ha : a.testBit i with
    | false => rfl
    | true => rw [h i ha]; rfl
theorem inn_refl (a : Nat) : inn a a := fun _ h => h
theorem inn_trans {a b c : Nat} (h : inn a b) (h2 : inn b c) : inn a c := fun i hi => h2 i (h i hi)
theorem inn_le {a b : Nat} (h : inn a b) : a ≤ b := Nat.le_of_testBit h
theorem inn_anti {a b : Nat} (h : inn a b) (h2 : inn b a) : a = b := Nat.le_antisymm (inn_le h) (inn_le h2)
theorem inn_and {a b : Nat} : a &&& b = a ↔ inn a b := by
  constructor
  · intro h i hi
    have := congrArg (fun z => z.testBit i) h
    simp only [Nat.testBit_and, hi, Bool.true_and] at this
    exact this
  · intro h
    apply Nat.eq_of_testBit_eq
    intro i
    rw [Nat.testBit_and]
    cases ha : a.testBit i with
    | false => rfl
    | true => rw [h i ha]; rfl
theorem and_pow_bit {k i : Nat} : k &&& 2 ^ i = 0 ↔ k.testBit i = false := by
  constructor
  · intro h
    have := congrArg (fun z => z.testBit i) h
    simpa [Nat.testBit_and, Nat.testBit_two_pow_self] using this
  · intro h
    apply Nat.eq_of_testBit_eq
    intro j
    rw [Nat.testBit_and, Nat.zero_testBit, Nat.testBit_two_pow]
    by_cases hj : i = j
    · subst hj; rw [h]; rfl
    · simp [hj]
/-! No more than 924 sets of 12 such that none is in another one: chains by matched brackets. -/
def sp_sc (x : Nat) : Nat → List Nat × Nat × Nat
  | 0 => ([], 0, 0)
  | i + 1 => match sp_sc x i with
    | (st, um, k) => if x / 2 ^ i % 2 = 1 then (match st with | [] => ([], um + 2 ^ i, k + 1) | _ :: st' => (st', um, k)) else (i :: st, um, k)
def sp_bot (x : Nat) : Nat := x - (sp_sc x 12).2.1
def sp_cnt (x : Nat) : Nat := (sp_sc x 12).2.2
def sp_up (b : Nat) (k : Nat) : Nat := ((sp_sc b 12).1.reverse.take k).foldl (fun a z => a + 2 ^ z) b
def sp_L : List Nat := (List.range 4096).filter (fun x => sp_bot x == x)
set_option maxRecDepth 100000 in
theorem sp_len : sp_L.length = 924 := by decide +kernel
set_option maxRecDepth 100000 in
theorem sp_c1 : (List.range 4096).all (fun x => sp_up (sp_bot x) (sp_cnt x) == x && Nat.ble (sp_cnt x) 12 && Nat.blt (sp_bot x) 4096 && sp_bot (sp_bot x) == sp_bot x) = true := by decide +kernel
set_option maxRecDepth 100000 in
theorem sp_c2 : sp_L.all (fun b => (List.range 12).all (fun k => sp_up b k &&& sp_up b (k + 1) == sp_up b k)) = true := by decide +kernel
theorem sp_one {x : Nat} (h : x < 4096) : sp_up (sp_bot x) (sp_cnt x) = x ∧ sp_cnt x ≤ 12 ∧ sp_bot x ∈ sp_L := by
  have h1 := List.all_eq_true.mp sp_c1 x (List.mem_range.mpr h)
  simp only [Bool.and_eq_true, beq_iff_eq, Nat.ble_eq, Nat.blt_eq] at h1
  refine ⟨h1.1.1.1, h1.1.1.2, ?_⟩
  unfold sp_L
  rw [List.mem_filter]
  exact ⟨List.mem_range.mpr h1.1.2, by rw [beq_iff_eq]; exact h1.2⟩
theorem sp_mono {b : Nat} (hb : b ∈ sp_L) : ∀ (d k : Nat), k + d ≤ 12 → inn (sp_up b k) (sp_up b (k + d)) := by
  intro d
  induction d with
  | zero => intro k _; exact inn_refl _
  | succ d ih =>
    intro k hk
    refine inn_trans (ih k (by omega)) ?_
    have h1 := List.all_eq_true.mp (List.all_eq_true.mp sp_c2 b hb) (k + d) (List.mem_range.mpr (by omega))
    rw [beq_iff_eq] at h1
    exact inn_and.mp h1
theorem sp_cmp {x y : Nat} (hx : x < 4096) (hy : y < 4096) (h : sp_bot x = sp_bot y) : inn x y ∨ inn y x := by
  obtain ⟨x1, x2, x3⟩ := sp_one hx
  obtain ⟨y1, y2, y3⟩ := sp_one hy
  rcases Nat.le_total (sp_cnt x) (sp_cnt y) with hc | hc
  · left
    have := sp_mono x3 (sp_cnt y - sp_cnt x) (sp_cnt x) (by omega)
    rw [show sp_cnt x + (sp_cnt y - sp_cnt x) = sp_cnt y by omega, x1, h, y1] at this
    exact this
  · right
    have := sp_mono y3 (sp_cnt x - sp_cnt y) (sp_cnt y) (by omega)
    rw [show sp_cnt y + (sp_cnt x - sp_cnt y) = sp_cnt x by omega, y1, ← h, x1] at this
    exact this
theorem nodup_len {l1 : List Nat} : ∀ {l2 : List Nat}, l1.Nodup → (∀ x ∈ l1, x ∈ l2) → l1.length ≤ l2.length := by
  induction l1 with
  | nil => intro l2 _ _; exact Nat.zero_le _
  | cons a t ih =>
    intro l2 hn hs
    rw [List.nodup_cons] at hn
    have ha : a ∈ l2 := hs a List.mem_cons_self
    have h1 := ih (l2 := l2.erase a) hn.2 (fun x hx => by
      have hxa : x ≠ a := fun q => hn.1 (q ▸ hx)
      exact (List.mem_erase_of_ne hxa).mpr (hs x (List.mem_cons_of_mem _ hx)))
    rw [List.length_erase_of_mem ha] at h1
    have h2 : 0 < l2.length := List.length_pos_of_mem ha
    simp only [List.length_cons]
    omega
/-- sets of 12, none in another one, are 924 at most -/
theorem sperner {f : Nat → Nat} {c : Nat} (hb : ∀ i, i < c → f i < 4096) (hn : ∀ i j, i < c → j < c → i ≠ j → ¬ inn (f i) (f j)) : c ≤ 924 := by
  have h1 : ((List.range c).map (fun i => sp_bot (f i))).Nodup := by
    unfold List.Nodup
    rw [List.pairwise_map]
    refine List.Pairwise.imp_of_mem ?_ (List.nodup_range (n := c))
    intro i j hi hj hij q
    rcases sp_cmp (hb i (List.mem_range.mp hi)) (hb j (List.mem_range.mp hj)) q with h | h
    · exact hn i j (List.mem_range.mp hi) (List.mem_range.mp hj) hij h
    · exact hn j i (List.mem_range.mp hj) (List.mem_range.mp hi) (Ne.symm hij) h
  have h2 := nodup_len (l2 := sp_L) h1 (fun x hx => by
    obtain ⟨i, hi, rfl⟩ := List.mem_map.mp hx
    exact (sp_one (hb i (List.mem_range.mp hi))).2.2)
  rw [List.length_map, List.length_range, sp_len] at h2
  exact h2
