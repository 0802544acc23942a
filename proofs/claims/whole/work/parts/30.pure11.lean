/-! AttackBench's own methods: what the walks need -/
theorem putT_lt {on : Bool} {T : Nat → Nat} {i j : Nat} (hT : ∀ a, T a < 4096) (hj : j < 12) : ∀ a, putT on T i j a < 4096 := by
  intro a
  unfold putT va_up
  split
  · split
    · exact Nat.or_lt_two_pow (n := 12) (hT i) (Nat.pow_lt_pow_right (by decide) hj)
    · exact Nat.lt_of_le_of_lt (dif_le _ _) (hT i)
  · exact hT a
theorem leads_nat {T : Nat → Nat} {n i j : Nat} (hn : n ≤ 12) (hi : i < n) (hj : j < n) : (inR (nI i) n && inR (nI j) n && (T (nI i).toNatClampNeg).testBit (nI j).toNatClampNeg) = (T i).testBit j := by
  rw [inR_nI (by omega) (by omega), inR_nI (by omega) (by omega), nI_clamp (by omega), nI_clamp (by omega)]
  simp [hi, hj]
theorem set_no {x : Int32} {n : Nat} (hn : n ≤ 12) (hb : inR x (2 ^ n) = false) (h : decide (x &&& (nI (2 ^ n - 1) ^^^ -1) = 0) = true) : False := by
  obtain ⟨k, hk, rfl⟩ := set_of hn (of_decide_eq_true h)
  have := p12_le hn
  rw [inR_nI (by omega) (by omega)] at hb
  simp [hk] at hb
theorem set_yes {k n : Nat} (hk : k < 2 ^ n) (h : decide (nI k &&& (nI (2 ^ n - 1) ^^^ -1) = 0) = false) : False := by
  rw [decide_eq_false_iff_not] at h
  exact h (set_is hk)
theorem lnTS_b {kn : Bool} {T : Nat → Nat} {n : Nat} {TS : Nat → Nat} (hT : ∀ a, T a < 4096) (hS : ∀ a, TS a < 4096) : ∀ a, lnTS kn T n TS a < 4096 := by
  cases kn
  · exact ovw_b hS (fun x => tgU_lt hT x n)
  · exact hS
theorem lnEv_lt {kn : Bool} {n ev : Nat} (hn : n ≤ 12) (h : ev < 4096) : lnEv kn n ev < 4096 := by
  have := p12_le hn
  have := Nat.one_le_two_pow (n := n)
  cases kn
  · show 2 ^ n - 1 < 4096; omega
  · exact h
