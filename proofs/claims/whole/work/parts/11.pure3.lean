/-! Senses: what the walks need -/
theorem tgU_z (T : Nat → Nat) (i : Nat) : tgU T 0 i = 0 := by
  induction i with
  | zero => rfl
  | succ i ih => simp [tgU, ih]
theorem tgU_bit {T : Nat → Nat} {k j : Nat} : ∀ {i : Nat}, (tgU T k i).testBit j = true ↔ ∃ a, a < i ∧ k.testBit a = true ∧ (T a).testBit j = true := by
  intro i
  induction i with
  | zero => simp [tgU]
  | succ i ih =>
    simp only [tgU]
    constructor
    · intro h
      split at h
      · rename_i hb
        rw [Nat.testBit_or, Bool.or_eq_true] at h
        rcases h with h | h
        · obtain ⟨a, h1, h2, h3⟩ := ih.mp h; exact ⟨a, by omega, h2, h3⟩
        · exact ⟨i, by omega, hb, h⟩
      · obtain ⟨a, h1, h2, h3⟩ := ih.mp h; exact ⟨a, by omega, h2, h3⟩
    · rintro ⟨a, h1, h2, h3⟩
      by_cases hai : a = i
      · subst hai
        rw [if_pos h2, Nat.testBit_or, h3, Bool.or_true]
      · have h4 := ih.mpr ⟨a, by omega, h2, h3⟩
        split
        · rw [Nat.testBit_or, h4, Bool.true_or]
        · exact h4
theorem bit_top {a r j : Nat} (hr : r < 2 ^ a) : (2 ^ a + r).testBit j = (decide (a = j) || r.testBit j) := by
  by_cases h : a = j
  · subst h
    rw [Nat.testBit_two_pow_add_eq, Nat.testBit_lt_two_pow hr]
    simp
  · simp only [h, decide_false, Bool.false_or]
    rcases Nat.lt_or_gt_of_ne h with h1 | h1
    · rw [Nat.testBit_lt_two_pow (Nat.lt_of_lt_of_le hr (Nat.pow_le_pow_right (by decide) (by omega))), Nat.testBit_lt_two_pow]
      have : 2 ^ (a + 1) ≤ 2 ^ j := Nat.pow_le_pow_right (by decide) (by omega)
      rw [Nat.pow_succ] at this
      omega
    · exact Nat.testBit_two_pow_add_gt h1 r
theorem tgU_top {T : Nat → Nat} {n a r : Nat} (ha : a < n) (hr : r < 2 ^ a) : tgU T (2 ^ a + r) n = tgU T r n ||| T a := by
  apply Nat.eq_of_testBit_eq
  intro j
  rw [Nat.testBit_or, Bool.eq_iff_iff, tgU_bit, Bool.or_eq_true, tgU_bit]
  constructor
  · rintro ⟨b, h1, h2, h3⟩
    rw [bit_top hr, Bool.or_eq_true, decide_eq_true_eq] at h2
    rcases h2 with h2 | h2
    · subst h2; exact Or.inr h3
    · exact Or.inl ⟨b, h1, h2, h3⟩
  · rintro (⟨b, h1, h2, h3⟩ | h)
    · exact ⟨b, h1, by rw [bit_top hr, h2, Bool.or_true], h3⟩
    · exact ⟨a, ha, by rw [bit_top hr]; simp, h⟩
theorem fi_lt {a r : Nat} (ha : a < 12) (hr : r < 2 ^ a) : 2 ^ a + r < 4096 := by
  have : 2 ^ (a + 1) ≤ 2 ^ 12 := Nat.pow_le_pow_right (by decide) (by omega)
  rw [Nat.pow_succ] at this
  omega
theorem p12_le {a : Nat} (ha : a ≤ 12) : 2 ^ a ≤ 4096 := Nat.pow_le_pow_right (n := 2) (by decide) ha
theorem ntU_f {P : Nat → Nat} {x i : Nat} (h : (dif x (P i) == 0) = true) : ∀ {c : Nat}, i < c → ntU P x c = false := by
  intro c
  induction c with
  | zero => intro q; exact absurd q (Nat.not_lt_zero _)
  | succ c ih =>
    intro q
    simp only [ntU]
    by_cases hi : i = c
    · subst hi; rw [h]; simp
    · rw [ih (by omega)]; rfl
theorem ntU_t {P : Nat → Nat} {x : Nat} : ∀ {c : Nat}, ntU P x c = true ↔ ∀ j, j < c → ¬ inn x (P j) := by
  intro c
  induction c with
  | zero => simp [ntU]
  | succ c ih =>
    simp only [ntU, Bool.and_eq_true, ih, Bool.not_eq_true', beq_eq_false_iff_ne]
    constructor
    · rintro ⟨h1, h2⟩ j hj
      by_cases hi : j = c
      · subst hi; exact fun q => h2 (inn_dif.mpr q)
      · exact h1 j (by omega)
    · intro h
      exact ⟨fun j hj => h j (by omega), fun q => h c (by omega) (inn_dif.mp q)⟩
/-- the tops: apart, none in another one, going down, all above where the loop is -/
theorem tp_inv {mk sb : Nat} {M P : Nat → Nat} {ev : Nat} : ∀ {d : Nat}, d ≤ ev + 1 →
    (∀ j, j < (tpS mk sb M P ev d).2.2 → (tpS mk sb M P ev d).2.1 j ≤ ev ∧ ev < (tpS mk sb M P ev d).2.1 j + d) ∧
    (∀ i j, i < j → j < (tpS mk sb M P ev d).2.2 → (tpS mk sb M P ev d).2.1 j < (tpS mk sb M P ev d).2.1 i ∧ ¬ inn ((tpS mk sb M P ev d).2.1 j) ((tpS mk sb M P ev d).2.1 i)) := by
  intro d
  induction d with
  | zero => intro _; exact ⟨fun j h => absurd h (Nat.not_lt_zero _), fun i j _ h => absurd h (Nat.not_lt_zero _)⟩
  | succ d ih =>
    intro hd
    obtain ⟨h1, h2⟩ := ih (by omega)
    simp only [tpS]
    split
    · rename_i hc
      rw [Bool.and_eq_true] at hc
      have hn := ntU_t.mp hc.2
      refine ⟨?_, ?_⟩
      · intro j hj
        by_cases e : j = (tpS mk sb M P ev d).2.2
        · subst e; simp only [va_up, if_true]; omega
        · simp only [va_up, e, if_false]
          have := h1 j (by simp only at hj; omega)
          omega
      · intro i j hij hj
        simp only at hj
        have ei : i ≠ (tpS mk sb M P ev d).2.2 := by omega
        by_cases e : j = (tpS mk sb M P ev d).2.2
        · subst e
          simp only [va_up, if_true, ei, if_false]
          have := h1 i (by omega)
          exact ⟨by omega, hn i (by omega)⟩
        · simp only [va_up, e, ei, if_false]
          exact h2 i j hij (by omega)
    · refine ⟨fun j hj => ?_, h2⟩
      have := h1 j hj
      omega
theorem tp_cap {mk sb : Nat} {M P : Nat → Nat} {ev d : Nat} (hev : ev < 4096) (hd : d ≤ ev + 1) : (tpS mk sb M P ev d).2.2 ≤ 924 := by
  obtain ⟨h1, h2⟩ := tp_inv (mk := mk) (sb := sb) (M := M) (P := P) hd
  refine sperner (f := (tpS mk sb M P ev d).2.1) (fun i hi => by have := h1 i hi; omega) (fun i j hi hj hij q => ?_)
  rcases Nat.lt_or_gt_of_ne hij with h | h
  · have := (h2 i j h hj).1
    have := inn_le q
    omega
  · exact (h2 j i h hi).2 q
theorem tp_room {mk sb : Nat} {M P : Nat → Nat} {ev d : Nat} (hev : ev < 4096) (hd : d ≤ ev) (hm : ((tpS mk sb M P ev d).1 (ev - d) &&& mk != 0) = true) (hn : ntU (tpS mk sb M P ev d).2.1 (ev - d) (tpS mk sb M P ev d).2.2 = true) : (tpS mk sb M P ev d).2.2 < 924 := by
  have h := tp_cap (mk := mk) (sb := sb) (M := M) (P := P) hev (d := d + 1) (by omega)
  simp only [tpS, hm, hn, Bool.and_self, if_true] at h
  omega
theorem tpS_y {mk sb : Nat} {M P : Nat → Nat} {ev d : Nat} (hm : ((tpS mk sb M P ev d).1 (ev - d) &&& mk != 0) = true) (hn : ntU (tpS mk sb M P ev d).2.1 (ev - d) (tpS mk sb M P ev d).2.2 = true) :
    tpS mk sb M P ev (d + 1) = (va_up (tpS mk sb M P ev d).1 (ev - d) ((tpS mk sb M P ev d).1 (ev - d) ||| sb), va_up (tpS mk sb M P ev d).2.1 (tpS mk sb M P ev d).2.2 (ev - d), (tpS mk sb M P ev d).2.2 + 1) := by
  simp only [tpS, hm, hn, Bool.and_self, if_true]
theorem tpS_n1 {mk sb : Nat} {M P : Nat → Nat} {ev d : Nat} (hm : ((tpS mk sb M P ev d).1 (ev - d) &&& mk != 0) = false) : tpS mk sb M P ev (d + 1) = tpS mk sb M P ev d := by
  simp only [tpS, hm, Bool.false_and, Bool.false_eq_true, if_false]
theorem tpS_n2 {mk sb : Nat} {M P : Nat → Nat} {ev d : Nat} (hn : ntU (tpS mk sb M P ev d).2.1 (ev - d) (tpS mk sb M P ev d).2.2 = false) : tpS mk sb M P ev (d + 1) = tpS mk sb M P ev d := by
  simp only [tpS, hn, Bool.and_false, Bool.false_eq_true, if_false]
/-- one turn of the loop: three ways -/
def TPS (mk sb : Nat) (M P : Nat → Nat) (ev i : Nat) (X Y : Nat → Nat) (z : Nat) : Prop := tpS mk sb M P ev (ev + 1 - i) = (X, Y, z)
theorem TPS_0 {mk sb : Nat} {M P : Nat → Nat} {ev : Nat} : TPS mk sb M P ev (ev + 1) M P 0 := by unfold TPS; rw [Nat.sub_self]; rfl
theorem TPS_d {ev i : Nat} (h : i + 1 ≤ ev + 1) : ev + 1 - i = (ev + 1 - (i + 1)) + 1 ∧ ev - (ev + 1 - (i + 1)) = i := by omega
theorem TPS_y {mk sb : Nat} {M P : Nat → Nat} {ev i : Nat} {X Y : Nat → Nat} {z : Nat} (h : TPS mk sb M P ev (i + 1) X Y z) (hi : i + 1 ≤ ev + 1) (hm : (X i &&& mk != 0) = true) (hn : ntU Y i z = true) : TPS mk sb M P ev i (va_up X i (X i ||| sb)) (va_up Y z i) (z + 1) := by
  unfold TPS at h ⊢
  obtain ⟨e1, e2⟩ := TPS_d hi
  rw [e1, tpS_y (by rw [h, e2]; exact hm) (by rw [h, e2]; exact hn), h, e2]
theorem TPS_n1 {mk sb : Nat} {M P : Nat → Nat} {ev i : Nat} {X Y : Nat → Nat} {z : Nat} (h : TPS mk sb M P ev (i + 1) X Y z) (hi : i + 1 ≤ ev + 1) (hm : (X i &&& mk != 0) = false) : TPS mk sb M P ev i X Y z := by
  unfold TPS at h ⊢
  obtain ⟨e1, e2⟩ := TPS_d hi
  rw [e1, tpS_n1 (by rw [h, e2]; exact hm), h]
theorem TPS_n2 {mk sb : Nat} {M P : Nat → Nat} {ev i : Nat} {X Y : Nat → Nat} {z : Nat} (h : TPS mk sb M P ev (i + 1) X Y z) (hi : i + 1 ≤ ev + 1) (hn : ntU Y i z = false) : TPS mk sb M P ev i X Y z := by
  unfold TPS at h ⊢
  obtain ⟨e1, e2⟩ := TPS_d hi
  rw [e1, tpS_n2 (by rw [h, e2]; exact hn), h]
theorem TPS_cap {mk sb : Nat} {M P : Nat → Nat} {ev i : Nat} {X Y : Nat → Nat} {z : Nat} (h : TPS mk sb M P ev i X Y z) (hev : ev < 4096) : z ≤ 924 := by
  have h1 := tp_cap (mk := mk) (sb := sb) (M := M) (P := P) hev (d := ev + 1 - i) (by omega)
  unfold TPS at h
  rw [h] at h1
  exact h1
theorem TPS_room {mk sb : Nat} {M P : Nat → Nat} {ev i : Nat} {X Y : Nat → Nat} {z : Nat} (h : TPS mk sb M P ev (i + 1) X Y z) (hev : ev < 4096) (hi : i + 1 ≤ ev + 1) (hm : (X i &&& mk != 0) = true) (hn : ntU Y i z = true) : z < 924 := by
  have := TPS_cap (TPS_y h hi hm hn) hev
  omega
theorem TPS_e {mk sb : Nat} {M P : Nat → Nat} {ev : Nat} {X Y : Nat → Nat} {z : Nat} (h : TPS mk sb M P ev 0 X Y z) : X = (tpS mk sb M P ev (ev + 1)).1 ∧ Y = (tpS mk sb M P ev (ev + 1)).2.1 ∧ z = (tpS mk sb M P ev (ev + 1)).2.2 := by
  unfold TPS at h
  rw [Nat.sub_zero] at h
  rw [h]
  exact ⟨rfl, rfl, rfl⟩
theorem orl {a b : Nat} (ha : a < 4096) (hb : b < 4096) : a ||| b < 4096 := Nat.or_lt_two_pow (n := 12) ha hb
def lnTS (kn : Bool) (T : Nat → Nat) (n : Nat) (TS : Nat → Nat) : Nat → Nat := bif kn then TS else ovw TS (fun x => tgU T x n) (2 ^ n)
def lnEv (kn : Bool) (n ev : Nat) : Nat := bif kn then ev else 2 ^ n - 1
def lnM1 (T : Nat → Nat) (n : Nat) (TS M : Nat → Nat) : Nat → Nat := ovw M (ownM (ovw TS (fun x => tgU T x n) (2 ^ n)) (2 ^ n - 1)) (2 ^ n - 1 + 1)
def lnA (T : Nat → Nat) (n : Nat) (TS M P : Nat → Nat) : (Nat → Nat) × (Nat → Nat) × Nat := tpS 16 2 (lnM1 T n TS M) P (2 ^ n - 1) (2 ^ n - 1 + 1)
def lnB (T : Nat → Nat) (n : Nat) (TS M P : Nat → Nat) : (Nat → Nat) × (Nat → Nat) × Nat := tpS 64 128 (rgS (ovw TS (fun x => tgU T x n) (2 ^ n)) (lnA T n TS M P).1 (2 ^ n - 1 + 1)) (lnA T n TS M P).2.1 (2 ^ n - 1) (2 ^ n - 1 + 1)
def lnM (kn : Bool) (T : Nat → Nat) (n : Nat) (TS M P : Nat → Nat) : Nat → Nat := bif kn then M else stS (ovw TS (fun x => tgU T x n) (2 ^ n)) (lnB T n TS M P).1 (2 ^ n - 1 + 1)
def lnP (kn : Bool) (T : Nat → Nat) (n : Nat) (TS M P : Nat → Nat) : Nat → Nat := bif kn then P else (lnB T n TS M P).2.1
def lnC (kn : Bool) (T : Nat → Nat) (n : Nat) (TS M P : Nat → Nat) (tc : Nat) : Nat := bif kn then tc else (lnB T n TS M P).2.2
theorem ovw_b {f g : Nat → Nat} {i : Nat} (hf : ∀ x, f x < 4096) (hg : ∀ x, g x < 4096) : ∀ x, ovw f g i x < 4096 := by
  intro x
  simp only [ovw]
  split
  · exact hg x
  · exact hf x
