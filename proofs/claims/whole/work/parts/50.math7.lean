/-! Class and reference agree: the circles -/
section Ring
variable {n : Nat} {T U X X2 : Nat → Nat}
theorem circ_bit (hn : n ≤ 12) (hT : ∀ a, T a < 2 ^ n) {a i : Nat} (ha : a < n) : (arU (rcX T n X) a n).testBit i = true ↔ i < n ∧ RE T n a i = true ∧ RE T n i a = true := by
  rw [arU_bit]
  constructor
  · rintro ⟨h1, h2, h3⟩
    rw [rcX_RE hn hT ha] at h2; rw [rcX_RE hn hT h1] at h3
    exact ⟨h1, h2, h3⟩
  · rintro ⟨h1, h2, h3⟩
    exact ⟨h1, by rw [rcX_RE hn hT ha]; exact h2, by rw [rcX_RE hn hT h1]; exact h3⟩
theorem from_bit {a i : Nat} : (frM (mrX T n X2) a n).testBit i = true ↔ i < n ∧ RE T n i a = true := by
  rw [frM_bit]
  constructor
  · rintro ⟨h1, h2⟩; rw [mrX_RE h1] at h2; exact ⟨h1, h2⟩
  · rintro ⟨h1, h2⟩; exact ⟨h1, by rw [mrX_RE h1]; exact h2⟩
theorem both_bit {a i : Nat} (ha : a < n) : (frM (mrX T n X2) a n &&& mrX T n X2 a).testBit i = true ↔ i < n ∧ RE T n a i = true ∧ RE T n i a = true := by
  rw [Nat.testBit_and, Bool.and_eq_true, from_bit, mrX_RE ha]
  constructor
  · rintro ⟨⟨h1, h2⟩, h3⟩; exact ⟨h1, h3, h2⟩
  · rintro ⟨h1, h2, h3⟩; exact ⟨⟨h1, h3⟩, h2⟩
theorem circ_eq (hn : n ≤ 12) (hT : ∀ a, T a < 2 ^ n) {a : Nat} (ha : a < n) : arU (rcX T n X) a n = frM (mrX T n X2) a n &&& mrX T n X2 a := by
  apply Nat.eq_of_testBit_eq
  intro i
  rw [Bool.eq_iff_iff, circ_bit hn hT ha, both_bit ha]
theorem both_self {a : Nat} (ha : a < n) : (frM (mrX T n X2) a n &&& mrX T n X2 a).testBit a = true := (both_bit ha).mpr ⟨ha, RE_refl, RE_refl⟩
theorem from_lt {a : Nat} : frM (mrX T n X2) a n < 2 ^ n := by
  apply Nat.lt_pow_two_of_testBit
  intro i hi
  cases h : (frM (mrX T n X2) a n).testBit i with
  | false => rfl
  | true => exact absurd (from_bit.mp h).1 (by omega)
theorem both_lt {a : Nat} : frM (mrX T n X2) a n &&& mrX T n X2 a < 2 ^ n := Nat.lt_of_le_of_lt Nat.and_le_left from_lt
/-- who is done: with each also all that reach it -/
def CLD (T : Nat → Nat) (n dn : Nat) : Prop := dn < 2 ^ n ∧ ∀ b c, c < n → dn.testBit b = true → RE T n c b = true → dn.testBit c = true
theorem ready_iff (hn : n ≤ 12) (h : CON n T U) {dn a : Nat} (hd : CLD T n dn) (ha : a < n) : dif (tgU U (arU (rcX T n X) a n) n) (arU (rcX T n X) a n ||| dn) = 0 ↔ dif (dif (frM (mrX T n X2) a n) dn) (frM (mrX T n X2) a n &&& mrX T n X2 a) = 0 := by
  rw [inn_dif, inn_dif]
  constructor
  · intro hc c hcb
    rw [dif_bit, Bool.and_eq_true, from_bit, Bool.not_eq_true'] at hcb
    obtain ⟨⟨h1, h2⟩, h3⟩ := hcb
    have hP : ∀ b c, (b < n ∧ ((arU (rcX T n X) a n).testBit b = true ∨ dn.testBit b = true)) → (T c).testBit b = true → (c < n ∧ ((arU (rcX T n X) a n).testBit c = true ∨ dn.testBit c = true)) := by
      rintro b c ⟨hb, hor⟩ ht
      have hcn : c < n := by
        rcases Nat.lt_or_ge c n with q | q
        · exact q
        · rw [h.2.2.1 c q] at ht; simp at ht
      refine ⟨hcn, ?_⟩
      rcases hor with hor | hor
      · have := hc c (tgU_bit.mpr ⟨b, hb, hor, by rw [h.2.2.2.2]; exact ht⟩)
        rw [Nat.testBit_or, Bool.or_eq_true] at this
        exact this
      · exact Or.inr (hd.2 b c hcn hor (RE_step ht))
    have hPa := wsh_snd (P := fun b => b < n ∧ ((arU (rcX T n X) a n).testBit b = true ∨ dn.testBit b = true)) hP n c a h2 ⟨ha, Or.inl ((circ_bit hn h.1 ha).mpr ⟨ha, RE_refl, RE_refl⟩)⟩
    rcases hPa.2 with q | q
    · rw [← circ_eq (X := X) hn h.1 ha]; exact q
    · rw [h3] at q; cases q
  · intro hc c hcb
    obtain ⟨i, hi, hib, hu⟩ := tgU_bit.mp hcb
    have hcn := bit_lt (h.2.1 i) hu
    rw [h.2.2.2.2] at hu
    rw [Nat.testBit_or, Bool.or_eq_true]
    cases hdc : dn.testBit c with
    | true => exact Or.inr rfl
    | false =>
      left
      rw [circ_eq (X := X) (X2 := X2) hn h.1 ha]
      apply hc c
      rw [dif_bit, hdc, Bool.and_eq_true, from_bit]
      exact ⟨⟨hcn, RE_tr h.1 hcn (RE_step hu) ((circ_bit hn h.1 ha).mp hib).2.2⟩, rfl⟩
theorem nxU_spec {X : Nat → Nat} {dn : Nat} : ∀ d, d ≤ n → (nxU X n dn d = none → ∀ i, n - d ≤ i → i < n → ¬ (dn.testBit i = false ∧ dif (dif (frM X i n) dn) (frM X i n &&& X i) = 0)) ∧
    (∀ j, nxU X n dn d = some j → n - d ≤ j ∧ j < n ∧ (dn.testBit j = false ∧ dif (dif (frM X j n) dn) (frM X j n &&& X j) = 0) ∧ ∀ i, n - d ≤ i → i < j → ¬ (dn.testBit i = false ∧ dif (dif (frM X i n) dn) (frM X i n &&& X i) = 0)) := by
  intro d
  induction d with
  | zero => intro _; exact ⟨fun _ i h1 h2 => by omega, fun j h => by cases h⟩
  | succ d ih =>
    intro hd
    obtain ⟨i1, i2⟩ := ih (by omega)
    simp only [nxU]
    by_cases hc : dn.testBit (n - 1 - d) = false ∧ dif (dif (frM X (n - 1 - d) n) dn) (frM X (n - 1 - d) n &&& X (n - 1 - d)) = 0
    · rw [if_pos hc]
      refine ⟨fun q => (by cases q), fun j hj => ?_⟩
      cases hj
      exact ⟨by omega, by omega, hc, fun i h1 h2 => by omega⟩
    · rw [if_neg hc]
      refine ⟨fun q i h1 h2 => ?_, fun j hj => ?_⟩
      · by_cases e : i = n - 1 - d
        · subst e; exact hc
        · exact i1 q i (by omega) h2
      · obtain ⟨j1, j2, j3, j4⟩ := i2 j hj
        refine ⟨by omega, j2, j3, fun i h1 h2 => ?_⟩
        by_cases e : i = n - 1 - d
        · subst e; exact hc
        · exact j4 i (by omega) h2
theorem frd_none {X U : Nat → Nat} {dn : Nat} : ∀ f a, (∀ i, a ≤ i → i < a + f → ¬ (dn.testBit i = false ∧ dif (tgU U (arU X i n) n) (arU X i n ||| dn) = 0)) → frd X U n dn f a = 0 := by
  intro f
  induction f with
  | zero => intro a _; rfl
  | succ f ih =>
    intro a h
    simp only [frd]
    rw [if_neg (h a (Nat.le_refl a) (by omega))]
    exact ih (a + 1) (fun i h1 h2 => h i (by omega) (by omega))
theorem frd_some {X U : Nat → Nat} {dn j : Nat} (hj : dn.testBit j = false ∧ dif (tgU U (arU X j n) n) (arU X j n ||| dn) = 0) : ∀ f a, a ≤ j → j < a + f → (∀ i, a ≤ i → i < j → ¬ (dn.testBit i = false ∧ dif (tgU U (arU X i n) n) (arU X i n ||| dn) = 0)) → frd X U n dn f a = arU X j n := by
  intro f
  induction f with
  | zero => intro a h1 h2; omega
  | succ f ih =>
    intro a h1 h2 h
    simp only [frd]
    by_cases e : a = j
    · subst e; rw [if_pos hj]
    · rw [if_neg (h a (Nat.le_refl a) (by omega))]
      exact ih (a + 1) (by omega) (by omega) (fun i h3 h4 => h i (by omega) h4)
/-- both find the same circle, or none -/
theorem next_eq (hn : n ≤ 12) (h : CON n T U) {dn : Nat} (hd : CLD T n dn) : (nxU (mrX T n X2) n dn n = none ∧ frd (rcX T n X) U n dn n 0 = 0) ∨ ∃ j, j < n ∧ dn.testBit j = false ∧ dif (dif (frM (mrX T n X2) j n) dn) (frM (mrX T n X2) j n &&& mrX T n X2 j) = 0 ∧ nxU (mrX T n X2) n dn n = some j ∧ frd (rcX T n X) U n dn n 0 = frM (mrX T n X2) j n &&& mrX T n X2 j := by
  obtain ⟨s1, s2⟩ := nxU_spec (n := n) (X := mrX T n X2) (dn := dn) n (Nat.le_refl n)
  cases ho : nxU (mrX T n X2) n dn n with
  | none =>
    left
    refine ⟨rfl, frd_none n 0 (fun i _ hi hc => ?_)⟩
    exact s1 ho i (by omega) (by omega) ⟨hc.1, (ready_iff hn h hd (by omega)).mp hc.2⟩
  | some j =>
    right
    obtain ⟨j1, j2, j3, j4⟩ := s2 j ho
    refine ⟨j, j2, j3.1, j3.2, rfl, ?_⟩
    rw [← circ_eq (X := X) hn h.1 j2]
    refine frd_some ⟨j3.1, (ready_iff hn h hd j2).mpr j3.2⟩ n 0 (Nat.zero_le _) (by omega) (fun i _ hi hc => ?_)
    exact j4 i (by omega) hi ⟨hc.1, (ready_iff hn h hd (by omega)).mp hc.2⟩
theorem cld_step (hT : ∀ a, T a < 2 ^ n) {dn j : Nat} (hd : CLD T n dn) (hj : j < n) (hr : dif (dif (frM (mrX T n X2) j n) dn) (frM (mrX T n X2) j n &&& mrX T n X2 j) = 0) : CLD T n (dn ||| (frM (mrX T n X2) j n &&& mrX T n X2 j)) := by
  refine ⟨Nat.or_lt_two_pow hd.1 both_lt, fun b c hc hb hre => ?_⟩
  rw [Nat.testBit_or, Bool.or_eq_true] at hb ⊢
  rcases hb with hb | hb
  · exact Or.inl (hd.2 b c hc hb hre)
  · cases hdc : dn.testBit c with
    | true => exact Or.inl rfl
    | false =>
      right
      refine inn_dif.mp hr c ?_
      rw [dif_bit, hdc, Bool.and_eq_true, from_bit]
      exact ⟨⟨hc, RE_tr hT hc hre ((both_bit hj).mp hb).2.2⟩, rfl⟩
/-- as long as one is left there is a next circle -/
theorem next_ex (hT : ∀ a, T a < 2 ^ n) {dn : Nat} : ∀ m a, a < n → dn.testBit a = false → pcU (frM (mrX T n X2) a n) n ≤ m → ∃ j, nxU (mrX T n X2) n dn n = some j := by
  have key : ∀ m a, a < n → dn.testBit a = false → pcU (frM (mrX T n X2) a n) n ≤ m → ∃ j, j < n ∧ dn.testBit j = false ∧ dif (dif (frM (mrX T n X2) j n) dn) (frM (mrX T n X2) j n &&& mrX T n X2 j) = 0 := by
    intro m
    induction m with
    | zero =>
      intro a ha _ hp
      exfalso
      have h0 : pcU 0 n = pcU (frM (mrX T n X2) a n) n := by
        have := pcU_mono (x := 0) (y := frM (mrX T n X2) a n) (fun i hi => by simp at hi) n
        omega
      have := pcU_eq (x := 0) (fun i hi => by simp at hi) n h0 a ha
      rw [from_bit.mpr ⟨ha, RE_refl⟩] at this
      simp at this
    | succ m ih =>
      intro a ha hda hp
      by_cases hc : dif (dif (frM (mrX T n X2) a n) dn) (frM (mrX T n X2) a n &&& mrX T n X2 a) = 0
      · exact ⟨a, ha, hda, hc⟩
      · rw [inn_dif] at hc
        obtain ⟨c, hcc⟩ := Classical.not_forall.mp hc
        obtain ⟨hcb, hno⟩ := Classical.not_imp.mp hcc
        rw [dif_bit, Bool.and_eq_true, from_bit, Bool.not_eq_true'] at hcb
        obtain ⟨⟨h1, h2⟩, h3⟩ := hcb
        have hsub : inn (frM (mrX T n X2) c n) (frM (mrX T n X2) a n) := fun i hi => by
          obtain ⟨q1, q2⟩ := from_bit.mp hi
          exact from_bit.mpr ⟨q1, RE_tr hT q1 q2 h2⟩
        have hlt : pcU (frM (mrX T n X2) c n) n < pcU (frM (mrX T n X2) a n) n := by
          have := pcU_mono hsub n
          rcases Nat.lt_or_ge (pcU (frM (mrX T n X2) c n) n) (pcU (frM (mrX T n X2) a n) n) with q | q
          · exact q
          · exfalso
            have e := pcU_eq hsub n (by omega) a ha
            rw [from_bit.mpr ⟨ha, RE_refl⟩] at e
            exact hno ((both_bit ha).mpr ⟨h1, (from_bit.mp e).2, h2⟩)
        exact ih c h1 h3 (by omega)
  intro m a ha hda hp
  obtain ⟨j, j1, j2, j3⟩ := key m a ha hda hp
  cases ho : nxU (mrX T n X2) n dn n with
  | none => exact absurd ⟨j2, j3⟩ ((nxU_spec (n := n) (X := mrX T n X2) (dn := dn) n (Nat.le_refl n)).1 ho j (by omega) j1)
  | some i => exact ⟨i, rfl⟩
theorem not_full {dn : Nat} (h : dn < 2 ^ n) (hne : dn ≠ 2 ^ n - 1) : ∃ a, a < n ∧ dn.testBit a = false := by
  obtain ⟨a, h1, h2, -⟩ := sup_one (n := n) (x := dn) (y := 2 ^ n - 1) (by have := Nat.one_le_two_pow (n := n); omega) (fun i hi => by rw [ev_bit, decide_eq_true_eq]; exact bit_lt h hi) hne
  exact ⟨a, h1, h2⟩
theorem mn_cld (hT : ∀ a, T a < 2 ^ n) (C : Nat → Int32) : ∀ k, CLD T n (mnS (mrX T n X2) n C k).2 := by
  intro k
  induction k with
  | zero => exact ⟨Nat.two_pow_pos n, fun b c _ hb => by simp [mnS] at hb⟩
  | succ k ih =>
    simp only [mnS]
    cases ho : nxU (mrX T n X2) n (mnS (mrX T n X2) n C k).2 n with
    | none => exact ih
    | some j =>
      obtain ⟨-, j2, j3, -⟩ := (nxU_spec (n := n) (X := mrX T n X2) n (Nat.le_refl n)).2 j ho
      exact cld_step hT ih j2 j3.2
theorem hok_ok (hT : ∀ a, T a < 2 ^ n) (C : Nat → Int32) : ∀ k, (mnS (mrX T n X2) n C k).2 ≠ 2 ^ n - 1 → ∃ a, nxU (mrX T n X2) n (mnS (mrX T n X2) n C k).2 n = some a ∧ ((frM (mrX T n X2) a n &&& (mrX T n X2) a).testBit a = true ∧ frM (mrX T n X2) a n &&& (mrX T n X2) a < 2 ^ n) := by
  intro k hne
  obtain ⟨a, ha, hda⟩ := not_full (mn_cld hT C k).1 hne
  obtain ⟨j, hj⟩ := next_ex (X2 := X2) hT (pcU (frM (mrX T n X2) a n) n) a ha hda (Nat.le_refl _)
  have hjn := (NX_lt (Nat.le_refl n) hj).1
  exact ⟨j, hj, both_self hjn, both_lt⟩
end Ring
