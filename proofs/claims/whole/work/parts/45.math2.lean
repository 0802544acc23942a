/-! Class and reference agree: the kinds -/
/-- there is a set strictly above x, below m as a number, for which F holds -/
def SUP (F : Nat → Bool) (m x : Nat) : Prop := ∃ y, y < m ∧ F y = true ∧ inn x y ∧ x ≠ y
theorem sup_lt {x y : Nat} (h : inn x y) (hne : x ≠ y) : x < y := by
  have := inn_le h
  omega
theorem tp_spec {a b : Nat} {M0 P0 : Nat → Nat} {ev : Nat} (hab : a ≠ b) : ∀ d, d ≤ ev + 1 →
    (∀ x c, c ≠ b → ((tpS (2 ^ a) (2 ^ b) M0 P0 ev d).1 x).testBit c = (M0 x).testBit c) ∧
    (∀ x, ((tpS (2 ^ a) (2 ^ b) M0 P0 ev d).1 x).testBit b = true ↔ (M0 x).testBit b = true ∨ (ev + 1 - d ≤ x ∧ x ≤ ev ∧ (M0 x).testBit a = true ∧ ¬ SUP (fun y => (M0 y).testBit a) (ev + 1) x)) ∧
    (∀ j, j < (tpS (2 ^ a) (2 ^ b) M0 P0 ev d).2.2 → ev + 1 - d ≤ (tpS (2 ^ a) (2 ^ b) M0 P0 ev d).2.1 j ∧ (tpS (2 ^ a) (2 ^ b) M0 P0 ev d).2.1 j ≤ ev ∧ (M0 ((tpS (2 ^ a) (2 ^ b) M0 P0 ev d).2.1 j)).testBit a = true) ∧
    (∀ x, ev + 1 - d ≤ x → x ≤ ev → (M0 x).testBit a = true → ∃ j, j < (tpS (2 ^ a) (2 ^ b) M0 P0 ev d).2.2 ∧ inn x ((tpS (2 ^ a) (2 ^ b) M0 P0 ev d).2.1 j)) := by
  intro d
  induction d with
  | zero =>
    intro _
    refine ⟨fun x c _ => rfl, fun x => ⟨Or.inl, ?_⟩, fun j hj => absurd hj (Nat.not_lt_zero _), fun x h1 h2 => by omega⟩
    rintro (h | ⟨h1, h2, -⟩)
    · exact h
    · omega
  | succ d ih =>
    intro hd
    obtain ⟨i1, i2, i3, i4⟩ := ih (by omega)
    have hx : ev - d = ev + 1 - (d + 1) := by omega
    have hnt : ntU (tpS (2 ^ a) (2 ^ b) M0 P0 ev d).2.1 (ev - d) (tpS (2 ^ a) (2 ^ b) M0 P0 ev d).2.2 = true ↔ ¬ SUP (fun y => (M0 y).testBit a) (ev + 1) (ev - d) := by
      rw [ntU_t]
      constructor
      · rintro h ⟨y, hy, hf, hi, hne⟩
        have := sup_lt hi hne
        obtain ⟨j, hj, hin⟩ := i4 y (by omega) (by omega) hf
        exact h j hj (inn_trans hi hin)
      · intro h j hj hin
        obtain ⟨h1, h2, h3⟩ := i3 j hj
        exact h ⟨_, by omega, h3, hin, by omega⟩
    have hmk : ((tpS (2 ^ a) (2 ^ b) M0 P0 ev d).1 (ev - d) &&& 2 ^ a != 0) = (M0 (ev - d)).testBit a := by
      rw [bit_and, i1 _ _ hab]
    by_cases hm : (M0 (ev - d)).testBit a = true
    · by_cases hn : ntU (tpS (2 ^ a) (2 ^ b) M0 P0 ev d).2.1 (ev - d) (tpS (2 ^ a) (2 ^ b) M0 P0 ev d).2.2 = true
      · rw [tpS_y (by rw [hmk]; exact hm) hn]
        refine ⟨fun x c hc => ?_, fun x => ?_, fun j hj => ?_, fun x h1 h2 h3 => ?_⟩
        · show Nat.testBit (va_up _ _ _ x) c = _
          by_cases e : x = ev - d
          · subst e; rw [up_at, Nat.testBit_or, i1 _ _ hc, Nat.testBit_two_pow]; simp [Ne.symm hc]
          · rw [up_ne e, i1 _ _ hc]
        · show Nat.testBit (va_up _ _ _ x) b = true ↔ _
          by_cases e : x = ev - d
          · subst e; rw [up_at, Nat.testBit_or, Nat.testBit_two_pow_self, Bool.or_true]
            exact ⟨fun _ => Or.inr ⟨by omega, by omega, hm, hnt.mp hn⟩, fun _ => rfl⟩
          · rw [up_ne e, i2 x]
            constructor
            · rintro (h | ⟨h1, h2, h3⟩)
              · exact Or.inl h
              · exact Or.inr ⟨by omega, h2, h3⟩
            · rintro (h | ⟨h1, h2, h3⟩)
              · exact Or.inl h
              · exact Or.inr ⟨by omega, h2, h3⟩
        · show ev + 1 - (d + 1) ≤ va_up _ _ _ j ∧ va_up _ _ _ j ≤ ev ∧ (M0 (va_up _ _ _ j)).testBit a = true
          by_cases e : j = (tpS (2 ^ a) (2 ^ b) M0 P0 ev d).2.2
          · subst e; rw [up_at]; exact ⟨by omega, by omega, hm⟩
          · rw [up_ne e]
            have hj2 : j < (tpS (2 ^ a) (2 ^ b) M0 P0 ev d).2.2 + 1 := hj
            obtain ⟨h1, h2, h3⟩ := i3 j (by omega)
            exact ⟨by omega, h2, h3⟩
        · show ∃ j, j < (tpS (2 ^ a) (2 ^ b) M0 P0 ev d).2.2 + 1 ∧ inn x (va_up _ _ _ j)
          by_cases e : x = ev - d
          · refine ⟨(tpS (2 ^ a) (2 ^ b) M0 P0 ev d).2.2, by omega, ?_⟩
            rw [up_at, e]; exact inn_refl _
          · obtain ⟨j, hj, hin⟩ := i4 x (by omega) h2 h3
            refine ⟨j, by omega, ?_⟩
            rw [up_ne (by omega)]; exact hin
      · rw [tpS_n2 (by simpa using hn)]
        refine ⟨i1, fun x => ?_, fun j hj => ?_, fun x h1 h2 h3 => ?_⟩
        · rw [i2 x]
          constructor
          · rintro (h | ⟨h1, h2, h3⟩)
            · exact Or.inl h
            · exact Or.inr ⟨by omega, h2, h3⟩
          · rintro (h | ⟨h1, h2, h3, h4⟩)
            · exact Or.inl h
            · by_cases e : x = ev - d
              · subst e; exact absurd (hnt.mpr h4) hn
              · exact Or.inr ⟨by omega, h2, h3, h4⟩
        · obtain ⟨h1, h2, h3⟩ := i3 j hj
          exact ⟨by omega, h2, h3⟩
        · by_cases e : x = ev - d
          · subst e
            by_cases hs : SUP (fun y => (M0 y).testBit a) (ev + 1) (ev - d)
            · obtain ⟨y, hy, hf, hi, hne⟩ := hs
              have := sup_lt hi hne
              obtain ⟨j, hj, hin⟩ := i4 y (by omega) (by omega) hf
              exact ⟨j, hj, inn_trans hi hin⟩
            · exact absurd (hnt.mpr hs) hn
          · exact i4 x (by omega) h2 h3
    · rw [tpS_n1 (by rw [hmk]; simpa using hm)]
      refine ⟨i1, fun x => ?_, fun j hj => ?_, fun x h1 h2 h3 => ?_⟩
      · rw [i2 x]
        constructor
        · rintro (h | ⟨h1, h2, h3⟩)
          · exact Or.inl h
          · exact Or.inr ⟨by omega, h2, h3⟩
        · rintro (h | ⟨h1, h2, h3, h4⟩)
          · exact Or.inl h
          · by_cases e : x = ev - d
            · subst e; exact absurd h3 hm
            · exact Or.inr ⟨by omega, h2, h3, h4⟩
      · obtain ⟨h1, h2, h3⟩ := i3 j hj
        exact ⟨by omega, h2, h3⟩
      · by_cases e : x = ev - d
        · subst e; exact absurd h3 hm
        · exact i4 x (by omega) h2 h3
/-- a strict superset has one more element -/
theorem sup_one {n x y : Nat} (hy : y < 2 ^ n) (h : inn x y) (hne : x ≠ y) : ∃ a, a < n ∧ x.testBit a = false ∧ y.testBit a = true := by
  rcases Classical.em (∃ a, x.testBit a = false ∧ y.testBit a = true) with ⟨a, h1, h2⟩ | hno
  · exact ⟨a, bit_lt hy h2, h1, h2⟩
  · exfalso; apply hne
    apply inn_anti h
    intro i hi
    cases hx : x.testBit i with
    | true => rfl
    | false => exact absurd ⟨i, hx, hi⟩ hno
theorem or_pow_bit {x a i : Nat} : (x ||| 2 ^ a).testBit i = (x.testBit i || decide (a = i)) := by
  rw [Nat.testBit_or, Nat.testBit_two_pow]
theorem laI_ex {HE V : Nat → Bool} {x : Nat} : ∀ {i : Nat}, laI HE V x i = true ↔ ∃ a, a < i ∧ x ||| 2 ^ a ≠ x ∧ (HE (x ||| 2 ^ a) = true ∨ V (x ||| 2 ^ a) = true) := by
  intro i
  induction i with
  | zero => simp [laI]
  | succ i ih =>
    simp only [laI, Bool.or_eq_true, Bool.and_eq_true, bne_iff_ne, ih]
    constructor
    · rintro (⟨a, h1, h2⟩ | ⟨h1, h2⟩)
      · exact ⟨a, by omega, h2⟩
      · exact ⟨i, by omega, h1, h2⟩
    · rintro ⟨a, h1, h2, h3⟩
      by_cases e : a = i
      · subst e; exact Or.inr ⟨h2, h3⟩
      · exact Or.inl ⟨a, by omega, h2, h3⟩
theorem la_spec {HE AV : Nat → Bool} {n : Nat} : ∀ d, d ≤ 2 ^ n → ∀ x, x < 2 ^ n → 2 ^ n - d ≤ x → (laO HE AV n d x = true ↔ SUP HE (2 ^ n) x) := by
  intro d
  induction d with
  | zero => intro _ x h1 h2; omega
  | succ d ih =>
    intro hd x hx1 hx2
    have hV := ih (by omega)
    show (va_up (laO HE AV n d) (2 ^ n - 1 - d) (laI HE (laO HE AV n d) (2 ^ n - 1 - d) n) x = true) ↔ _
    by_cases e : x = 2 ^ n - 1 - d
    · rw [← e, up_at, laI_ex]
      constructor
      · rintro ⟨a, ha, hne, h⟩
        have hlt := or_ne_lt hx1 ha
        have hi : inn x (x ||| 2 ^ a) := fun i hi => by rw [or_pow_bit, hi]; rfl
        rcases h with h | h
        · exact ⟨_, hlt, h, hi, fun q => hne q.symm⟩
        · have := sup_lt hi (fun q => hne q.symm)
          obtain ⟨y, h1, h2, h3, h4⟩ := (hV _ hlt (by omega)).mp h
          refine ⟨y, h1, h2, inn_trans hi h3, fun q => ?_⟩
          subst q
          exact h4 (inn_anti h3 hi)
      · rintro ⟨y, h1, h2, h3, h4⟩
        obtain ⟨a, ha, hxa, hya⟩ := sup_one h1 h3 h4
        have hne : x ||| 2 ^ a ≠ x := fun q => by
          have := congrArg (fun z => z.testBit a) q
          simp [or_pow_bit, hxa] at this
        have hlt := or_ne_lt hx1 ha
        have hi : inn x (x ||| 2 ^ a) := fun i hi => by rw [or_pow_bit, hi]; rfl
        refine ⟨a, ha, hne, ?_⟩
        by_cases q : x ||| 2 ^ a = y
        · left; rw [q]; exact h2
        · right
          have := sup_lt hi (fun q => hne q.symm)
          refine (hV _ hlt (by omega)).mpr ⟨y, h1, h2, fun i hi => ?_, q⟩
          rw [or_pow_bit, Bool.or_eq_true, decide_eq_true_eq] at hi
          rcases hi with hi | hi
          · exact h3 i hi
          · subst hi; exact hya
    · rw [up_ne e]
      exact hV x hx1 (by omega)
theorem rn_spec {HI : Nat → Nat} {HE : Nat → Bool} : ∀ i r, rnB HI HE i r = true ↔ HE r = true ∨ ∃ x, x < i ∧ (HI x &&& x == 0) = true ∧ x ||| HI x = r := by
  intro i
  induction i with
  | zero => intro r; simp [rnB]
  | succ i ih =>
    intro r
    simp only [rnB]
    by_cases hc : (HI i &&& i == 0) = true
    · rw [if_pos hc]
      by_cases e : r = i ||| HI i
      · rw [e, up_at]
        exact ⟨fun _ => Or.inr ⟨i, by omega, hc, rfl⟩, fun _ => rfl⟩
      · rw [up_ne e, ih]
        constructor
        · rintro (h | ⟨x, h1, h2⟩)
          · exact Or.inl h
          · exact Or.inr ⟨x, by omega, h2⟩
        · rintro (h | ⟨x, h1, h2, h3⟩)
          · exact Or.inl h
          · by_cases q : x = i
            · subst q; exact absurd h3.symm e
            · exact Or.inr ⟨x, by omega, h2, h3⟩
    · rw [if_neg hc, ih]
      constructor
      · rintro (h | ⟨x, h1, h2⟩)
        · exact Or.inl h
        · exact Or.inr ⟨x, by omega, h2⟩
      · rintro (h | ⟨x, h1, h2, h3⟩)
        · exact Or.inl h
        · by_cases q : x = i
          · subst q; exact absurd h2 hc
          · exact Or.inr ⟨x, by omega, h2, h3⟩
theorem and32 {m : Nat} : (m &&& 32 != 0) = m.testBit 5 := bit_and (k := 5)
theorem and128 {m : Nat} : (m &&& 128 != 0) = m.testBit 7 := bit_and (k := 7)
theorem rg_spec {TS M : Nat → Nat} : ∀ i, (∀ r c, c ≠ 6 → (rgS TS M i r).testBit c = (M r).testBit c) ∧ ∀ r, (rgS TS M i r).testBit 6 = true ↔ (M r).testBit 6 = true ∨ ∃ x, x < i ∧ (M x).testBit 5 = true ∧ x ||| TS x = r := by
  intro i
  induction i with
  | zero => exact ⟨fun _ _ _ => rfl, fun r => by simp [rgS]⟩
  | succ i ih =>
    obtain ⟨i1, i2⟩ := ih
    simp only [rgS, and32, i1 i 5 (by decide)]
    by_cases hc : (M i).testBit 5 = true
    · rw [if_pos hc]
      refine ⟨fun r c hcc => ?_, fun r => ?_⟩
      · by_cases e : r = i ||| TS i
        · rw [e, up_at, show (64 : Nat) = 2 ^ 6 from rfl, or_pow_bit, i1 _ _ hcc]; simp [Ne.symm hcc]
        · rw [up_ne e, i1 _ _ hcc]
      · by_cases e : r = i ||| TS i
        · rw [e, up_at, show (64 : Nat) = 2 ^ 6 from rfl, or_pow_bit]
          simp only [decide_true, Bool.or_true, true_iff]
          exact Or.inr ⟨i, by omega, hc, rfl⟩
        · rw [up_ne e, i2]
          constructor
          · rintro (h | ⟨x, h1, h2⟩)
            · exact Or.inl h
            · exact Or.inr ⟨x, by omega, h2⟩
          · rintro (h | ⟨x, h1, h2, h3⟩)
            · exact Or.inl h
            · by_cases q : x = i
              · subst q; exact absurd h3.symm e
              · exact Or.inr ⟨x, by omega, h2, h3⟩
    · rw [if_neg hc]
      refine ⟨i1, fun r => ?_⟩
      rw [i2]
      constructor
      · rintro (h | ⟨x, h1, h2⟩)
        · exact Or.inl h
        · exact Or.inr ⟨x, by omega, h2⟩
      · rintro (h | ⟨x, h1, h2, h3⟩)
        · exact Or.inl h
        · by_cases q : x = i
          · subst q; exact absurd h2 hc
          · exact Or.inr ⟨x, by omega, h2, h3⟩
theorem st_spec {TS M : Nat → Nat} : ∀ i, (∀ r c, c ≠ 3 → (stS TS M i r).testBit c = (M r).testBit c) ∧ ∀ r, (stS TS M i r).testBit 3 = ((M r).testBit 3 || (decide (r < i) && ((M r).testBit 5 && (M (r ||| TS r)).testBit 7))) := by
  intro i
  induction i with
  | zero => exact ⟨fun _ _ _ => rfl, fun r => by simp [stS]⟩
  | succ i ih =>
    obtain ⟨i1, i2⟩ := ih
    simp only [stS, and32, and128, i1 i 5 (by decide), i1 (i ||| TS i) 7 (by decide)]
    by_cases hc : ((M i).testBit 5 && (M (i ||| TS i)).testBit 7) = true
    · rw [if_pos hc]
      refine ⟨fun r c hcc => ?_, fun r => ?_⟩
      · by_cases e : r = i
        · rw [e, up_at, show (8 : Nat) = 2 ^ 3 from rfl, or_pow_bit, i1 _ _ hcc]; simp [Ne.symm hcc]
        · rw [up_ne e, i1 _ _ hcc]
      · by_cases e : r = i
        · rw [e, up_at, show (8 : Nat) = 2 ^ 3 from rfl, or_pow_bit, hc]
          simp
        · rw [up_ne e, i2]
          by_cases q : r < i
          · simp [q, Nat.lt_succ_of_lt q]
          · simp [q, show ¬ r < i + 1 by omega]
    · rw [if_neg hc]
      refine ⟨i1, fun r => ?_⟩
      rw [i2]
      by_cases e : r = i
      · rw [e, Bool.eq_false_iff.mpr hc]; simp
      · by_cases q : r < i
        · simp [q, Nat.lt_succ_of_lt q]
        · simp [q, show ¬ r < i + 1 by omega]
