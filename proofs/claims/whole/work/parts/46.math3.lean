/-! Class and reference agree: the kinds, together -/
theorem ev1 {n : Nat} : 2 ^ n - 1 + 1 = 2 ^ n := by
  have := Nat.one_le_two_pow (n := n)
  omega
theorem ovw_at {f g : Nat → Nat} {i x : Nat} (h : x < i) : ovw f g i x = g x := by simp [ovw, h]
theorem dif_ev_lt {n x : Nat} : dif (2 ^ n - 1) x < 2 ^ n := by
  have := dif_le (2 ^ n - 1) x
  have := Nat.one_le_two_pow (n := n)
  omega
theorem own_bits {n : Nat} {T U : Nat → Nat} (h : CON n T U) (TS : Nat → Nat) {x : Nat} (hx : x < 2 ^ n) :
    (ownM (ovw TS (fun y => tgU T y n) (2 ^ n)) (2 ^ n - 1) x).testBit 5 = frB T n x ∧
    (ownM (ovw TS (fun y => tgU T y n) (2 ^ n)) (2 ^ n - 1) x).testBit 4 = adB T U n x ∧
    (ownM (ovw TS (fun y => tgU T y n) (2 ^ n)) (2 ^ n - 1) x).testBit 0 = (adB T U n x && (dfM U (tgU T x n) n == x)) ∧
    (ownM (ovw TS (fun y => tgU T y n) (2 ^ n)) (2 ^ n - 1) x).testBit 2 = (frB T n x && ((x ||| tgU T x n) == 2 ^ n - 1)) ∧
    (∀ c, c = 1 ∨ c = 3 ∨ c = 6 ∨ c = 7 → (ownM (ovw TS (fun y => tgU T y n) (2 ^ n)) (2 ^ n - 1) x).testBit c = false) := by
  unfold ownM
  rw [ovw_at (f := TS) (g := fun y => tgU T y n) hx, ovw_at (f := TS) (g := fun y => tgU T y n) dif_ev_lt]
  have e1 : dif (2 ^ n - 1) (tgU T (dif (2 ^ n - 1) (tgU T x n)) n) = dfd T n x := rfl
  simp only [e1, frB, adB, dfd_dfM h, Nat.or_comm (tgU T x n) x]
  by_cases h1 : tgU T x n &&& x = 0
  · have h1' : (tgU T x n &&& x == 0) = true := by simpa using h1
    by_cases h2 : x = dfd T n x
    · have h3 : dif x (dfd T n x) = 0 := by rw [← h2]; exact inn_dif.mpr (inn_refl x)
      have h3' : (dif x (dfd T n x) == 0) = true := by simpa using h3
      have h2' : (dfd T n x == x) = true := by simpa using h2.symm
      by_cases h4 : x ||| tgU T x n = 2 ^ n - 1
      · have h4' : (x ||| tgU T x n == 2 ^ n - 1) = true := by simpa using h4
        rw [if_neg (by simpa using h1), if_pos h2, if_pos h3, if_pos h4, h1', h3', h2', h4']
        refine ⟨by decide, by decide, by decide, by decide, ?_⟩
        rintro c (e | e | e | e) <;> subst e <;> decide
      · have h4' : (x ||| tgU T x n == 2 ^ n - 1) = false := by simpa using h4
        rw [if_neg (by simpa using h1), if_pos h2, if_pos h3, if_neg h4, h1', h3', h2', h4']
        refine ⟨by decide, by decide, by decide, by decide, ?_⟩
        rintro c (e | e | e | e) <;> subst e <;> decide
    · have h2' : (dfd T n x == x) = false := by simpa using fun q => h2 q.symm
      by_cases h3 : dif x (dfd T n x) = 0
      · have h3' : (dif x (dfd T n x) == 0) = true := by simpa using h3
        by_cases h4 : x ||| tgU T x n = 2 ^ n - 1
        · have h4' : (x ||| tgU T x n == 2 ^ n - 1) = true := by simpa using h4
          rw [if_neg (by simpa using h1), if_neg h2, if_pos h3, if_pos h4, h1', h3', h2', h4']
          refine ⟨by decide, by decide, by decide, by decide, ?_⟩
          rintro c (e | e | e | e) <;> subst e <;> decide
        · have h4' : (x ||| tgU T x n == 2 ^ n - 1) = false := by simpa using h4
          rw [if_neg (by simpa using h1), if_neg h2, if_pos h3, if_neg h4, h1', h3', h2', h4']
          refine ⟨by decide, by decide, by decide, by decide, ?_⟩
          rintro c (e | e | e | e) <;> subst e <;> decide
      · have h3' : (dif x (dfd T n x) == 0) = false := by simpa using h3
        by_cases h4 : x ||| tgU T x n = 2 ^ n - 1
        · have h4' : (x ||| tgU T x n == 2 ^ n - 1) = true := by simpa using h4
          rw [if_neg (by simpa using h1), if_neg h2, if_neg h3, if_pos h4, h1', h3', h2', h4']
          refine ⟨by decide, by decide, by decide, by decide, ?_⟩
          rintro c (e | e | e | e) <;> subst e <;> decide
        · have h4' : (x ||| tgU T x n == 2 ^ n - 1) = false := by simpa using h4
          rw [if_neg (by simpa using h1), if_neg h2, if_neg h3, if_neg h4, h1', h3', h2', h4']
          refine ⟨by decide, by decide, by decide, by decide, ?_⟩
          rintro c (e | e | e | e) <;> subst e <;> decide
  · rw [if_pos h1]
    have h1' : (tgU T x n &&& x == 0) = false := by simpa using h1
    rw [h1']
    refine ⟨by simp, by simp, by simp, by simp, ?_⟩
    rintro c (e | e | e | e) <;> subst e <;> decide
theorem kd2_bits {T U : Nat → Nat} {n x : Nat} :
    (kd2 T U n x).testBit 4 = adB T U n x ∧ (kd2 T U n x).testBit 0 = (adB T U n x && (dfM U (tgU T x n) n == x)) ∧ (kd2 T U n x).testBit 2 = (frB T n x && ((x ||| tgU T x n) == 2 ^ n - 1)) ∧ (kd2 T U n x).testBit 1 = false ∧ (kd2 T U n x).testBit 3 = false := by
  unfold kd2
  cases (frB T n x && ((x ||| tgU T x n) == 2 ^ n - 1)) <;> cases (dfM U (tgU T x n) n == x) <;> cases adB T U n x <;> decide
/-- the range of a conflict-free set -/
def rgB (T : Nat → Nat) (n : Nat) (r : Nat) : Prop := ∃ x, x < 2 ^ n ∧ frB T n x = true ∧ x ||| tgU T x n = r
/-- what the five kinds are -/
def KIND (T U : Nat → Nat) (n x : Nat) : Nat → Prop
  | 0 => adB T U n x = true ∧ dfM U (tgU T x n) n = x
  | 1 => adB T U n x = true ∧ ¬ SUP (adB T U n) (2 ^ n) x
  | 2 => frB T n x = true ∧ x ||| tgU T x n = 2 ^ n - 1
  | 3 => frB T n x = true ∧ ¬ ∃ r, r < 2 ^ n ∧ rgB T n r ∧ inn (x ||| tgU T x n) r ∧ x ||| tgU T x n ≠ r
  | 4 => adB T U n x = true
  | _ => False
theorem SUP_eq {F G : Nat → Bool} {m x : Nat} (h : ∀ y, y < m → F y = G y) : SUP F m x ↔ SUP G m x := by
  constructor
  · rintro ⟨y, h1, h2, h3⟩; exact ⟨y, h1, by rw [← h y h1]; exact h2, h3⟩
  · rintro ⟨y, h1, h2, h3⟩; exact ⟨y, h1, by rw [h y h1]; exact h2, h3⟩
theorem rg_lt {n x : Nat} {T : Nat → Nat} (hT : ∀ a, T a < 2 ^ n) (hx : x < 2 ^ n) : x ||| tgU T x n < 2 ^ n := Nat.or_lt_two_pow hx (tgU_lt2 hT x n)
theorem ln_kind {n : Nat} {T U : Nat → Nat} (h : CON n T U) (TS M P : Nat → Nat) {x : Nat} (hx : x < 2 ^ n) : ∀ k, k < 5 → ((lnM false T n TS M P x).testBit k = true ↔ KIND T U n x k) := by
  have hev : 2 ^ n - 1 + 1 = 2 ^ n := ev1
  have ho := fun y (hy : y < 2 ^ n) => own_bits h TS hy
  have hM1 : ∀ y, y < 2 ^ n → lnM1 T n TS M y = ownM (ovw TS (fun y => tgU T y n) (2 ^ n)) (2 ^ n - 1) y := fun y hy => by
    unfold lnM1; rw [hev]; exact ovw_at hy
  obtain ⟨a1, a2, -, -⟩ := tp_spec (a := 4) (b := 1) (M0 := lnM1 T n TS M) (P0 := P) (ev := 2 ^ n - 1) (by decide) (2 ^ n - 1 + 1) (Nat.le_refl _)
  change ∀ x c, c ≠ 1 → ((lnA T n TS M P).1 x).testBit c = _ at a1
  change ∀ x, ((lnA T n TS M P).1 x).testBit 1 = true ↔ _ at a2
  obtain ⟨r1, r2⟩ := rg_spec (TS := ovw TS (fun x => tgU T x n) (2 ^ n)) (M := (lnA T n TS M P).1) (2 ^ n - 1 + 1)
  obtain ⟨b1, b2, -, -⟩ := tp_spec (a := 6) (b := 7) (M0 := rgS (ovw TS (fun x => tgU T x n) (2 ^ n)) (lnA T n TS M P).1 (2 ^ n - 1 + 1)) (P0 := (lnA T n TS M P).2.1) (ev := 2 ^ n - 1) (by decide) (2 ^ n - 1 + 1) (Nat.le_refl _)
  change ∀ x c, c ≠ 7 → ((lnB T n TS M P).1 x).testBit c = _ at b1
  change ∀ x, ((lnB T n TS M P).1 x).testBit 7 = true ↔ _ at b2
  obtain ⟨s1, s2⟩ := st_spec (TS := ovw TS (fun x => tgU T x n) (2 ^ n)) (M := (lnB T n TS M P).1) (2 ^ n - 1 + 1)
  have hF : ∀ y, y < 2 ^ n → ((lnM1 T n TS M y).testBit 4) = adB T U n y := fun y hy => by rw [hM1 y hy]; exact (ho y hy).2.1
  have hlow : ∀ c, c ≠ 3 → c ≠ 7 → c ≠ 6 → c ≠ 1 → (lnM false T n TS M P x).testBit c = (ownM (ovw TS (fun y => tgU T y n) (2 ^ n)) (2 ^ n - 1) x).testBit c := by
    intro c h3 h7 h6 h1
    show (stS _ _ _ x).testBit c = _
    rw [s1 x c h3, b1 x c h7, r1 x c h6, a1 x c h1, hM1 x hx]
  have h51 : ∀ y, y < 2 ^ n → ((lnA T n TS M P).1 y).testBit 5 = frB T n y := fun y hy => by rw [a1 y 5 (by decide), hM1 y hy]; exact (ho y hy).1
  have h61 : ∀ y, y < 2 ^ n → ((rgS (ovw TS (fun x => tgU T x n) (2 ^ n)) (lnA T n TS M P).1 (2 ^ n - 1 + 1) y).testBit 6 = true ↔ rgB T n y) := by
    intro y hy
    rw [r2 y, a1 y 6 (by decide), hM1 y hy, (ho y hy).2.2.2.2 6 (by decide)]
    constructor
    · rintro (q | ⟨z, h1, h2, h3⟩)
      · cases q
      · have hz : z < 2 ^ n := by omega
        rw [ovw_at hz] at h3
        rw [h51 z hz] at h2
        exact ⟨z, hz, h2, h3⟩
    · rintro ⟨z, hz, h2, h3⟩
      exact Or.inr ⟨z, by omega, by rw [h51 z hz]; exact h2, by rw [ovw_at hz]; exact h3⟩
  intro k hk
  rcases (show k = 0 ∨ k = 1 ∨ k = 2 ∨ k = 3 ∨ k = 4 by omega) with e | e | e | e | e <;> subst e
  · rw [hlow 0 (by decide) (by decide) (by decide) (by decide), (ho x hx).2.2.1]
    simp [KIND]
  · show (stS _ _ _ x).testBit 1 = true ↔ _
    rw [s1 x 1 (by decide), b1 x 1 (by decide), r1 x 1 (by decide), a2 x, hM1 x hx, (ho x hx).2.2.2.2 1 (by decide), ← hM1 x hx, hF x hx, hev, SUP_eq hF]
    simp only [KIND]
    constructor
    · rintro (q | ⟨-, -, h1, h2⟩)
      · cases q
      · exact ⟨h1, h2⟩
    · rintro ⟨h1, h2⟩
      exact Or.inr ⟨by omega, by omega, h1, h2⟩
  · rw [hlow 2 (by decide) (by decide) (by decide) (by decide), (ho x hx).2.2.2.1]
    simp [KIND]
  · show (stS _ _ _ x).testBit 3 = true ↔ _
    have hr := rg_lt h.1 hx
    rw [s2 x, b1 x 3 (by decide), r1 x 3 (by decide), a1 x 3 (by decide), hM1 x hx, (ho x hx).2.2.2.2 3 (by decide), b1 x 5 (by decide), r1 x 5 (by decide), h51 x hx, ovw_at hx, hev]
    simp only [Bool.false_or, Bool.and_eq_true, decide_eq_true_eq, KIND]
    rw [b2 (x ||| tgU T x n), hev]
    have hbit7 : (rgS (ovw TS (fun x => tgU T x n) (2 ^ n)) (lnA T n TS M P).1 (2 ^ n) (x ||| tgU T x n)).testBit 7 = false := by
      have := r1 (x ||| tgU T x n) 7 (by decide)
      rw [hev] at this
      rw [this, a1 _ 7 (by decide), hM1 _ hr, (ho _ hr).2.2.2.2 7 (by decide)]
    rw [hbit7]
    rw [hev] at h61
    constructor
    · rintro ⟨-, h1, q | ⟨-, -, h2, h3⟩⟩
      · cases q
      · refine ⟨h1, fun ⟨r, q1, q2, q3, q4⟩ => h3 ⟨r, q1, (h61 r q1).mpr q2, q3, q4⟩⟩
    · rintro ⟨h1, h2⟩
      refine ⟨hx, h1, Or.inr ⟨by omega, by omega, (h61 _ hr).mpr ⟨x, hx, h1, rfl⟩, ?_⟩⟩
      rintro ⟨r, q1, q2, q3, q4⟩
      exact h2 ⟨r, q1, (h61 r q1).mp q2, q3, q4⟩
  · rw [hlow 4 (by decide) (by decide) (by decide) (by decide), (ho x hx).2.1]
    simp [KIND]
theorem kdU_bit {KD : Nat → Nat} {tst : Nat → Bool} {k i x c : Nat} (hx : x < i) : (kdU KD tst k i x).testBit c = ((KD x).testBit c || (tst x && decide (k = c))) := by
  unfold kdU
  cases ht : tst x with
  | false => simp
  | true => simp [hx, Nat.testBit_two_pow]
theorem rk_kind {n : Nat} {T U : Nat → Nat} (h : CON n T U) (HI KD : Nat → Nat) (HE AV : Nat → Bool) {x : Nat} (hx : x < 2 ^ n) : ∀ k, k < 5 → ((rkK3 T U n HI KD HE AV x).testBit k = true ↔ KIND T U n x k) := by
  have hev : 2 ^ n - 1 + 1 = 2 ^ n := ev1
  have hK1 : ∀ y, y < 2 ^ n → rkK1 T U n KD y = kd2 T U n y := fun y hy => by unfold rkK1; rw [hev]; exact ovw_at hy
  have hH : ∀ y, y < 2 ^ n → rkH T n HI y = tgU T y n := fun y hy => by unfold rkH; rw [hev]; exact ovw_at hy
  have hE1 : ∀ y, y < 2 ^ n → rkE1 T U n HE y = adB T U n y := fun y hy => by unfold rkE1; rw [hev]; exact ovB_lt hy
  have hA1 : ∀ y, y < 2 ^ n → (rkA1 T U n HE AV y = true ↔ SUP (adB T U n) (2 ^ n) y) := fun y hy => by
    unfold rkA1; rw [hev, la_spec (2 ^ n) (Nat.le_refl _) y hy (by omega)]; exact SUP_eq hE1
  have hE3 : ∀ y, y < 2 ^ n → (rkE3 T U n HI HE y = true ↔ rgB T n y) := fun y hy => by
    unfold rkE3; rw [rn_spec, hev]
    have : rkE2 T U n HE y = false := by unfold rkE2; rw [hev]; exact ovB_lt hy
    rw [this]
    constructor
    · rintro (q | ⟨z, h1, h2, h3⟩)
      · cases q
      · rw [hH z h1] at h2 h3; exact ⟨z, h1, h2, h3⟩
    · rintro ⟨z, h1, h2, h3⟩
      exact Or.inr ⟨z, h1, by rw [hH z h1]; exact h2, by rw [hH z h1]; exact h3⟩
  have hA2 : ∀ y, y < 2 ^ n → (rkA2 T U n HI HE AV y = true ↔ ∃ r, r < 2 ^ n ∧ rgB T n r ∧ inn y r ∧ y ≠ r) := fun y hy => by
    unfold rkA2; rw [hev, la_spec (2 ^ n) (Nat.le_refl _) y hy (by omega)]
    constructor
    · rintro ⟨r, h1, h2, h3⟩; exact ⟨r, h1, (hE3 r h1).mp h2, h3⟩
    · rintro ⟨r, h1, h2, h3⟩; exact ⟨r, h1, (hE3 r h1).mpr h2, h3⟩
  have hr := rg_lt h.1 hx
  obtain ⟨k4, k0, k2, k1, k3⟩ := kd2_bits (T := T) (U := U) (n := n) (x := x)
  intro k hk
  unfold rkK3
  rw [hev, kdU_bit hx]
  unfold rkK2
  rw [hev, kdU_bit hx, hK1 x hx, hH x hx]
  rcases (show k = 0 ∨ k = 1 ∨ k = 2 ∨ k = 3 ∨ k = 4 by omega) with e | e | e | e | e <;> subst e
  · rw [k0]; simp [KIND]
  · rw [k1, hE1 x hx]
    simp only [KIND, Bool.false_or, Bool.and_eq_true, Bool.or_eq_true, decide_eq_true_eq, Bool.not_eq_true']
    rw [← hA1 x hx]
    simp
  · rw [k2]; simp [KIND]
  · rw [k3]
    simp only [KIND]
    rw [← hA2 _ hr]
    simp [frB]
  · rw [k4]; simp [KIND]
/-- the class's kinds are the reference's -/
theorem kinds_eq {n : Nat} {T U : Nat → Nat} (h : CON n T U) (TS M P HI KD : Nat → Nat) (HE AV : Nat → Bool) {x : Nat} (hx : x < 2 ^ n) {k : Nat} (hk : k < 5) : (lnM false T n TS M P x).testBit k = (rkK3 T U n HI KD HE AV x).testBit k := by
  rw [Bool.eq_iff_iff, ln_kind h TS M P hx k hk, rk_kind h HI KD HE AV hx k hk]
