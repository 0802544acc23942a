/-! Class and reference agree: the dialogue -/
/-- j is the answer: of the least round, of those the least -/
def LAns (k : Nat) (R : Nat → Nat) (n j : Nat) : Prop := j < n ∧ k.testBit j = true ∧ 0 < R j ∧ ∀ i, i < n → k.testBit i = true → 0 < R i → R j < R i ∨ (R j = R i ∧ j ≤ i)
theorem LAns_one {k : Nat} {R : Nat → Nat} {n i j : Nat} (h : LAns k R n i) (h2 : LAns k R n j) : i = j := by
  have a := h.2.2.2 j h2.1 h2.2.1 h2.2.2.1
  have b := h2.2.2.2 i h.1 h.2.1 h.2.2.1
  omega
theorem LAns_c {k : Nat} {R S : Nat → Nat} {n j : Nat} (hc : ∀ a, a < n → R a = S a) (h : LAns k R n j) : LAns k S n j := by
  obtain ⟨h1, h2, h3, h4⟩ := h
  refine ⟨h1, h2, by rw [← hc j h1]; exact h3, fun i hi hb hp => ?_⟩
  rw [← hc j h1, ← hc i hi]
  exact h4 i hi hb (by rw [hc i hi]; exact hp)
theorem agU_spec {U MR : Nat → Nat} {a n : Nat} : ∀ d, d ≤ n →
    (agU U MR a n d = none → ∀ i, n - d ≤ i → i < n → (U a).testBit i = true → ¬ 0 < MR i) ∧
    (∀ j, agU U MR a n d = some j → n - d ≤ j ∧ j < n ∧ (U a).testBit j = true ∧ 0 < MR j ∧ ∀ i, n - d ≤ i → i < n → (U a).testBit i = true → 0 < MR i → MR j < MR i ∨ (MR j = MR i ∧ j ≤ i)) := by
  intro d
  induction d with
  | zero =>
    intro _
    exact ⟨fun _ i h1 h2 => by omega, fun j h => by simp [agU] at h⟩
  | succ d ih =>
    intro hd
    obtain ⟨i1, i2⟩ := ih (by omega)
    have hv : agU U MR a n (d + 1) = if (U a).testBit (n - 1 - d) = true ∧ 0 < MR (n - 1 - d) ∧ (∀ b, agU U MR a n d = some b → MR (n - 1 - d) ≤ MR b) then some (n - 1 - d) else agU U MR a n d := rfl
    rw [hv]
    by_cases hc : (U a).testBit (n - 1 - d) = true ∧ 0 < MR (n - 1 - d) ∧ (∀ b, agU U MR a n d = some b → MR (n - 1 - d) ≤ MR b)
    · rw [if_pos hc]
      refine ⟨fun q => (by cases q), fun j hj => ?_⟩
      cases hj
      refine ⟨by omega, by omega, hc.1, hc.2.1, fun i h1 h2 hb hp => ?_⟩
      by_cases e : i = n - 1 - d
      · subst e; exact Or.inr ⟨rfl, Nat.le_refl _⟩
      · cases ho : agU U MR a n d with
        | none => exact absurd hp (i1 ho i (by omega) h2 hb)
        | some b =>
          have h3 := hc.2.2 b ho
          have h4 := (i2 b ho).2.2.2.2 i (by omega) h2 hb hp
          omega
    · rw [if_neg hc]
      refine ⟨fun q i h1 h2 hb hp => ?_, fun j hj => ?_⟩
      · by_cases e : i = n - 1 - d
        · subst e
          exact hc ⟨hb, hp, fun b hb2 => by rw [q] at hb2; cases hb2⟩
        · exact i1 q i (by omega) h2 hb hp
      · obtain ⟨j1, j2, j3, j4, j5⟩ := i2 j hj
        refine ⟨by omega, j2, j3, j4, fun i h1 h2 hb hp => ?_⟩
        by_cases e : i = n - 1 - d
        · subst e
          rcases Nat.lt_or_ge (MR j) (MR (n - 1 - d)) with q | q
          · exact Or.inl q
          · exfalso; apply hc
            refine ⟨hb, hp, fun b hb2 => ?_⟩
            rw [hj] at hb2; cases hb2; exact q
        · exact j5 i (by omega) h2 hb hp
theorem ag_LAns {U MR : Nat → Nat} {a n j : Nat} (h : agU U MR a n n = some j) : LAns (U a) MR n j := by
  obtain ⟨h1, h2, h3, h4, h5⟩ := (agU_spec (U := U) (MR := MR) (a := a) n (Nat.le_refl n)).2 j h
  exact ⟨h2, h3, h4, fun i hi hb hp => h5 i (by omega) hi hb hp⟩
theorem LAns_ag {U MR : Nat → Nat} {a n j : Nat} (h : LAns (U a) MR n j) : agU U MR a n n = some j := by
  cases ho : agU U MR a n n with
  | none => exact absurd h.2.2.1 ((agU_spec (U := U) (MR := MR) (a := a) n (Nat.le_refl n)).1 ho j (by omega) h.1 h.2.1)
  | some b => rw [LAns_one (ag_LAns ho) h]
theorem erl_spec {R : Nat → Nat} {k : Nat} : ∀ m, (erl R k m = none → ∀ i, i < m → k.testBit i = false) ∧
    (∀ j, erl R k m = some j → j < m ∧ k.testBit j = true ∧ ∀ i, i < m → k.testBit i = true → R j < R i ∨ (R j = R i ∧ j ≤ i)) := by
  intro m
  induction m with
  | zero => exact ⟨fun _ i h => by omega, fun j h => by cases h⟩
  | succ m ih =>
    obtain ⟨i1, i2⟩ := ih
    cases hb : k.testBit m with
    | false =>
      rw [erl_n1 hb]
      refine ⟨fun q i hi => ?_, fun j hj => ?_⟩
      · by_cases e : i = m
        · subst e; exact hb
        · exact i1 q i (by omega)
      · obtain ⟨j1, j2, j3⟩ := i2 j hj
        refine ⟨by omega, j2, fun i hi hib => ?_⟩
        by_cases e : i = m
        · subst e; rw [hb] at hib; cases hib
        · exact j3 i (by omega) hib
    | true =>
      cases ho : erl R k m with
      | none =>
        rw [erl_y0 hb ho]
        refine ⟨fun q => (by cases q), fun j hj => ?_⟩
        cases hj
        refine ⟨by omega, hb, fun i hi hib => ?_⟩
        by_cases e : i = m
        · subst e; exact Or.inr ⟨rfl, Nat.le_refl _⟩
        · rw [i1 ho i (by omega)] at hib; cases hib
      | some b =>
        obtain ⟨b1, b2, b3⟩ := i2 b ho
        rcases Nat.lt_or_ge (R m) (R b) with hr | hr
        · rw [erl_y1 hb ho hr]
          refine ⟨fun q => (by cases q), fun j hj => ?_⟩
          cases hj
          refine ⟨by omega, hb, fun i hi hib => ?_⟩
          by_cases e : i = m
          · subst e; exact Or.inr ⟨rfl, Nat.le_refl _⟩
          · have := b3 i (by omega) hib
            omega
        · rw [erl_n2 hb ho hr]
          refine ⟨fun q => (by cases q), fun j hj => ?_⟩
          cases hj
          refine ⟨by omega, b2, fun i hi hib => ?_⟩
          by_cases e : i = m
          · subst e; omega
          · exact b3 i (by omega) hib
theorem LAns_er {R : Nat → Nat} {k al n j : Nat} (hn : n ≤ 12) (hal : ∀ i, al.testBit i = true ↔ i < n ∧ 0 < R i) (h : LAns k R n j) : erl R (k &&& al) 12 = some j := by
  have hj : (k &&& al).testBit j = true := by rw [Nat.testBit_and, h.2.1, (hal j).mpr ⟨h.1, h.2.2.1⟩]; rfl
  obtain ⟨h1, h2⟩ := erl_spec (R := R) (k := k &&& al) 12
  have hj12 : j < 12 := Nat.lt_of_lt_of_le h.1 hn
  cases ho : erl R (k &&& al) 12 with
  | none => rw [h1 ho j hj12] at hj; cases hj
  | some b =>
    obtain ⟨b1, b2, b3⟩ := h2 b ho
    rw [Nat.testBit_and, Bool.and_eq_true] at b2
    obtain ⟨c1, c2⟩ := (hal b).mp b2.2
    have x1 := b3 j hj12 hj
    have x2 := h.2.2.2 b c1 b2.1 c2
    congr 1
    omega
/-- who attacks an argument of a round is answered -/
theorem gd_ans {n : Nat} {T U R : Nat → Nat} (h : CON n T U) (hR : ∀ a, a < n → RND T n a (R a)) {a b : Nat} (ha : a < n) (hp : 0 < R a) (hb : (U a).testBit b = true) : b < n ∧ ∃ j, LAns (U b) R n j ∧ R j < R a := by
  have hbn : b < n := bit_lt (h.2.1 a) hb
  refine ⟨hbn, ?_⟩
  rcases hR a ha with ⟨e, -⟩ | ⟨-, h1, -⟩
  · omega
  have hs : gdA T n (R a) = dfd T n (gdA T n (R a - 1)) := by
    have e : R a = (R a - 1) + 1 := by omega
    conv => lhs; rw [e]
    rfl
  rw [hs] at h1
  rw [h.2.2.2.2] at hb
  obtain ⟨i, hi, hg, ht⟩ := tgU_bit.mp ((dfd_bit.mp h1).2 b hbn hb)
  have hib : (U b).testBit i = true := by rw [h.2.2.2.2]; exact ht
  have hri : 0 < R i ∧ R i ≤ R a - 1 := by
    rcases hR i hi with ⟨-, e⟩ | ⟨q1, q2, q3⟩
    · rw [e] at hg; cases hg
    · refine ⟨q1, ?_⟩
      rcases Nat.lt_or_ge (R a - 1) (R i) with q | q
      · rw [gd_up (show R a - 1 ≤ R i - 1 by omega) hg] at q3; cases q3
      · exact q
  cases ho : agU U R b n n with
  | none => exact absurd hri.1 ((agU_spec (U := U) (MR := R) (a := b) n (Nat.le_refl n)).1 ho i (by omega) hi hib)
  | some j =>
    have hl := ag_LAns ho
    refine ⟨j, hl, ?_⟩
    have := hl.2.2.2 i hi hib hri.1
    omega
theorem al_bit {n : Nat} {T R : Nat → Nat} (hn : n ≤ 12) (hR : ∀ a, a < n → RND T n a (R a)) : ∀ i, (gdA T n 12).testBit i = true ↔ i < n ∧ 0 < R i := by
  intro i
  constructor
  · intro hi
    have hin := bit_lt (gdA_lt2 12) hi
    refine ⟨hin, ?_⟩
    rcases hR i hin with ⟨-, e⟩ | ⟨q, -⟩
    · rw [e] at hi; cases hi
    · exact q
  · rintro ⟨h1, h2⟩
    rcases hR i h1 with ⟨e, -⟩ | ⟨-, q, -⟩
    · omega
    · cases hh : (gdA T n 12).testBit i with
      | true => rfl
      | false =>
        rw [gd_12 hn] at hh
        rw [gd_all hh] at q; cases q
theorem dg_ok {n : Nat} {T U R : Nat → Nat} (hn : n ≤ 12) (h : CON n T U) (hR : ∀ a, a < n → RND T n a (R a)) : DG U R (gdA T n 12) n := by
  intro a ha hp b _ hb
  obtain ⟨h1, j, hj, hlt⟩ := gd_ans h hR ha hp hb
  exact ⟨h1, j, LAns_er hn (al_bit hn hR) hj, hj.1, hj.2.2.1, hlt⟩
/-- the reference's answers -/
def eaO (U MR : Nat → Nat) (n : Nat) : Nat → Nat := fun b => (agU U MR b n n).getD n
theorem de_ok {n : Nat} {T U R : Nat → Nat} (h : CON n T U) (hR : ∀ a, a < n → RND T n a (R a)) : DE U R (eaO U R n) n := by
  intro a ha hp b hb
  obtain ⟨h1, j, hj, hlt⟩ := gd_ans h hR ha hp hb
  have e : eaO U R n b = j := by unfold eaO; rw [LAns_ag hj]; rfl
  rw [e]
  exact ⟨h1, hj.1, hj.2.2.1, hlt⟩
theorem ag_ok {U R : Nat → Nat} {n : Nat} : ∀ b, b < n → eaO U R n b < n → agU U R b n n = some (eaO U R n b) := by
  intro b _ hlt
  unfold eaO at hlt ⊢
  cases ho : agU U R b n n with
  | none => rw [ho] at hlt; exact absurd hlt (Nat.lt_irrefl n)
  | some j => rfl
/-- the moves are the same -/
theorem mvs_same {n : Nat} {T U R S : Nat → Nat} (hn : n ≤ 12) (h : CON n T U) (hR : ∀ a, a < n → RND T n a (R a)) (hS : ∀ a, a < n → RND T n a (S a)) : ∀ (f a : Nat), a < n → 0 < R a → ∀ y z, mvs U (eaF U R (gdA T n 12)) f a y z = mvs U (eaO U S n) f a y z := by
  intro f
  induction f with
  | zero => intro a _ _ y z; rfl
  | succ f ih =>
    intro a ha hp y z
    show (a, y, 0) :: _ = (a, y, 0) :: _
    congr 1
    refine kidL_c (fun b hb p x => ?_) 12
    obtain ⟨h1, j, hj, hlt⟩ := gd_ans h hR ha hp hb
    have e1 : eaF U R (gdA T n 12) b = j := by unfold eaF; rw [LAns_er hn (al_bit hn hR) hj]; rfl
    have e2 : eaO U S n b = j := by unfold eaO; rw [LAns_ag (LAns_c (fun a ha => RND_one (hR a ha) (hS a ha)) hj)]; rfl
    show mvs U (eaF U R (gdA T n 12)) f (eaF U R (gdA T n 12) b) p x = mvs U (eaO U S n) f (eaO U S n b) p x
    rw [e1, e2]
    exact ih j hj.1 hj.2.2.1 p x
