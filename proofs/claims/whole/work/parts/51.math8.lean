/-! Class and reference agree: the numbers of the circles -/
theorem pcU_lt {x y n a : Nat} (h : inn x y) (ha : a < n) (h1 : x.testBit a = false) (h2 : y.testBit a = true) : pcU x n < pcU y n := by
  have := pcU_mono h n
  rcases Nat.lt_or_ge (pcU x n) (pcU y n) with q | q
  · exact q
  · have e := pcU_eq h n (by omega) a ha
    rw [h1, h2] at e; cases e
theorem num_sim {n : Nat} {T U X X2 Y : Nat → Nat} {C : Nat → Int32} (hn : n ≤ 12) (h : CON n T U) : ∀ k, (∀ j, j < k → (mnS (mrX T n X2) n C j).2 ≠ 2 ^ n - 1) →
    (fnd (rcX T n X) U n Y k).2.2 = (mnS (mrX T n X2) n C k).2 ∧ (fnd (rcX T n X) U n Y k).2.1 = k ∧ (∀ a, a < n → (mnS (mrX T n X2) n C k).2.testBit a = true → (mnS (mrX T n X2) n C k).1 a = nI ((fnd (rcX T n X) U n Y k).1 a)) ∧ k ≤ pcU (mnS (mrX T n X2) n C k).2 n := by
  intro k
  induction k with
  | zero =>
    intro _
    exact ⟨rfl, rfl, fun a _ hb => by simp [mnS] at hb, Nat.zero_le _⟩
  | succ k ih =>
    intro hmin
    obtain ⟨e1, e2, e3, e4⟩ := ih (fun j hj => hmin j (by omega))
    obtain ⟨a, ha, hab, hal⟩ := hok_ok (X2 := X2) h.1 C k (hmin k (Nat.lt_succ_self k))
    rcases next_eq (X := X) (X2 := X2) hn h (mn_cld (X2 := X2) h.1 C k) with ⟨q, -⟩ | ⟨j, j1, j2, j3, j4, j5⟩
    · rw [ha] at q; cases q
    rw [ha] at j4
    cases j4
    have hne : frM (mrX T n X2) a n &&& mrX T n X2 a ≠ 0 := fun q => by rw [q] at hab; simp at hab
    have hm : mnS (mrX T n X2) n C (k + 1) = (nrI (mnS (mrX T n X2) n C k).1 (frM (mrX T n X2) a n &&& mrX T n X2 a) k n, (mnS (mrX T n X2) n C k).2 ||| (frM (mrX T n X2) a n &&& mrX T n X2 a)) := mnS_s rfl ha
    have hf : fnd (rcX T n X) U n Y (k + 1) = (nbU (fnd (rcX T n X) U n Y k).1 (frM (mrX T n X2) a n &&& mrX T n X2 a) k, k + 1, (mnS (mrX T n X2) n C k).2 ||| (frM (mrX T n X2) a n &&& mrX T n X2 a)) := by
      simp only [fnd, e1, e2, j5, if_neg hne]
    rw [hm, hf]
    refine ⟨rfl, rfl, fun i hi hb => ?_, ?_⟩
    · show nrI _ _ _ _ i = nI (nbU _ _ _ i)
      simp only [nrI, nbU, nrU]
      by_cases hc : (frM (mrX T n X2) a n &&& mrX T n X2 a).testBit i = true
      · rw [if_pos ⟨hi, hc⟩, if_pos ⟨by omega, hc⟩]
      · rw [if_neg (fun q => hc q.2), if_neg (fun q => hc q.2)]
        apply e3 i hi
        have hb2 : ((mnS (mrX T n X2) n C k).2 ||| (frM (mrX T n X2) a n &&& mrX T n X2 a)).testBit i = true := hb
        rw [Nat.testBit_or, Bool.or_eq_true] at hb2
        rcases hb2 with q | q
        · exact q
        · exact absurd q hc
    · show k + 1 ≤ pcU ((mnS (mrX T n X2) n C k).2 ||| (frM (mrX T n X2) a n &&& mrX T n X2 a)) n
      have := pcU_lt (n := n) (x := (mnS (mrX T n X2) n C k).2) (y := (mnS (mrX T n X2) n C k).2 ||| (frM (mrX T n X2) a n &&& mrX T n X2 a)) (a := a) (fun i hi => by rw [Nat.testBit_or, hi]; rfl) j1 j2 (by rw [Nat.testBit_or, hab, Bool.or_true])
      omega
theorem fnd_stay {n : Nat} {X U Y : Nat → Nat} {k : Nat} (h : (fnd X U n Y k).2.2 = 2 ^ n - 1) : ∀ d, fnd X U n Y (k + d) = fnd X U n Y k := by
  have h0 : frd X U n (2 ^ n - 1) n 0 = 0 := frd_none n 0 (fun i _ hi hc => by
    rw [ev_bit] at hc
    simp at hc
    omega)
  intro d
  induction d with
  | zero => rfl
  | succ d ih =>
    rw [← Nat.add_assoc]
    simp only [fnd, ih, h, h0, if_true, Nat.or_zero]
    rw [← h]
theorem rings_eq {n : Nat} {T U X X2 Y : Nat → Nat} {C V : Nat → Int32} {z : Nat} (hn : n ≤ 12) (h : CON n T U) (hz : mnS (mrX T n X2) n C z = (V, 2 ^ n - 1)) (hmin : ∀ j, j < z → (mnS (mrX T n X2) n C j).2 ≠ 2 ^ n - 1) :
    z = (fnd (rcX T n X) U n Y n).2.1 ∧ ∀ i, i < n → V i = nI ((fnd (rcX T n X) U n Y n).1 i) := by
  obtain ⟨e1, e2, e3, e4⟩ := num_sim (X := X) (Y := Y) hn h z hmin
  rw [hz] at e1 e3 e4
  have hzn : z ≤ n := Nat.le_trans e4 (pcU_le _ n)
  have hs := fnd_stay (n := n) e1 (n - z)
  rw [show z + (n - z) = n by omega] at hs
  rw [hs]
  refine ⟨e2.symm, fun i hi => e3 i hi ?_⟩
  show (2 ^ n - 1).testBit i = true
  rw [ev_bit]; simpa using hi
