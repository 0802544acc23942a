/-! The reference's reckoning as a whole -/
def kd2 (T U : Nat → Nat) (n x : Nat) : Nat :=
  bif frB T n x && ((x ||| tgU T x n) == 2 ^ n - 1) then
    (bif adB T U n x && (dfM U (tgU T x n) n == x) then (bif adB T U n x then 0 ||| 2 ^ 4 else 0) ||| 2 ^ 0 else (bif adB T U n x then 0 ||| 2 ^ 4 else 0)) ||| 2 ^ 2
  else (bif adB T U n x && (dfM U (tgU T x n) n == x) then (bif adB T U n x then 0 ||| 2 ^ 4 else 0) ||| 2 ^ 0 else (bif adB T U n x then 0 ||| 2 ^ 4 else 0))
theorem kd2_lt (T U : Nat → Nat) (n x : Nat) : kd2 T U n x < 32 := by
  unfold kd2
  cases (frB T n x && ((x ||| tgU T x n) == 2 ^ n - 1)) <;> cases (adB T U n x && (dfM U (tgU T x n) n == x)) <;> cases adB T U n x <;> decide
theorem ht_st {T X Y : Nat → Nat} {x a v : Nat} (h : Y = va_up X x (tgU T x a)) (hv : v = if x.testBit a then Y x ||| T a else Y x) : va_up Y x v = va_up X x (tgU T x (a + 1)) := by
  rw [h, up_at] at hv
  rw [hv, h, up_up]
  simp only [tgU]
theorem adB_t {T U : Nat → Nat} {n x : Nat} (h1 : frB T n x = true) (h2 : dif x (dfM U (tgU T x n) n) = 0) : adB T U n x = true := by
  unfold frB at h1; simp [adB, h1, h2]
theorem adB_f1 {T U : Nat → Nat} {n x : Nat} (h1 : frB T n x = false) : adB T U n x = false := by
  unfold frB at h1; simp [adB, h1]
theorem adB_f2 {T U : Nat → Nat} {n x : Nat} (h2 : dif x (dfM U (tgU T x n) n) ≠ 0) : adB T U n x = false := by
  simp [adB, h2]
theorem ovw_32 {f g : Nat → Nat} {i : Nat} (hf : ∀ x, f x < 32) (hg : ∀ x, g x < 32) : ∀ x, ovw f g i x < 32 := by
  intro x
  simp only [ovw]
  split
  · exact hg x
  · exact hf x
def rkH (T : Nat → Nat) (n : Nat) (HI : Nat → Nat) : Nat → Nat := ovw HI (fun x => tgU T x n) (2 ^ n - 1 + 1)
def rkK1 (T U : Nat → Nat) (n : Nat) (KD : Nat → Nat) : Nat → Nat := ovw KD (kd2 T U n) (2 ^ n - 1 + 1)
def rkE1 (T U : Nat → Nat) (n : Nat) (HE : Nat → Bool) : Nat → Bool := ovB HE (adB T U n) (2 ^ n - 1 + 1)
def rkA1 (T U : Nat → Nat) (n : Nat) (HE AV : Nat → Bool) : Nat → Bool := laO (rkE1 T U n HE) AV n (2 ^ n - 1 + 1)
def rkK2 (T U : Nat → Nat) (n : Nat) (KD : Nat → Nat) (HE AV : Nat → Bool) : Nat → Nat := kdU (rkK1 T U n KD) (fun x => rkE1 T U n HE x && !rkA1 T U n HE AV x) 1 (2 ^ n - 1 + 1)
def rkE2 (T U : Nat → Nat) (n : Nat) (HE : Nat → Bool) : Nat → Bool := ovB (rkE1 T U n HE) (fun _ => false) (2 ^ n - 1 + 1)
def rkE3 (T U : Nat → Nat) (n : Nat) (HI : Nat → Nat) (HE : Nat → Bool) : Nat → Bool := rnB (rkH T n HI) (rkE2 T U n HE) (2 ^ n - 1 + 1)
def rkA2 (T U : Nat → Nat) (n : Nat) (HI : Nat → Nat) (HE AV : Nat → Bool) : Nat → Bool := laO (rkE3 T U n HI HE) (rkA1 T U n HE AV) n (2 ^ n - 1 + 1)
def rkK3 (T U : Nat → Nat) (n : Nat) (HI KD : Nat → Nat) (HE AV : Nat → Bool) : Nat → Nat := kdU (rkK2 T U n KD HE AV) (fun x => (rkH T n HI x &&& x == 0) && !rkA2 T U n HI HE AV (x ||| rkH T n HI x)) 3 (2 ^ n - 1 + 1)
def qH (kn : Bool) (T : Nat → Nat) (n : Nat) (HI : Nat → Nat) : Nat → Nat := bif kn then HI else rkH T n HI
def qK (kn : Bool) (T U : Nat → Nat) (n : Nat) (HI KD : Nat → Nat) (HE AV : Nat → Bool) : Nat → Nat := bif kn then KD else rkK3 T U n HI KD HE AV
def qE (kn : Bool) (T U : Nat → Nat) (n : Nat) (HI : Nat → Nat) (HE : Nat → Bool) : Nat → Bool := bif kn then HE else rkE3 T U n HI HE
def qA (kn : Bool) (T U : Nat → Nat) (n : Nat) (HI : Nat → Nat) (HE AV : Nat → Bool) : Nat → Bool := bif kn then AV else rkA2 T U n HI HE AV
def qR (kn : Bool) (T U : Nat → Nat) (n : Nat) (HI MR : Nat → Nat) : Nat → Nat := bif kn then MR else rdR (rkH T n HI) U n (ovw MR (fun _ => 0) n) n
def qG (kn : Bool) (T U : Nat → Nat) (n : Nat) (HI : Nat → Nat) (gr : Nat) : Nat := bif kn then gr else rdA (rkH T n HI) U n n
theorem rkH_b {T : Nat → Nat} {n : Nat} {HI : Nat → Nat} (hT : ∀ a, T a < 4096) (hH : ∀ a, HI a < 4096) : ∀ a, rkH T n HI a < 4096 := ovw_b hH (fun x => tgU_lt hT x n)
theorem rkK1_b {T U : Nat → Nat} {n : Nat} {KD : Nat → Nat} (hK : ∀ x, KD x < 32) : ∀ x, rkK1 T U n KD x < 32 := ovw_32 hK (fun x => kd2_lt T U n x)
theorem rkK2_b {T U : Nat → Nat} {n : Nat} {KD : Nat → Nat} {HE AV : Nat → Bool} (hK : ∀ x, KD x < 32) : ∀ x, rkK2 T U n KD HE AV x < 32 := kdU_lt (by decide) (rkK1_b hK)
theorem kst_y {KD V : Nat → Nat} {tst : Nat → Bool} {k i : Nat} (h : V = kdU KD tst k i) (ht : tst i = true) : va_up V i (V i ||| 2 ^ k) = kdU KD tst k (i + 1) := by
  have e : V i = KD i := by rw [h]; exact kdU_at
  rw [e, h]
  exact kdU_y ht
theorem kst_n {KD V : Nat → Nat} {tst : Nat → Bool} {k i : Nat} (h : V = kdU KD tst k i) (ht : tst i = false) : V = kdU KD tst k (i + 1) := by
  rw [h]; exact kdU_n ht
theorem kd2_eq {T U : Nat → Nat} {n x : Nat} {a d f g : Bool} (ha : adB T U n x = a) (hd : (dfM U (tgU T x n) n == x) = d) (hf : frB T n x = f) (hg : ((x ||| tgU T x n) == 2 ^ n - 1) = g) :
    kd2 T U n x = bif f && g then (bif a && d then (bif a then 0 ||| 2 ^ 4 else 0) ||| 2 ^ 0 else (bif a then 0 ||| 2 ^ 4 else 0)) ||| 2 ^ 2 else (bif a && d then (bif a then 0 ||| 2 ^ 4 else 0) ||| 2 ^ 0 else (bif a then 0 ||| 2 ^ 4 else 0)) := by
  subst ha hd hf hg
  rfl
