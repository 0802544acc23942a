/-! The reference's dialogue: a stack of moves to come -/
section Stack
variable {U R : Nat → Nat} {ea : Nat → Nat} {n : Nat}
/-- who attacks an argument of a round is answered by ea, of a lesser round -/
def DE (U R : Nat → Nat) (ea : Nat → Nat) (n : Nat) : Prop := ∀ a, a < n → 0 < R a → ∀ b, (U a).testBit b = true → b < n ∧ ea b < n ∧ 0 < R (ea b) ∧ R (ea b) < R a
theorem kidL_c {r1 r2 : Nat → Int32 → Nat → List Mv} {a z : Nat} (h : ∀ b, (U a).testBit b = true → ∀ p x, r1 b p x = r2 b p x) : ∀ i, kidL U r1 a z i = kidL U r2 a z i := by
  intro i
  induction i with
  | zero => rfl
  | succ i ih =>
    simp only [kidL]
    rw [ih]
    split
    · rename_i hb; rw [h i hb]
    · rfl
theorem mvs_fuel (hE : DE U R ea n) : ∀ (f a : Nat), a < n → 0 < R a → R a ≤ f → ∀ y z, mvs U ea f a y z = mvs U ea (f + 1) a y z := by
  intro f
  induction f with
  | zero => intro a _ h1 h2; omega
  | succ f ih =>
    intro a ha h1 h2 y z
    show (a, y, 0) :: _ = (a, y, 0) :: _
    congr 1
    exact kidL_c (fun b hb p x => by
      obtain ⟨e1, e2, e3, e4⟩ := hE a ha h1 b hb
      exact ih (ea b) e2 e3 (by omega) p x) 12
/-- what comes of a move that waits -/
def oI1 (U : Nat → Nat) (ea : Nat → Nat) (x : Mv) (k : Nat) : List Mv := if x.2.2 = 0 then mvs U ea 12 x.1 x.2.1 k else x :: mvs U ea 12 (ea x.1) (nI k) (k + 1)
def outL (U : Nat → Nat) (ea : Nat → Nat) : List Mv → Nat → List Mv
  | [], _ => []
  | x :: P, k => oI1 U ea x k ++ outL U ea P (k + (oI1 U ea x k).length)
theorem outL_app (A B : List Mv) : ∀ k, outL U ea (A ++ B) k = outL U ea A k ++ outL U ea B (k + (outL U ea A k).length) := by
  induction A with
  | nil => intro k; rfl
  | cons x A ih =>
    intro k
    rw [List.cons_append]
    simp only [outL]
    rw [ih, List.append_assoc, List.length_append, Nat.add_assoc]
theorem out_1 {b : Nat} {y : Int32} {P : List Mv} {k : Nat} : outL U ea ((b, y, 1) :: P) k = (b, y, 1) :: outL U ea ((ea b, nI k, 0) :: P) (k + 1) := by
  simp only [outL, oI1]
  simp [Nat.add_assoc, Nat.add_comm 1]
/-- the attackers of a, as moves against the move k -/
def kdL (U : Nat → Nat) (a k : Nat) : Nat → List Mv
  | 0 => []
  | i + 1 => if (U a).testBit i then kdL U a k i ++ [(i, nI k, 1)] else kdL U a k i
theorem kid_out (hE : DE U R ea n) {a : Nat} (ha : a < n) (hr : 0 < R a) (hr2 : R a ≤ 12) (k : Nat) : ∀ i, kidL U (fun b p x => mvs U ea 11 (ea b) p x) a k i = outL U ea (kdL U a k i) (k + 1) := by
  intro i
  induction i with
  | zero => rfl
  | succ i ih =>
    simp only [kidL, kdL]
    split
    · rename_i hb
      rw [outL_app, ← ih]
      congr 1
      obtain ⟨e1, e2, e3, e4⟩ := hE a ha hr i hb
      simp only [outL, oI1]
      rw [mvs_fuel hE 11 (ea i) e2 e3 (by omega)]
      simp [Nat.add_assoc]
    · exact ih
theorem out_0 (hE : DE U R ea n) {a : Nat} (ha : a < n) (hr : 0 < R a) (hr2 : R a ≤ 12) {y : Int32} {P : List Mv} {k : Nat} : outL U ea ((a, y, 0) :: P) k = (a, y, 0) :: outL U ea (kdL U a k 12 ++ P) (k + 1) := by
  have h : mvs U ea 12 a y k = (a, y, 0) :: outL U ea (kdL U a k 12) (k + 1) := by
    show (a, y, 0) :: kidL U (fun b p x => mvs U ea 11 (ea b) p x) a k 12 = _
    rw [kid_out hE ha hr hr2]
  simp only [outL, oI1, if_true]
  rw [h, outL_app, List.cons_append, List.length_cons]
  congr 3
  omega
/-- the attackers pushed from the greatest down: d of them looked at -/
def kqD (U : Nat → Nat) (a k n : Nat) : Nat → List Mv
  | 0 => []
  | d + 1 => if (U a).testBit (n - 1 - d) then (n - 1 - d, nI k, 1) :: kqD U a k n d else kqD U a k n d
theorem kd_split {a k : Nat} : ∀ (d : Nat), d ≤ n → kdL U a k n = kdL U a k (n - d) ++ kqD U a k n d := by
  intro d
  induction d with
  | zero => intro _; simp [kqD]
  | succ d ih =>
    intro hd
    rw [ih (by omega), show n - d = (n - (d + 1)) + 1 by omega]
    simp only [kdL, kqD, show n - 1 - d = n - (d + 1) by omega]
    split
    · rw [List.append_assoc]; rfl
    · rfl
theorem kd_n {a k : Nat} : kdL U a k n = kqD U a k n n := by
  have := kd_split (U := U) (a := a) (k := k) n (Nat.le_refl n)
  rw [Nat.sub_self] at this
  exact this
theorem kd_12 (hE : DE U R ea n) (hn : n ≤ 12) {a : Nat} (ha : a < n) (hr : 0 < R a) {k : Nat} : kdL U a k 12 = kdL U a k n := by
  have : ∀ d, kdL U a k (n + d) = kdL U a k n := by
    intro d
    induction d with
    | zero => rfl
    | succ d ih =>
      rw [show n + (d + 1) = (n + d) + 1 from rfl]
      simp only [kdL]
      rw [if_neg, ih]
      intro q
      have := (hE a ha hr (n + d) q).1
      omega
  have h := this (12 - n)
  rw [show n + (12 - n) = 12 by omega] at h
  exact h
/-- the stack's arrays hold the list, its head on top -/
def STK (S : Nat → Nat) (A : Nat → Int32) (Dd : Nat → Nat) : List Mv → Prop
  | [] => True
  | x :: P => (S P.length = x.1 ∧ A P.length = x.2.1 ∧ Dd P.length = x.2.2) ∧ STK S A Dd P
theorem STK_up {S : Nat → Nat} {A : Nat → Int32} {Dd : Nat → Nat} {k a d : Nat} {y : Int32} : ∀ {P : List Mv}, P.length ≤ k → STK S A Dd P → STK (va_up S k a) (upd A k y) (va_up Dd k d) P := by
  intro P
  induction P with
  | nil => intro _ _; trivial
  | cons x P ih =>
    intro hk h
    rw [List.length_cons] at hk
    refine ⟨⟨?_, ?_, ?_⟩, ih (by omega) h.2⟩
    · rw [up_ne (by omega)]; exact h.1.1
    · rw [pk_un (by omega)]; exact h.1.2.1
    · rw [up_ne (by omega)]; exact h.1.2.2
theorem STK_push {S : Nat → Nat} {A : Nat → Int32} {Dd : Nat → Nat} {a d : Nat} {y : Int32} {P : List Mv} (h : STK S A Dd P) : STK (va_up S P.length a) (upd A P.length y) (va_up Dd P.length d) ((a, y, d) :: P) :=
  ⟨⟨up_at _ _ _, pk_us, up_at _ _ _⟩, STK_up (Nat.le_refl _) h⟩
/-- each waiting move is one that can be said, and stands low enough -/
def OKI (R : Nat → Nat) (ea : Nat → Nat) (n : Nat) : List Mv → Prop
  | [] => True
  | x :: P => (x.1 < n ∧ ((x.2.2 = 0 ∧ 0 < R x.1 ∧ P.length + 1 + 12 * R x.1 ≤ 145) ∨ (x.2.2 = 1 ∧ ea x.1 < n ∧ 0 < R (ea x.1) ∧ P.length + 1 + 12 * R (ea x.1) ≤ 145))) ∧ OKI R ea n P
theorem OKI_len {P : List Mv} (h : OKI R ea n P) : P.length ≤ 145 := by
  cases P with
  | nil => exact Nat.zero_le _
  | cons x P =>
    rw [List.length_cons]
    rcases h.1.2 with ⟨_, _, q⟩ | ⟨_, _, _, q⟩ <;> omega
theorem OKI_kq (hE : DE U R ea n) {a k : Nat} (ha : a < n) (hr : 0 < R a) {P : List Mv} (hP : OKI R ea n P) (hh : P.length + 1 + 12 * R a ≤ 145) : ∀ d, d ≤ n → n ≤ 12 → OKI R ea n (kqD U a k n d ++ P) ∧ (kqD U a k n d).length ≤ d := by
  intro d
  induction d with
  | zero => intro _ _; exact ⟨hP, Nat.le_refl _⟩
  | succ d ih =>
    intro hd hn
    obtain ⟨h1, h2⟩ := ih (by omega) hn
    simp only [kqD]
    split
    · rename_i hb
      obtain ⟨e1, e2, e3, e4⟩ := hE a ha hr _ hb
      refine ⟨⟨⟨e1, Or.inr ⟨rfl, e2, e3, ?_⟩⟩, h1⟩, by rw [List.length_cons]; omega⟩
      show (kqD U a k n d ++ P).length + 1 + 12 * R (ea (n - 1 - d)) ≤ 145
      rw [List.length_append]
      omega
    · exact ⟨h1, by omega⟩
theorem out_pos {x : Mv} {P : List Mv} {k : Nat} : 1 ≤ (outL U ea (x :: P) k).length := by
  simp only [outL, List.length_append, oI1]
  split
  · have := mvs_pos (U := U) (ea := ea) (f := 12) (a := x.1) (y := x.2.1) (z := k) (by decide)
    omega
  · rw [List.length_cons]; omega
/-- the loop's state: what was said, what waits, and the whole -/
def DLs (U R : Nat → Nat) (ea : Nat → Nat) (n : Nat) (Sy : Nat → Nat) (Ay : Nat → Int32) (Dy : Nat → Nat) (L : List Mv) (k : Nat) (S1 : Nat → Nat) (A1 : Nat → Int32) (D1 : Nat → Nat) (la : Nat) (S2 : Nat → Nat) (A2 : Nat → Int32) (D2 : Nat → Nat) (P Dn : List Mv) : Prop :=
  la = P.length ∧ STK S2 A2 D2 P ∧ OKI R ea n P ∧ k ≤ 500 ∧ WR Dn Sy Ay Dy 0 S1 A1 D1 k ∧ Dn ++ outL U ea P k = L
theorem DLs_0 {Sy : Nat → Nat} {Ay : Nat → Int32} {Dy : Nat → Nat} {S2 : Nat → Nat} {A2 : Nat → Int32} {D2 : Nat → Nat} {a : Nat} (ha : a < n) (hr : 0 < R a) (hr2 : R a ≤ 12) : DLs U R ea n Sy Ay Dy (mvs U ea 12 a (-1) 0) 0 Sy Ay Dy (0 + 1) (va_up S2 0 a) (upd A2 0 (-1)) (va_up D2 0 0) [(a, -1, 0)] [] :=
  ⟨rfl, STK_push (P := []) trivial, ⟨⟨ha, Or.inl ⟨rfl, hr, by show 0 + 1 + 12 * R a ≤ 145; omega⟩⟩, trivial⟩, by decide, WR_0, by simp [outL, oI1]⟩
theorem DLs_1 {Sy : Nat → Nat} {Ay : Nat → Int32} {Dy : Nat → Nat} {L : List Mv} {k : Nat} {S1 : Nat → Nat} {A1 : Nat → Int32} {D1 : Nat → Nat} {la : Nat} {S2 : Nat → Nat} {A2 : Nat → Int32} {D2 : Nat → Nat} {x : Mv} {P Dn : List Mv} (h : DLs U R ea n Sy Ay Dy L k S1 A1 D1 la S2 A2 D2 (x :: P) Dn) (hk : k ≠ 500) (hx : x.2.2 = 1) :
    DLs U R ea n Sy Ay Dy L (k + 1) (va_up S1 k x.1) (upd A1 k x.2.1) (va_up D1 k x.2.2) (la - 1 + 1) (va_up S2 (la - 1) (ea x.1)) (upd A2 (la - 1) (nI k)) (va_up D2 (la - 1) 0) ((ea x.1, nI k, 0) :: P) (Dn ++ [x]) := by
  obtain ⟨h1, h2, h3, h4, h5, h6⟩ := h
  rw [List.length_cons] at h1
  have e : la - 1 = P.length := by omega
  obtain ⟨b, y, d⟩ := x
  dsimp only at hx
  subst hx
  rcases h3.1.2 with ⟨q, _⟩ | ⟨_, q1, q2, q3⟩
  · cases q
  refine ⟨by rw [e, List.length_cons], by rw [e]; exact STK_push h2.2, ⟨⟨q1, Or.inl ⟨rfl, q2, q3⟩⟩, h3.2⟩, by omega, WR_app h5 WR_1, ?_⟩
  rw [← h6, out_1, List.append_assoc]
  rfl
theorem DLs_k {Sy : Nat → Nat} {Ay : Nat → Int32} {Dy : Nat → Nat} {L : List Mv} {k : Nat} {S1 : Nat → Nat} {A1 : Nat → Int32} {D1 : Nat → Nat} {la : Nat} {S2 : Nat → Nat} {A2 : Nat → Int32} {D2 : Nat → Nat} {x : Mv} {P Dn : List Mv} (hE : DE U R ea n) (hn : n ≤ 12) (hR : ∀ a, R a ≤ 12) (h : DLs U R ea n Sy Ay Dy L k S1 A1 D1 la S2 A2 D2 (x :: P) Dn) (hk : k ≠ 500) (hx : x.2.2 = 0)
    {S3 : Nat → Nat} {A3 : Nat → Int32} {D3 : Nat → Nat} {la3 : Nat} (hs : STK S3 A3 D3 (kqD U x.1 k n n ++ P)) (hl : la3 = (kqD U x.1 k n n ++ P).length) :
    DLs U R ea n Sy Ay Dy L (k + 1) (va_up S1 k x.1) (upd A1 k x.2.1) (va_up D1 k x.2.2) la3 S3 A3 D3 (kqD U x.1 k n n ++ P) (Dn ++ [x]) := by
  obtain ⟨h1, h2, h3, h4, h5, h6⟩ := h
  obtain ⟨b, y, d⟩ := x
  dsimp only at hx
  subst hx
  rcases h3.1.2 with ⟨_, q1, q2⟩ | ⟨q, _⟩
  · refine ⟨hl, hs, (OKI_kq hE h3.1.1 q1 h3.2 q2 n (Nat.le_refl n) hn).1, by omega, WR_app h5 WR_1, ?_⟩
    rw [← h6, out_0 hE h3.1.1 q1 (hR _), kd_12 hE hn h3.1.1 q1, kd_n, List.append_assoc]
    rfl
  · cases q
theorem DLs_e {Sy : Nat → Nat} {Ay : Nat → Int32} {Dy : Nat → Nat} {L : List Mv} {k : Nat} {S1 : Nat → Nat} {A1 : Nat → Int32} {D1 : Nat → Nat} {la : Nat} {S2 : Nat → Nat} {A2 : Nat → Int32} {D2 : Nat → Nat} {P Dn : List Mv} (h : DLs U R ea n Sy Ay Dy L k S1 A1 D1 la S2 A2 D2 P Dn) (hl : la = 0) : nI k = dlA L ∧ dlW L Sy Ay Dy S1 A1 D1 k ∧ k ≤ 500 := by
  obtain ⟨h1, h2, h3, h4, h5, h6⟩ := h
  have hP : P = [] := List.length_eq_zero_iff.mp (by omega)
  subst hP
  have e : L = Dn := by rw [← h6]; simp [outL]
  subst e
  have hk : k = L.length := by have := h5.2.2.2; omega
  exact ⟨by rw [dlA, if_pos (by omega), hk], ⟨fun _ => h5, fun q => absurd q (by omega)⟩, h4⟩
theorem DLs_o {Sy : Nat → Nat} {Ay : Nat → Int32} {Dy : Nat → Nat} {L : List Mv} {k : Nat} {S1 : Nat → Nat} {A1 : Nat → Int32} {D1 : Nat → Nat} {la : Nat} {S2 : Nat → Nat} {A2 : Nat → Int32} {D2 : Nat → Nat} {P Dn : List Mv} (h : DLs U R ea n Sy Ay Dy L k S1 A1 D1 la S2 A2 D2 P Dn) (hl : 0 < la) (hk : k = 500) : -1 = dlA L ∧ dlW L Sy Ay Dy S1 A1 D1 0 ∧ 0 ≤ 500 := by
  obtain ⟨h1, h2, h3, h4, h5, h6⟩ := h
  cases P with
  | nil => rw [h1] at hl; exact absurd hl (by decide)
  | cons x P =>
    have e : 500 < L.length := by
      have := out_pos (U := U) (ea := ea) (x := x) (P := P) (k := k)
      have := h5.2.2.2
      rw [← h6, List.length_append]
      omega
    exact ⟨by rw [dlA, if_neg (by omega)], ⟨fun q => absurd q (by omega), fun _ => rfl⟩, by decide⟩
end Stack
