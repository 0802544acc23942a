/-! The dialogue: its moves as a list -/
abbrev Mv : Type := Nat × Int32 × Nat
def kidL (U : Nat → Nat) (rec_ : Nat → Int32 → Nat → List Mv) (a z : Nat) : Nat → List Mv
  | 0 => []
  | i + 1 => if (U a).testBit i then kidL U rec_ a z i ++ ((i, nI z, 1) :: rec_ i (nI (z + 1 + (kidL U rec_ a z i).length)) (z + 1 + (kidL U rec_ a z i).length + 1)) else kidL U rec_ a z i
def mvs (U : Nat → Nat) (ea : Nat → Nat) : Nat → Nat → Int32 → Nat → List Mv
  | 0, _, _, _ => []
  | f + 1, a, y, z => (a, y, 0) :: kidL U (fun b p x => mvs U ea f (ea b) p x) a z 12
theorem mvs_pos {U : Nat → Nat} {ea : Nat → Nat} {f a : Nat} {y : Int32} {z : Nat} (hf : 0 < f) : 1 ≤ (mvs U ea f a y z).length := by
  cases f with
  | zero => exact absurd hf (Nat.lt_irrefl _)
  | succ f => simp [mvs]
theorem kidL_n {U : Nat → Nat} {rec_ : Nat → Int32 → Nat → List Mv} {a z i : Nat} (h : (U a).testBit i = false) : kidL U rec_ a z (i + 1) = kidL U rec_ a z i := by simp [kidL, h]
theorem kidL_y {U : Nat → Nat} {rec_ : Nat → Int32 → Nat → List Mv} {a z i : Nat} (h : (U a).testBit i = true) : kidL U rec_ a z (i + 1) = kidL U rec_ a z i ++ ((i, nI z, 1) :: rec_ i (nI (z + 1 + (kidL U rec_ a z i).length)) (z + 1 + (kidL U rec_ a z i).length + 1)) := by simp [kidL, h]
theorem kidL_le {U : Nat → Nat} {rec_ : Nat → Int32 → Nat → List Mv} {a z : Nat} : ∀ {d i : Nat}, (kidL U rec_ a z i).length ≤ (kidL U rec_ a z (i + d)).length := by
  intro d
  induction d with
  | zero => intro i; exact Nat.le_refl _
  | succ d ih =>
    intro i
    refine Nat.le_trans ih ?_
    rw [show i + (d + 1) = (i + d) + 1 from rfl]
    simp only [kidL]
    split
    · rw [List.length_append]; exact Nat.le_add_right _ _
    · exact Nat.le_refl _
def wrA : List Mv → (Nat → Nat) → Nat → Nat → Nat
  | [], S, _ => S
  | x :: L, S, z => wrA L (va_up S z x.1) (z + 1)
def wrB : List Mv → (Nat → Int32) → Nat → Nat → Int32
  | [], S, _ => S
  | x :: L, S, z => wrB L (upd S z x.2.1) (z + 1)
def wrC : List Mv → (Nat → Nat) → Nat → Nat → Nat
  | [], S, _ => S
  | x :: L, S, z => wrC L (va_up S z x.2.2) (z + 1)
theorem wrA_app (L K : List Mv) : ∀ (S : Nat → Nat) (z : Nat), wrA (L ++ K) S z = wrA K (wrA L S z) (z + L.length) := by
  induction L with
  | nil => intro S z; rfl
  | cons x L ih => intro S z; rw [List.cons_append]; simp only [wrA]; rw [ih, List.length_cons]; congr 1; omega
theorem wrB_app (L K : List Mv) : ∀ (S : Nat → Int32) (z : Nat), wrB (L ++ K) S z = wrB K (wrB L S z) (z + L.length) := by
  induction L with
  | nil => intro S z; rfl
  | cons x L ih => intro S z; rw [List.cons_append]; simp only [wrB]; rw [ih, List.length_cons]; congr 1; omega
theorem wrC_app (L K : List Mv) : ∀ (S : Nat → Nat) (z : Nat), wrC (L ++ K) S z = wrC K (wrC L S z) (z + L.length) := by
  induction L with
  | nil => intro S z; rfl
  | cons x L ih => intro S z; rw [List.cons_append]; simp only [wrC]; rw [ih, List.length_cons]; congr 1; omega
/-- the talk holds the list L from z on -/
def WR (L : List Mv) (Sa : Nat → Nat) (An : Nat → Int32) (Sd : Nat → Nat) (z : Nat) (S1 : Nat → Nat) (A1 : Nat → Int32) (D1 : Nat → Nat) (z1 : Nat) : Prop := S1 = wrA L Sa z ∧ A1 = wrB L An z ∧ D1 = wrC L Sd z ∧ z1 = z + L.length
theorem WR_app {L K : List Mv} {Sa : Nat → Nat} {An : Nat → Int32} {Sd : Nat → Nat} {z : Nat} {S1 : Nat → Nat} {A1 : Nat → Int32} {D1 : Nat → Nat} {z1 : Nat} {S2 : Nat → Nat} {A2 : Nat → Int32} {D2 : Nat → Nat} {z2 : Nat} (h : WR L Sa An Sd z S1 A1 D1 z1) (h2 : WR K S1 A1 D1 z1 S2 A2 D2 z2) : WR (L ++ K) Sa An Sd z S2 A2 D2 z2 := by
  obtain ⟨e1, e2, e3, e4⟩ := h
  obtain ⟨f1, f2, f3, f4⟩ := h2
  subst e1 e2 e3 e4
  exact ⟨by rw [f1, wrA_app], by rw [f2, wrB_app], by rw [f3, wrC_app], by rw [f4, List.length_append]; omega⟩
theorem WR_1 {x : Mv} {Sa : Nat → Nat} {An : Nat → Int32} {Sd : Nat → Nat} {z : Nat} : WR [x] Sa An Sd z (va_up Sa z x.1) (upd An z x.2.1) (va_up Sd z x.2.2) (z + 1) := ⟨rfl, rfl, rfl, rfl⟩
theorem WR_0 {Sa : Nat → Nat} {An : Nat → Int32} {Sd : Nat → Nat} {z : Nat} : WR [] Sa An Sd z Sa An Sd z := ⟨rfl, rfl, rfl, rfl⟩
/-- what holds for the dialogue of a grounded argument: who attacks it is answered by one of a lesser round -/
def DG (U R : Nat → Nat) (al n : Nat) : Prop := ∀ a, a < n → 0 < R a → ∀ b, b < 12 → (U a).testBit b = true → b < n ∧ ∃ j, erl R (U b &&& al) 12 = some j ∧ j < n ∧ 0 < R j ∧ R j < R a
def eaF (U R : Nat → Nat) (al : Nat) : Nat → Nat := fun b => (erl R (U b &&& al) 12).getD 0
def rmD (f : Nat) : Room := { frames := f + 10, cells := 0, slots := 0, locals := 29 * f + 300 }
