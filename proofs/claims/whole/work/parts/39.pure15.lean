/-! The dialogue's end -/
def dlA (L : List Mv) : Int32 := if L.length ≤ 500 then nI L.length else -1
def dlW (L : List Mv) (Sa : Nat → Nat) (An : Nat → Int32) (Sd : Nat → Nat) (S2 : Nat → Nat) (A2 : Nat → Int32) (D2 : Nat → Nat) (z2 : Nat) : Prop := (L.length ≤ 500 → WR L Sa An Sd 0 S2 A2 D2 z2) ∧ (500 < L.length → z2 = 0)
theorem dl_y {L : List Mv} {Sa : Nat → Nat} {An : Nat → Int32} {Sd : Nat → Nat} {S2 : Nat → Nat} {A2 : Nat → Int32} {D2 : Nat → Nat} {z2 : Nat} {t2 : Bool} (hf : 0 + L.length ≤ 500 → WR L Sa An Sd 0 S2 A2 D2 z2 ∧ t2 = false) (ho : 500 < 0 + L.length → t2 = true) (hz : z2 ≤ 500) (q : t2 = false) : nI z2 = dlA L ∧ dlW L Sa An Sd S2 A2 D2 z2 ∧ z2 ≤ 500 := by
  have h : L.length ≤ 500 := Nat.not_lt.mp fun w => by rw [ho (by omega)] at q; cases q
  have w := (hf (by omega)).1
  refine ⟨?_, ⟨fun _ => w, fun z => absurd z (by omega)⟩, hz⟩
  rw [dlA, if_pos h, w.2.2.2, Nat.zero_add]
theorem dl_n {L : List Mv} {Sa : Nat → Nat} {An : Nat → Int32} {Sd : Nat → Nat} {S2 : Nat → Nat} {A2 : Nat → Int32} {D2 : Nat → Nat} {z2 : Nat} {t2 : Bool} (hf : 0 + L.length ≤ 500 → WR L Sa An Sd 0 S2 A2 D2 z2 ∧ t2 = false) (q : t2 = true) : -1 = dlA L ∧ dlW L Sa An Sd S2 A2 D2 0 ∧ 0 ≤ 500 := by
  have h : ¬ L.length ≤ 500 := fun w => by rw [(hf (by omega)).2] at q; cases q
  exact ⟨by rw [dlA, if_neg h], ⟨fun z => absurd z h, fun _ => rfl⟩, by decide⟩
