/-! The dialogue: what its walk needs -/
section K
variable {U R : Nat → Nat} {al : Nat} {Sa : Nat → Nat} {An : Nat → Int32} {Sd : Nat → Nat} {a : Nat} {y : Int32} {z i fu jj : Nat} {S1 : Nat → Nat} {A1 : Nat → Int32} {D1 : Nat → Nat} {z1 : Nat} {S2 : Nat → Nat} {A2 : Nat → Int32} {D2 : Nat → Nat} {z2 : Nat} {t2 : Bool}
theorem mvs_len : (mvs U (eaF U R al) (fu + 1) a y z).length = (kidL U (fun b p x => mvs U (eaF U R al) fu (eaF U R al b) p x) a z 12).length + 1 := by simp [mvs]
theorem z1_of (h : WR ((a, y, 0) :: kidL U (fun b p x => mvs U (eaF U R al) fu (eaF U R al b) p x) a z i) Sa An Sd z S1 A1 D1 z1) : z1 = z + 1 + (kidL U (fun b p x => mvs U (eaF U R al) fu (eaF U R al b) p x) a z i).length := by
  have := h.2.2.2
  rw [List.length_cons] at this
  omega
theorem kid_len (hb : (U a).testBit i = true) : (kidL U (fun b p x => mvs U (eaF U R al) fu (eaF U R al b) p x) a z (i + 1)).length = (kidL U (fun b p x => mvs U (eaF U R al) fu (eaF U R al b) p x) a z i).length + 1 + (mvs U (eaF U R al) fu (eaF U R al i) (nI (z + 1 + (kidL U (fun b p x => mvs U (eaF U R al) fu (eaF U R al b) p x) a z i).length)) (z + 1 + (kidL U (fun b p x => mvs U (eaF U R al) fu (eaF U R al b) p x) a z i).length + 1)).length := by
  rw [kidL_y hb, List.length_append, List.length_cons]
  omega
theorem kid_12 (hi : i + 1 ≤ 12) : (kidL U (fun b p x => mvs U (eaF U R al) fu (eaF U R al b) p x) a z (i + 1)).length ≤ (kidL U (fun b p x => mvs U (eaF U R al) fu (eaF U R al b) p x) a z 12).length := by
  have := kidL_le (U := U) (rec_ := fun b p x => mvs U (eaF U R al) fu (eaF U R al b) p x) (a := a) (z := z) (d := 12 - (i + 1)) (i := i + 1)
  rw [show i + 1 + (12 - (i + 1)) = 12 by omega] at this
  exact this
theorem ov_k1 (h : WR ((a, y, 0) :: kidL U (fun b p x => mvs U (eaF U R al) fu (eaF U R al b) p x) a z i) Sa An Sd z S1 A1 D1 z1) (hb : (U a).testBit i = true) (_ : i ≤ 12) (hi : i + 1 ≤ 12) (hz : 500 ≤ z1) : 500 < z + (mvs U (eaF U R al) (fu + 1) a y z).length := by
  have e1 := z1_of h
  have e2 := kid_len (U := U) (R := R) (al := al) (fu := fu) (z := z) hb
  have e3 := kid_12 (U := U) (R := R) (al := al) (fu := fu) (a := a) (z := z) hi
  rw [mvs_len]
  omega
theorem ov_k2 (h : WR ((a, y, 0) :: kidL U (fun b p x => mvs U (eaF U R al) fu (eaF U R al b) p x) a z i) Sa An Sd z S1 A1 D1 z1) (hb : (U a).testBit i = true) (_ : i ≤ 12) (hi : i + 1 ≤ 12) (hf : 0 < fu) (hz : 500 ≤ z1 + 1) : 500 < z + (mvs U (eaF U R al) (fu + 1) a y z).length := by
  have e1 := z1_of h
  have e2 := kid_len (U := U) (R := R) (al := al) (fu := fu) (z := z) hb
  have e3 := kid_12 (U := U) (R := R) (al := al) (fu := fu) (a := a) (z := z) hi
  have e4 := mvs_pos (U := U) (ea := eaF U R al) (a := eaF U R al i) (y := nI (z + 1 + (kidL U (fun b p x => mvs U (eaF U R al) fu (eaF U R al b) p x) a z i).length)) (z := z + 1 + (kidL U (fun b p x => mvs U (eaF U R al) fu (eaF U R al b) p x) a z i).length + 1) hf
  rw [mvs_len]
  omega
theorem WR_k3 (h : WR ((a, y, 0) :: kidL U (fun b p x => mvs U (eaF U R al) fu (eaF U R al b) p x) a z i) Sa An Sd z S1 A1 D1 z1) (hb : (U a).testBit i = true) (hea : eaF U R al i = jj) (_ : z1 + 1 < 500)
    (hf : z1 + 1 + (mvs U (eaF U R al) fu jj (nI z1) (z1 + 1)).length ≤ 500 → WR (mvs U (eaF U R al) fu jj (nI z1) (z1 + 1)) (va_up S1 z1 i) (upd A1 z1 (nI z)) (va_up D1 z1 1) (z1 + 1) S2 A2 D2 z2 ∧ t2 = false)
    (ho : 500 < z1 + 1 + (mvs U (eaF U R al) fu jj (nI z1) (z1 + 1)).length → t2 = true) (q : t2 = false) : WR ((a, y, 0) :: kidL U (fun b p x => mvs U (eaF U R al) fu (eaF U R al b) p x) a z (i + 1)) Sa An Sd z S2 A2 D2 z2 := by
  have hfit : z1 + 1 + (mvs U (eaF U R al) fu jj (nI z1) (z1 + 1)).length ≤ 500 := Nat.not_lt.mp fun w => by rw [ho w] at q; cases q
  have e1 := z1_of h
  have w1 : WR [(i, nI z, 1)] S1 A1 D1 z1 (va_up S1 z1 i) (upd A1 z1 (nI z)) (va_up D1 z1 1) (z1 + 1) := WR_1
  have w2 := WR_app h (WR_app w1 (hf hfit).1)
  rw [kidL_y hb, hea, ← e1]
  exact w2
theorem ov_k3 (h : WR ((a, y, 0) :: kidL U (fun b p x => mvs U (eaF U R al) fu (eaF U R al b) p x) a z i) Sa An Sd z S1 A1 D1 z1) (hb : (U a).testBit i = true) (hea : eaF U R al i = jj) (_ : i ≤ 12) (hi : i + 1 ≤ 12)
    (hf : z1 + 1 + (mvs U (eaF U R al) fu jj (nI z1) (z1 + 1)).length ≤ 500 → WR (mvs U (eaF U R al) fu jj (nI z1) (z1 + 1)) (va_up S1 z1 i) (upd A1 z1 (nI z)) (va_up D1 z1 1) (z1 + 1) S2 A2 D2 z2 ∧ true = false) : 500 < z + (mvs U (eaF U R al) (fu + 1) a y z).length := by
  have e1 := z1_of h
  have e2 := kid_len (U := U) (R := R) (al := al) (fu := fu) (z := z) hb
  have e3 := kid_12 (U := U) (R := R) (al := al) (fu := fu) (a := a) (z := z) hi
  rw [hea, ← e1] at e2
  have hn : ¬ z1 + 1 + (mvs U (eaF U R al) fu jj (nI z1) (z1 + 1)).length ≤ 500 := fun w => by cases (hf w).2
  rw [mvs_len]
  omega
theorem end_k {tv : Bool} (hA : tv = false → WR ((a, y, 0) :: kidL U (fun b p x => mvs U (eaF U R al) fu (eaF U R al b) p x) a z i) Sa An Sd z S1 A1 D1 z1) (hB : tv = true → 500 < z + (mvs U (eaF U R al) (fu + 1) a y z).length) (hz : z1 ≤ 500) (hi : i = 12) :
    (z + (mvs U (eaF U R al) (fu + 1) a y z).length ≤ 500 → WR (mvs U (eaF U R al) (fu + 1) a y z) Sa An Sd z S1 A1 D1 z1 ∧ tv = false) ∧ (500 < z + (mvs U (eaF U R al) (fu + 1) a y z).length → tv = true) ∧ z1 ≤ 500 := by
  subst hi
  cases tv with
  | false =>
    have h := hA rfl
    refine ⟨fun _ => ⟨h, rfl⟩, fun q => ?_, hz⟩
    have e : z1 = z + (mvs U (eaF U R al) (fu + 1) a y z).length := h.2.2.2
    omega
  | true => exact ⟨fun q => absurd (hB rfl) (by omega), fun _ => rfl, hz⟩
end K
