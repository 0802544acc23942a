section Rows2
variable {p : Program} {l : Launch} {e : Env} {R : Room} {s : State} {m : MethodId} {args : Array Value} {below : List Frame} {meth : Method} {c : Code} {Q : State → Prop} {D : va_G} {E : Nat → ClassId} {A : Nat → Prop} {cc : ByteArray} {own : String} {nL cells slots pc : Nat} {lv lv' : List (Nat × Value)} {st : List Value} {ws ws' : va_W}
/-- one less, down to minus one -/
def pI (i : Nat) : Int32 := nI i - nI 1
theorem pI_s (i : Nat) : pI (i + 1) = nI i := by unfold pI; rw [pk_sub (Nat.le_add_left 1 i), Nat.add_sub_cancel]
theorem pI_0 : pI 0 = -1 := by decide
theorem pI_of (i : Nat) : nI i + Int32.ofInt (-1) = pI i := by
  unfold pI
  rw [Int32.sub_eq_add_neg]
  rfl
/-- a number, or minus one -/
def oI : Option Nat → Int32
  | none => -1
  | some j => nI j
theorem g_if_ltP (C : CX p s m args c D E A cc nL own) {i : Nat} (hi : i < 2 ^ 31) {off : Int} {tgt : Nat} (d : decode cc pc = .ok (.ifCond .lt off, 3)) (ht : (pc : Int) + off = (tgt : Int)) (kt : i = 0 → GG p l e R s m args below meth c Q D A nL cells slots tgt lv st ws) (kf : ∀ j, i = j + 1 → GG p l e R s m args below meth c Q D A nL cells slots (pc + 3) lv st ws) : GG p l e R s m args below meth c Q D A nL cells slots pc lv (.int (pI i) :: st) ws :=
  g_if_lt C d ht (fun h => kt (by cases i with | zero => rfl | succ j => rw [pI_s] at h; exact absurd h (nI_pos (by omega)))) (fun h => by cases i with | zero => exact absurd (by decide) h | succ j => exact kf j rfl)
end Rows2
