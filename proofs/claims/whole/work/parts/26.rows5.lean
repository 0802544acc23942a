section Rows5
variable {p : Program} {l : Launch} {e : Env} {R : Room} {s : State} {m : MethodId} {args : Array Value} {below : List Frame} {meth : Method} {c : Code} {Q : State → Prop} {D : va_G} {E : Nat → ClassId} {A : Nat → Prop} {cc : ByteArray} {own : String} {nL cells slots pc : Nat} {lv lv' : List (Nat × Value)} {st : List Value} {ws ws' : va_W}
theorem nI_gt0 {a : Nat} (ha : a < 2 ^ 31) : 0 < nI a ↔ 0 < a := by rw [← nI_0]; exact nI_ltI (by decide) ha
theorem nI_le0 {a : Nat} (ha : a < 2 ^ 31) : nI a ≤ 0 ↔ a = 0 := by rw [← nI_0, nI_leI ha (by decide)]; exact Nat.le_zero
theorem g_if_gtN (C : CX p s m args c D E A cc nL own) {a : Nat} (ha : a < 2 ^ 31) {off : Int} {tgt : Nat} (d : decode cc pc = .ok (.ifCond .gt off, 3)) (ht : (pc : Int) + off = (tgt : Int)) (kt : 0 < a → GG p l e R s m args below meth c Q D A nL cells slots tgt lv st ws) (kf : a = 0 → GG p l e R s m args below meth c Q D A nL cells slots (pc + 3) lv st ws) : GG p l e R s m args below meth c Q D A nL cells slots pc lv (.int (nI a) :: st) ws :=
  g_if_gt C d ht (fun h => kt ((nI_gt0 ha).mp h)) (fun h => kf (Nat.eq_zero_of_not_pos fun q => h ((nI_gt0 ha).mpr q)))
theorem g_if_leN (C : CX p s m args c D E A cc nL own) {a : Nat} (ha : a < 2 ^ 31) {off : Int} {tgt : Nat} (d : decode cc pc = .ok (.ifCond .le off, 3)) (ht : (pc : Int) + off = (tgt : Int)) (kt : a = 0 → GG p l e R s m args below meth c Q D A nL cells slots tgt lv st ws) (kf : 0 < a → GG p l e R s m args below meth c Q D A nL cells slots (pc + 3) lv st ws) : GG p l e R s m args below meth c Q D A nL cells slots pc lv (.int (nI a) :: st) ws :=
  g_if_le C d ht (fun h => kt ((nI_le0 ha).mp h)) (fun h => kf (Nat.pos_of_ne_zero fun q => h ((nI_le0 ha).mpr q)))
end Rows5
