/-! Rows of the law: longs, the script, tables of exceptions -/
section Rows6
variable {p : Program} {l : Launch} {e : Env} {R : Room} {s : State} {m : MethodId} {args : Array Value} {below : List Frame} {meth : Method} {c : Code} {Q : State → Prop} {D : va_G} {E : Nat → ClassId} {A : Nat → Prop} {cc : ByteArray} {own : String} {nL cells slots pc : Nat} {lv lv' : List (Nat × Value)} {st : List Value} {ws ws' : va_W}
theorem g_i2l (C : CX p s m args c D E A cc nL own) {x : Int32} (d : decode cc pc = .ok (.i2l, 1)) (k : GG p l e R s m args below meth c Q D A nL cells slots (pc + 1) lv (.long x.toInt64 :: st) ws) : GG p l e R s m args below meth c Q D A nL cells slots pc lv (.int x :: st) ws :=
  fun H locs ls hP hD hS hl => lv_i2l C.1 C.2.1 d rfl (k H locs ls hP hD hS hl)
theorem g_lconst (C : CX p s m args c D E A cc nL own) {n : Fin 2} {v : Int64} (d : decode cc pc = .ok (.lconst n, 1)) (hv : Int64.ofNat (n : Nat) = v) (k : GG p l e R s m args below meth c Q D A nL cells slots (pc + 1) lv (.long v :: st) ws) : GG p l e R s m args below meth c Q D A nL cells slots pc lv st ws :=
  fun H locs ls hP hD hS hl => lv_lconst C.1 C.2.1 d hv (k H locs ls hP hD hS hl)
theorem g_lald (C : CX p s m args c D E A cc nL own) (q0 : Nat) {a n : Nat} {f : Nat → Int64} (he : ws[q0]? = some (a, .inl (E 1, n, .inr (.inl f)))) {i : Int32} (hin : vp_in i n) (d : decode cc pc = .ok (.laload, 1)) (k : GG p l e R s m args below meth c Q D A nL cells slots (pc + 1) lv (.long (f i.toNatClampNeg) :: st) ws) : GG p l e R s m args below meth c Q D A nL cells slots pc lv (.int i :: .ref a :: st) ws :=
  fun H locs ls hP hD hS hl => va_lald C.1 C.2.1 C.2.2.2.2.1.1 hP q0 1 he rfl hin d (k H locs ls hP hD hS hl)
theorem g_last (C : CX p s m args c D E A cc nL own) (q0 : Nat) {a n : Nat} {f : Nat → Int64} (he : ws[q0]? = some (a, .inl (E 1, n, .inr (.inl f)))) {i : Int32} {x : Int64} (hin : vp_in i n) (hw : ws.set q0 (a, .inl (E 1, n, .inr (.inl (vp_updL f i.toNatClampNeg x)))) = ws') (d : decode cc pc = .ok (.lastore, 1)) (k : GG p l e R s m args below meth c Q D A nL cells slots (pc + 1) lv st ws') : GG p l e R s m args below meth c Q D A nL cells slots pc lv (.long x :: .int i :: .ref a :: st) ws := by
  subst hw
  exact fun H locs ls hP hD hS hl => va_last C.1 C.2.1 C.2.2.2.2.1.1 hP hD hS q0 1 he rfl hin d (fun H locs hP hD hS => k H locs ls hP hD hS hl)
theorem g_lcmpE (C : CX p s m args c D E A cc nL own) {x y : Int64} (h : x = y) (d : decode cc pc = .ok (.lcmp, 1)) (k : GG p l e R s m args below meth c Q D A nL cells slots (pc + 1) lv (.int 0 :: st) ws) : GG p l e R s m args below meth c Q D A nL cells slots pc lv (.long y :: .long x :: st) ws := by
  subst h
  have e0 : lg_cmp x x = 0 := by simp [lg_cmp]
  exact fun H locs ls hP hD hS hl => W.lcmp C.1 C.2.1 d (by rw [e0]; exact k H locs ls hP hD hS hl)
theorem g_sldN (C : CX p s m args c D E A cc nL own) {b L : Nat} {xs : Nat → Int32} (hX : va_X b L xs s s.heap) (hbl : b < s.heap.size) (hbA : ¬ A b) {i : Nat} (hi : i < L) (hL : L < 2 ^ 31) (d : decode cc pc = .ok (.iaload, 1)) (k : GG p l e R s m args below meth c Q D A nL cells slots (pc + 1) lv (.int (xs i) :: st) ws) : GG p l e R s m args below meth c Q D A nL cells slots pc lv (.int (nI i) :: .ref b :: st) ws :=
  fun H locs ls hP hD hS hl => va_sld C.1 C.2.1 hX hbl hbA hS (vp_in_nI hi hL) d (by rw [nI_clamp (Nat.lt_trans hi hL)]; exact k H locs ls hP hD hS hl)
theorem g_slen (C : CX p s m args c D E A cc nL own) {b L : Nat} {xs : Nat → Int32} (hX : va_X b L xs s s.heap) (hbl : b < s.heap.size) (hbA : ¬ A b) (d : decode cc pc = .ok (.arraylength, 1)) (k : GG p l e R s m args below meth c Q D A nL cells slots (pc + 1) lv (.int (nI L) :: st) ws) : GG p l e R s m args below meth c Q D A nL cells slots pc lv (.ref b :: st) ws :=
  fun H locs ls hP hD hS hl => va_slen C.1 C.2.1 hX hbl hbA hS d (k H locs ls hP hD hS hl)
/-- an int as a boolean: x != 0 -/
theorem g_nz (C : CX p s m args c D E A cc nL own) {x : Int32} (d0 : decode cc pc = .ok (.ifCond .eq 7, 3)) (d3 : decode cc (pc + 3) = .ok (.iconst 1, 1)) (d4 : decode cc (pc + 3 + 1) = .ok (.goto 4, 3)) (d7 : decode cc (pc + 7) = .ok (.iconst 0, 1)) (k : GG p l e R s m args below meth c Q D A nL cells slots (pc + 8) lv (.int (bI (decide (x ≠ 0))) :: st) ws) : GG p l e R s m args below meth c Q D A nL cells slots pc lv (.int x :: st) ws := by
  refine g_if_eq (tgt := pc + 7) C d0 (by omega) (fun h => ?_) (fun h => ?_)
  · refine g_iconst (v := 0) C d7 (by decide) ?_
    have e0 : bI (decide (x ≠ 0)) = 0 := by rw [decide_eq_false (fun q => q h)]; rfl
    rw [e0] at k
    exact k
  · refine g_iconst (v := 1) C d3 (by decide) ?_
    refine g_goto (tgt := pc + 8) C d4 (by omega) ?_
    have e0 : bI (decide (x ≠ 0)) = 1 := by rw [decide_eq_true h]; rfl
    rw [e0] at k
    exact k
/-- what an int is as a boolean's long -/
def zL (x : Int32) : Int64 := if x = 0 then 0 else 1
theorem g_nzL (C : CX p s m args c D E A cc nL own) {x : Int32} (d0 : decode cc pc = .ok (.ifCond .eq 7, 3)) (d3 : decode cc (pc + 3) = .ok (.lconst 1, 1)) (d4 : decode cc (pc + 3 + 1) = .ok (.goto 4, 3)) (d7 : decode cc (pc + 7) = .ok (.lconst 0, 1)) (k : GG p l e R s m args below meth c Q D A nL cells slots (pc + 8) lv (.long (zL x) :: st) ws) : GG p l e R s m args below meth c Q D A nL cells slots pc lv (.int x :: st) ws := by
  refine g_if_eq (tgt := pc + 7) C d0 (by omega) (fun h => ?_) (fun h => ?_)
  · refine g_lconst (v := 0) C d7 rfl ?_
    have e0 : zL x = 0 := if_pos h
    rw [e0] at k
    exact k
  · refine g_lconst (v := 1) C d3 rfl ?_
    refine g_goto (tgt := pc + 8) C d4 (by omega) ?_
    have e0 : zL x = 1 := if_neg h
    rw [e0] at k
    exact k
end Rows6
theorem tab1 {t : List ExceptionTableEntry} {a b h y : Nat} (e : t.map (fun x => (x.startPc, x.endPc, x.handlerPc, x.catchType)) = [(a, b, h, y)]) : ∃ x, t = [x] ∧ x.startPc = a ∧ x.endPc = b ∧ x.handlerPc = h ∧ x.catchType = y := by
  match t, e with
  | [x], e =>
    simp only [List.map_cons, List.map_nil, List.cons.injEq, Prod.mk.injEq, and_true] at e
    exact ⟨x, rfl, e⟩
theorem tab2 {t : List ExceptionTableEntry} {a b h y a2 b2 h2 y2 : Nat} (e : t.map (fun x => (x.startPc, x.endPc, x.handlerPc, x.catchType)) = [(a, b, h, y), (a2, b2, h2, y2)]) : ∃ x z, t = [x, z] ∧ (x.startPc = a ∧ x.endPc = b ∧ x.handlerPc = h ∧ x.catchType = y) ∧ z.startPc = a2 ∧ z.endPc = b2 ∧ z.handlerPc = h2 ∧ z.catchType = y2 := by
  match t, e with
  | [x, z], e =>
    simp only [List.map_cons, List.map_nil, List.cons.injEq, Prod.mk.injEq, and_true] at e
    exact ⟨x, z, rfl, e.1, e.2⟩
theorem cov {x : ExceptionTableEntry} {a b pc : Nat} (h1 : x.startPc = a) (h2 : x.endPc = b) (h3 : a ≤ pc) (h4 : pc < b) : covers x pc = true := by
  simp only [covers, h1, h2]
  simp [h3, h4]
