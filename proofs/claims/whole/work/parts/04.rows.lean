/-! Rows over a walk's state as data: the place, the locals, the operand stack, the cells. Written by gen_rows.py. -/

/-- what stands for the whole run: the classes, the arrays' classes, the tables' words -/
def KK (D : va_G) (E : Nat → ClassId) (U : State) : Prop := va_K D vwCl [(E 0, .int), (E 1, .long), (E 2, .byte), (E 3, .boolean)] U ∧ ∀ w ∈ allw, ∀ a : Array Value, w.before a U = true
theorem kk_warm1 {w : Cond} (h : (goodWord w || isNest w) = true) {s U : State} (hW : s.WarmedH U.vm) (hw : ∀ a : Array Value, w.before a s = true) : ∀ a : Array Value, w.before a U = true := by
  intro a
  rcases Bool.or_eq_true _ _ |>.mp h with h | h
  · exact word_at hW (good_of_word h) (hw a)
  · cases w <;> first | (simp [isNest] at h; done) | exact va_Nw.use rfl (va_Nw.warmM hW (hw #[])) | exact va_Nw.use rfl (va_Nw.warmF hW (hw #[]))
theorem KK.warm {D : va_G} {E : Nat → ClassId} {s U : State} (hW : s.WarmedH U.vm) (h : KK D E s) : KK D E U :=
  ⟨va_K.moved hW.alike h.1, fun w hw => kk_warm1 (List.all_eq_true.mp allw_ok w hw) hW (h.2 w hw)⟩
/-- the machine in a method at pc, with locals lv, stack st and the cells ws, comes to Q -/
def GG (p : Program) (l : Launch) (e : Env) (R : Room) (s : State) (m : MethodId) (args : Array Value) (below : List Frame) (meth : Method) (c : Code) (Q : State → Prop) (D : va_G) (A : Nat → Prop) (nL cells slots pc : Nat) (lv : List (Nat × Value)) (st : List Value) (ws : va_W) : Prop :=
  ∀ (H : Heap) (locs : List Loc) (ls : Array Slot), va_P D vwCl ws H → va_D A ws → va_S A s.heap H locs → lv_has ls nL lv → W p l e R s m args below meth c H locs cells slots Q (F0 m pc ls st)
def CX (p : Program) (s : State) (m : MethodId) (args : Array Value) (c : Code) (D : va_G) (E : Nat → ClassId) (A : Nat → Prop) (cc : ByteArray) (nL : Nat) (own : String) : Prop :=
  p.tables.exec = Jvm.exec ∧ c.code = cc ∧ c.maxLocals = nL ∧ s.vm.findClass own = some m.cls ∧ KK D E s ∧ ∀ q, s.heap.size ≤ q → A q
theorem va_P.subm {D : va_G} {cl : List vw_C} {ws ws' : va_W} {H : Heap} (h : va_P D cl ws H) (is : List Nat) (hs : is.map (fun i => ws[i]?) = ws'.map some) : va_P D cl ws' H := by
  intro k q hk
  have h1 : (is.map (fun i => ws[i]?))[k]? = some (some q) := by rw [hs, List.getElem?_map, hk]; rfl
  rw [List.getElem?_map] at h1
  cases hi : is[k]? with
  | none => rw [hi] at h1; cases h1
  | some i => rw [hi] at h1; exact h i q (Option.some.inj h1)
section Rows
variable {p : Program} {l : Launch} {e : Env} {R : Room} {s : State} {m : MethodId} {args : Array Value} {below : List Frame} {meth : Method} {c : Code} {Q : State → Prop} {D : va_G} {E : Nat → ClassId} {A : Nat → Prop} {cc : ByteArray} {own : String} {nL cells slots pc : Nat} {lv lv' : List (Nat × Value)} {st : List Value} {ws ws' : va_W}
theorem g_perm (ks : List Nat) (h : lv_pick lv ks = lv') (k : GG p l e R s m args below meth c Q D A nL cells slots pc lv' st ws) : GG p l e R s m args below meth c Q D A nL cells slots pc lv st ws :=
  fun H locs ls hP hD hS hl => k H locs ls hP hD hS (lv_sub hl ks h)
theorem g_cells (is : List Nat) (hn : va_nd is = true) (h : is.map (fun i => ws[i]?) = ws'.map some) (k : GG p l e R s m args below meth c Q D A nL cells slots pc lv st ws') : GG p l e R s m args below meth c Q D A nL cells slots pc lv st ws :=
  fun H locs ls hP hD hS hl => k H locs ls (hP.subm is h) (hD.sub is hn h) hS hl
theorem g_widen {k n : Nat} (h1 : cells ≤ k) (h2 : slots ≤ n) (g : GG p l e R s m args below meth c Q D A nL k n pc lv st ws) : GG p l e R s m args below meth c Q D A nL cells slots pc lv st ws :=
  fun H locs ls hP hD hS hl => W.widen h1 h2 (g H locs ls hP hD hS hl)
theorem g_top {x y : Int32} (h : x = y) (k : GG p l e R s m args below meth c Q D A nL cells slots pc lv (.int y :: st) ws) : GG p l e R s m args below meth c Q D A nL cells slots pc lv (.int x :: st) ws := h ▸ k
theorem g_topl {x y : Int64} (h : x = y) (k : GG p l e R s m args below meth c Q D A nL cells slots pc lv (.long y :: st) ws) : GG p l e R s m args below meth c Q D A nL cells slots pc lv (.long x :: st) ws := h ▸ k
theorem g_ws (h : ws = ws') (k : GG p l e R s m args below meth c Q D A nL cells slots pc lv st ws') : GG p l e R s m args below meth c Q D A nL cells slots pc lv st ws := h ▸ k
theorem g_lv (h : lv = lv') (k : GG p l e R s m args below meth c Q D A nL cells slots pc lv' st ws) : GG p l e R s m args below meth c Q D A nL cells slots pc lv st ws := h ▸ k
theorem g_iconst (C : CX p s m args c D E A cc nL own) {n : Int} {v : Int32} (d : decode cc pc = .ok (.iconst n, 1)) (hv : Int32.ofInt n = v) (k : GG p l e R s m args below meth c Q D A nL cells slots (pc + 1) lv (.int v :: st) ws) : GG p l e R s m args below meth c Q D A nL cells slots pc lv st ws :=
  fun H locs ls hP hD hS hl => lv_iconst C.1 C.2.1 d hv (k H locs ls hP hD hS hl)
theorem g_bipush (C : CX p s m args c D E A cc nL own) {n : Int} {v : Int32} (d : decode cc pc = .ok (.bipush n, 2)) (hv : (Int8.ofInt n).toInt32 = v) (k : GG p l e R s m args below meth c Q D A nL cells slots (pc + 2) lv (.int v :: st) ws) : GG p l e R s m args below meth c Q D A nL cells slots pc lv st ws :=
  fun H locs ls hP hD hS hl => lv_bipush C.1 C.2.1 d hv (k H locs ls hP hD hS hl)
theorem g_sipush (C : CX p s m args c D E A cc nL own) {n : Int} {v : Int32} (d : decode cc pc = .ok (.sipush n, 3)) (hv : (Int16.ofInt n).toInt32 = v) (k : GG p l e R s m args below meth c Q D A nL cells slots (pc + 3) lv (.int v :: st) ws) : GG p l e R s m args below meth c Q D A nL cells slots pc lv st ws :=
  fun H locs ls hP hD hS hl => lv_sipush C.1 C.2.1 d hv (k H locs ls hP hD hS hl)
theorem g_iload_n (C : CX p s m args c D E A cc nL own) {f : Fin 4} {i : Nat} {x : Int32} (d : decode cc pc = .ok (.iload_n f, 1)) (hi : (f : Nat) = i) (j : Nat) (h : lv[j]? = some (i, .int x)) (k : GG p l e R s m args below meth c Q D A nL cells slots (pc + 1) lv (.int x :: st) ws) : GG p l e R s m args below meth c Q D A nL cells slots pc lv st ws :=
  fun H locs ls hP hD hS hl => lv_iload_n C.1 C.2.1 d hi (lv_at hl j h) (k H locs ls hP hD hS hl)
theorem g_iload (C : CX p s m args c D E A cc nL own) {i : Nat} {x : Int32} (d : decode cc pc = .ok (.iload i, 2)) (j : Nat) (h : lv[j]? = some (i, .int x)) (k : GG p l e R s m args below meth c Q D A nL cells slots (pc + 2) lv (.int x :: st) ws) : GG p l e R s m args below meth c Q D A nL cells slots pc lv st ws :=
  fun H locs ls hP hD hS hl => lv_iload C.1 C.2.1 d (lv_at hl j h) (k H locs ls hP hD hS hl)
theorem g_aload_n (C : CX p s m args c D E A cc nL own) {f : Fin 4} {i : Nat} {x : Nat} (d : decode cc pc = .ok (.aload_n f, 1)) (hi : (f : Nat) = i) (j : Nat) (h : lv[j]? = some (i, .ref x)) (k : GG p l e R s m args below meth c Q D A nL cells slots (pc + 1) lv (.ref x :: st) ws) : GG p l e R s m args below meth c Q D A nL cells slots pc lv st ws :=
  fun H locs ls hP hD hS hl => lv_aload_n C.1 C.2.1 d hi (lv_at hl j h) (k H locs ls hP hD hS hl)
theorem g_aload (C : CX p s m args c D E A cc nL own) {i : Nat} {x : Nat} (d : decode cc pc = .ok (.aload i, 2)) (j : Nat) (h : lv[j]? = some (i, .ref x)) (k : GG p l e R s m args below meth c Q D A nL cells slots (pc + 2) lv (.ref x :: st) ws) : GG p l e R s m args below meth c Q D A nL cells slots pc lv st ws :=
  fun H locs ls hP hD hS hl => lv_aload C.1 C.2.1 d (lv_at hl j h) (k H locs ls hP hD hS hl)
theorem g_istore_n (C : CX p s m args c D E A cc nL own) {f : Fin 4} {i : Nat} {x : Int32} (d : decode cc pc = .ok (.istore_n f, 1)) (hi : (f : Nat) = i) (hn : i < nL) (hv : (i, Value.int x) :: lv.filter (fun q => !(q.1 == i) && !(q.1 + 1 == i && q.2.category == 2)) = lv') (k : GG p l e R s m args below meth c Q D A nL cells slots (pc + 1) lv' st ws) : GG p l e R s m args below meth c Q D A nL cells slots pc lv (.int x :: st) ws :=
  fun H locs ls hP hD hS hl => lv_istore_n C.1 C.2.1 d hi hl hn hv (fun ls hl => k H locs ls hP hD hS hl)
theorem g_istore (C : CX p s m args c D E A cc nL own) {i : Nat} {x : Int32} (d : decode cc pc = .ok (.istore i, 2)) (hn : i < nL) (hv : (i, Value.int x) :: lv.filter (fun q => !(q.1 == i) && !(q.1 + 1 == i && q.2.category == 2)) = lv') (k : GG p l e R s m args below meth c Q D A nL cells slots (pc + 2) lv' st ws) : GG p l e R s m args below meth c Q D A nL cells slots pc lv (.int x :: st) ws :=
  fun H locs ls hP hD hS hl => lv_istore C.1 C.2.1 d hl hn hv (fun ls hl => k H locs ls hP hD hS hl)
theorem g_astore_n (C : CX p s m args c D E A cc nL own) {f : Fin 4} {i : Nat} {x : Nat} (d : decode cc pc = .ok (.astore_n f, 1)) (hi : (f : Nat) = i) (hn : i < nL) (hv : (i, Value.ref x) :: lv.filter (fun q => !(q.1 == i) && !(q.1 + 1 == i && q.2.category == 2)) = lv') (k : GG p l e R s m args below meth c Q D A nL cells slots (pc + 1) lv' st ws) : GG p l e R s m args below meth c Q D A nL cells slots pc lv (.ref x :: st) ws :=
  fun H locs ls hP hD hS hl => lv_astore_n C.1 C.2.1 d hi hl hn hv (fun ls hl => k H locs ls hP hD hS hl)
theorem g_astore (C : CX p s m args c D E A cc nL own) {i : Nat} {x : Nat} (d : decode cc pc = .ok (.astore i, 2)) (hn : i < nL) (hv : (i, Value.ref x) :: lv.filter (fun q => !(q.1 == i) && !(q.1 + 1 == i && q.2.category == 2)) = lv') (k : GG p l e R s m args below meth c Q D A nL cells slots (pc + 2) lv' st ws) : GG p l e R s m args below meth c Q D A nL cells slots pc lv (.ref x :: st) ws :=
  fun H locs ls hP hD hS hl => lv_astore C.1 C.2.1 d hl hn hv (fun ls hl => k H locs ls hP hD hS hl)
theorem g_iinc (C : CX p s m args c D E A cc nL own) {i : Nat} {n : Int} {x v : Int32} (d : decode cc pc = .ok (.iinc i n, 3)) (j : Nat) (h : lv[j]? = some (i, .int x)) (he : x + Int32.ofInt n = v) (hn : i < nL) (hv : (i, Value.int v) :: lv.filter (fun q => !(q.1 == i) && !(q.1 + 1 == i && q.2.category == 2)) = lv') (k : GG p l e R s m args below meth c Q D A nL cells slots (pc + 3) lv' st ws) : GG p l e R s m args below meth c Q D A nL cells slots pc lv st ws :=
  fun H locs ls hP hD hS hl => lv_iinc (k := j) C.1 C.2.1 d hl h he hn hv (fun ls hl => k H locs ls hP hD hS hl)
theorem g_iadd (C : CX p s m args c D E A cc nL own) {x y : Int32} (d : decode cc pc = .ok (.iadd, 1)) (k : GG p l e R s m args below meth c Q D A nL cells slots (pc + 1) lv (.int (x + y) :: st) ws) : GG p l e R s m args below meth c Q D A nL cells slots pc lv (.int y :: .int x :: st) ws :=
  fun H locs ls hP hD hS hl => lv_iadd C.1 C.2.1 d (k H locs ls hP hD hS hl)
theorem g_isub (C : CX p s m args c D E A cc nL own) {x y : Int32} (d : decode cc pc = .ok (.isub, 1)) (k : GG p l e R s m args below meth c Q D A nL cells slots (pc + 1) lv (.int (x - y) :: st) ws) : GG p l e R s m args below meth c Q D A nL cells slots pc lv (.int y :: .int x :: st) ws :=
  fun H locs ls hP hD hS hl => lv_isub C.1 C.2.1 d (k H locs ls hP hD hS hl)
theorem g_imul (C : CX p s m args c D E A cc nL own) {x y : Int32} (d : decode cc pc = .ok (.imul, 1)) (k : GG p l e R s m args below meth c Q D A nL cells slots (pc + 1) lv (.int (x * y) :: st) ws) : GG p l e R s m args below meth c Q D A nL cells slots pc lv (.int y :: .int x :: st) ws :=
  fun H locs ls hP hD hS hl => lv_imul C.1 C.2.1 d (k H locs ls hP hD hS hl)
theorem g_iand (C : CX p s m args c D E A cc nL own) {x y : Int32} (d : decode cc pc = .ok (.iand, 1)) (k : GG p l e R s m args below meth c Q D A nL cells slots (pc + 1) lv (.int (x &&& y) :: st) ws) : GG p l e R s m args below meth c Q D A nL cells slots pc lv (.int y :: .int x :: st) ws :=
  fun H locs ls hP hD hS hl => lv_iand C.1 C.2.1 d (k H locs ls hP hD hS hl)
theorem g_ior (C : CX p s m args c D E A cc nL own) {x y : Int32} (d : decode cc pc = .ok (.ior, 1)) (k : GG p l e R s m args below meth c Q D A nL cells slots (pc + 1) lv (.int (x ||| y) :: st) ws) : GG p l e R s m args below meth c Q D A nL cells slots pc lv (.int y :: .int x :: st) ws :=
  fun H locs ls hP hD hS hl => lv_ior C.1 C.2.1 d (k H locs ls hP hD hS hl)
theorem g_ixor (C : CX p s m args c D E A cc nL own) {x y : Int32} (d : decode cc pc = .ok (.ixor, 1)) (k : GG p l e R s m args below meth c Q D A nL cells slots (pc + 1) lv (.int (x ^^^ y) :: st) ws) : GG p l e R s m args below meth c Q D A nL cells slots pc lv (.int y :: .int x :: st) ws :=
  fun H locs ls hP hD hS hl => lv_ixor C.1 C.2.1 d (k H locs ls hP hD hS hl)
theorem g_ishl (C : CX p s m args c D E A cc nL own) {x y : Int32} (d : decode cc pc = .ok (.ishl, 1)) (k : GG p l e R s m args below meth c Q D A nL cells slots (pc + 1) lv (.int (x <<< (y &&& 31)) :: st) ws) : GG p l e R s m args below meth c Q D A nL cells slots pc lv (.int y :: .int x :: st) ws :=
  fun H locs ls hP hD hS hl => lv_ishl C.1 C.2.1 d (k H locs ls hP hD hS hl)
theorem g_ishr (C : CX p s m args c D E A cc nL own) {x y : Int32} (d : decode cc pc = .ok (.ishr, 1)) (k : GG p l e R s m args below meth c Q D A nL cells slots (pc + 1) lv (.int (x >>> (y &&& 31)) :: st) ws) : GG p l e R s m args below meth c Q D A nL cells slots pc lv (.int y :: .int x :: st) ws :=
  fun H locs ls hP hD hS hl => lv_ishr C.1 C.2.1 d (k H locs ls hP hD hS hl)
theorem g_dup (C : CX p s m args c D E A cc nL own) {v : Value} (d : decode cc pc = .ok (.dup, 1)) (hc : v.category = 1) (k : GG p l e R s m args below meth c Q D A nL cells slots (pc + 1) lv (v :: v :: st) ws) : GG p l e R s m args below meth c Q D A nL cells slots pc lv (v :: st) ws :=
  fun H locs ls hP hD hS hl => lv_dup C.1 C.2.1 d hc (k H locs ls hP hD hS hl)
theorem g_pop (C : CX p s m args c D E A cc nL own) {v : Value} (d : decode cc pc = .ok (.pop, 1)) (hc : v.category = 1) (k : GG p l e R s m args below meth c Q D A nL cells slots (pc + 1) lv st ws) : GG p l e R s m args below meth c Q D A nL cells slots pc lv (v :: st) ws :=
  fun H locs ls hP hD hS hl => lv_pop C.1 C.2.1 d hc (k H locs ls hP hD hS hl)
theorem g_dup_x1 (C : CX p s m args c D E A cc nL own) {va vb : Value} (d : decode cc pc = .ok (.dup_x1, 1)) (ha : va.category = 1) (hb : vb.category = 1) (k : GG p l e R s m args below meth c Q D A nL cells slots (pc + 1) lv (va :: vb :: va :: st) ws) : GG p l e R s m args below meth c Q D A nL cells slots pc lv (va :: vb :: st) ws :=
  fun H locs ls hP hD hS hl => lv_dup_x1 C.1 C.2.1 d ha hb (k H locs ls hP hD hS hl)
theorem g_dup2 (C : CX p s m args c D E A cc nL own) {va vb : Value} (d : decode cc pc = .ok (.dup2, 1)) (ha : va.category = 1) (hb : vb.category = 1) (k : GG p l e R s m args below meth c Q D A nL cells slots (pc + 1) lv (va :: vb :: va :: vb :: st) ws) : GG p l e R s m args below meth c Q D A nL cells slots pc lv (va :: vb :: st) ws :=
  fun H locs ls hP hD hS hl => lv_dup2_11 C.1 C.2.1 d ha hb (k H locs ls hP hD hS hl)
theorem g_if_eq (C : CX p s m args c D E A cc nL own) {x : Int32} {off : Int} {tgt : Nat} (d : decode cc pc = .ok (.ifCond .eq off, 3)) (ht : (pc : Int) + off = (tgt : Int)) (kt : x = 0 → GG p l e R s m args below meth c Q D A nL cells slots tgt lv st ws) (kf : ¬ x = 0 → GG p l e R s m args below meth c Q D A nL cells slots (pc + 3) lv st ws) : GG p l e R s m args below meth c Q D A nL cells slots pc lv (.int x :: st) ws :=
  fun H locs ls hP hD hS hl => lv_if_eq C.1 C.2.1 d ht (fun h => kt h H locs ls hP hD hS hl) (fun h => kf h H locs ls hP hD hS hl)
theorem g_if_ne (C : CX p s m args c D E A cc nL own) {x : Int32} {off : Int} {tgt : Nat} (d : decode cc pc = .ok (.ifCond .ne off, 3)) (ht : (pc : Int) + off = (tgt : Int)) (kt : ¬ x = 0 → GG p l e R s m args below meth c Q D A nL cells slots tgt lv st ws) (kf : x = 0 → GG p l e R s m args below meth c Q D A nL cells slots (pc + 3) lv st ws) : GG p l e R s m args below meth c Q D A nL cells slots pc lv (.int x :: st) ws :=
  fun H locs ls hP hD hS hl => lv_if_ne C.1 C.2.1 d ht (fun h => kt h H locs ls hP hD hS hl) (fun h => kf h H locs ls hP hD hS hl)
theorem g_if_lt (C : CX p s m args c D E A cc nL own) {x : Int32} {off : Int} {tgt : Nat} (d : decode cc pc = .ok (.ifCond .lt off, 3)) (ht : (pc : Int) + off = (tgt : Int)) (kt : x < 0 → GG p l e R s m args below meth c Q D A nL cells slots tgt lv st ws) (kf : ¬ x < 0 → GG p l e R s m args below meth c Q D A nL cells slots (pc + 3) lv st ws) : GG p l e R s m args below meth c Q D A nL cells slots pc lv (.int x :: st) ws :=
  fun H locs ls hP hD hS hl => lv_if_lt C.1 C.2.1 d ht (fun h => kt h H locs ls hP hD hS hl) (fun h => kf h H locs ls hP hD hS hl)
theorem g_if_ge (C : CX p s m args c D E A cc nL own) {x : Int32} {off : Int} {tgt : Nat} (d : decode cc pc = .ok (.ifCond .ge off, 3)) (ht : (pc : Int) + off = (tgt : Int)) (kt : 0 ≤ x → GG p l e R s m args below meth c Q D A nL cells slots tgt lv st ws) (kf : ¬ 0 ≤ x → GG p l e R s m args below meth c Q D A nL cells slots (pc + 3) lv st ws) : GG p l e R s m args below meth c Q D A nL cells slots pc lv (.int x :: st) ws :=
  fun H locs ls hP hD hS hl => lv_if_ge C.1 C.2.1 d ht (fun h => kt h H locs ls hP hD hS hl) (fun h => kf h H locs ls hP hD hS hl)
theorem g_if_gt (C : CX p s m args c D E A cc nL own) {x : Int32} {off : Int} {tgt : Nat} (d : decode cc pc = .ok (.ifCond .gt off, 3)) (ht : (pc : Int) + off = (tgt : Int)) (kt : 0 < x → GG p l e R s m args below meth c Q D A nL cells slots tgt lv st ws) (kf : ¬ 0 < x → GG p l e R s m args below meth c Q D A nL cells slots (pc + 3) lv st ws) : GG p l e R s m args below meth c Q D A nL cells slots pc lv (.int x :: st) ws :=
  fun H locs ls hP hD hS hl => lv_if_gt C.1 C.2.1 d ht (fun h => kt h H locs ls hP hD hS hl) (fun h => kf h H locs ls hP hD hS hl)
theorem g_if_le (C : CX p s m args c D E A cc nL own) {x : Int32} {off : Int} {tgt : Nat} (d : decode cc pc = .ok (.ifCond .le off, 3)) (ht : (pc : Int) + off = (tgt : Int)) (kt : x ≤ 0 → GG p l e R s m args below meth c Q D A nL cells slots tgt lv st ws) (kf : ¬ x ≤ 0 → GG p l e R s m args below meth c Q D A nL cells slots (pc + 3) lv st ws) : GG p l e R s m args below meth c Q D A nL cells slots pc lv (.int x :: st) ws :=
  fun H locs ls hP hD hS hl => lv_if_le C.1 C.2.1 d ht (fun h => kt h H locs ls hP hD hS hl) (fun h => kf h H locs ls hP hD hS hl)
theorem g_icmp_eq (C : CX p s m args c D E A cc nL own) {x y : Int32} {off : Int} {tgt : Nat} (d : decode cc pc = .ok (.if_icmp .eq off, 3)) (ht : (pc : Int) + off = (tgt : Int)) (kt : x = y → GG p l e R s m args below meth c Q D A nL cells slots tgt lv st ws) (kf : ¬ x = y → GG p l e R s m args below meth c Q D A nL cells slots (pc + 3) lv st ws) : GG p l e R s m args below meth c Q D A nL cells slots pc lv (.int y :: .int x :: st) ws :=
  fun H locs ls hP hD hS hl => lv_icmp_eq C.1 C.2.1 d ht (fun h => kt h H locs ls hP hD hS hl) (fun h => kf h H locs ls hP hD hS hl)
theorem g_icmp_ne (C : CX p s m args c D E A cc nL own) {x y : Int32} {off : Int} {tgt : Nat} (d : decode cc pc = .ok (.if_icmp .ne off, 3)) (ht : (pc : Int) + off = (tgt : Int)) (kt : ¬ x = y → GG p l e R s m args below meth c Q D A nL cells slots tgt lv st ws) (kf : x = y → GG p l e R s m args below meth c Q D A nL cells slots (pc + 3) lv st ws) : GG p l e R s m args below meth c Q D A nL cells slots pc lv (.int y :: .int x :: st) ws :=
  fun H locs ls hP hD hS hl => lv_icmp_ne C.1 C.2.1 d ht (fun h => kt h H locs ls hP hD hS hl) (fun h => kf h H locs ls hP hD hS hl)
theorem g_icmp_lt (C : CX p s m args c D E A cc nL own) {x y : Int32} {off : Int} {tgt : Nat} (d : decode cc pc = .ok (.if_icmp .lt off, 3)) (ht : (pc : Int) + off = (tgt : Int)) (kt : x < y → GG p l e R s m args below meth c Q D A nL cells slots tgt lv st ws) (kf : ¬ x < y → GG p l e R s m args below meth c Q D A nL cells slots (pc + 3) lv st ws) : GG p l e R s m args below meth c Q D A nL cells slots pc lv (.int y :: .int x :: st) ws :=
  fun H locs ls hP hD hS hl => lv_icmp_lt C.1 C.2.1 d ht (fun h => kt h H locs ls hP hD hS hl) (fun h => kf h H locs ls hP hD hS hl)
theorem g_icmp_ge (C : CX p s m args c D E A cc nL own) {x y : Int32} {off : Int} {tgt : Nat} (d : decode cc pc = .ok (.if_icmp .ge off, 3)) (ht : (pc : Int) + off = (tgt : Int)) (kt : y ≤ x → GG p l e R s m args below meth c Q D A nL cells slots tgt lv st ws) (kf : ¬ y ≤ x → GG p l e R s m args below meth c Q D A nL cells slots (pc + 3) lv st ws) : GG p l e R s m args below meth c Q D A nL cells slots pc lv (.int y :: .int x :: st) ws :=
  fun H locs ls hP hD hS hl => lv_icmp_ge C.1 C.2.1 d ht (fun h => kt h H locs ls hP hD hS hl) (fun h => kf h H locs ls hP hD hS hl)
theorem g_icmp_gt (C : CX p s m args c D E A cc nL own) {x y : Int32} {off : Int} {tgt : Nat} (d : decode cc pc = .ok (.if_icmp .gt off, 3)) (ht : (pc : Int) + off = (tgt : Int)) (kt : y < x → GG p l e R s m args below meth c Q D A nL cells slots tgt lv st ws) (kf : ¬ y < x → GG p l e R s m args below meth c Q D A nL cells slots (pc + 3) lv st ws) : GG p l e R s m args below meth c Q D A nL cells slots pc lv (.int y :: .int x :: st) ws :=
  fun H locs ls hP hD hS hl => lv_icmp_gt C.1 C.2.1 d ht (fun h => kt h H locs ls hP hD hS hl) (fun h => kf h H locs ls hP hD hS hl)
theorem g_icmp_le (C : CX p s m args c D E A cc nL own) {x y : Int32} {off : Int} {tgt : Nat} (d : decode cc pc = .ok (.if_icmp .le off, 3)) (ht : (pc : Int) + off = (tgt : Int)) (kt : x ≤ y → GG p l e R s m args below meth c Q D A nL cells slots tgt lv st ws) (kf : ¬ x ≤ y → GG p l e R s m args below meth c Q D A nL cells slots (pc + 3) lv st ws) : GG p l e R s m args below meth c Q D A nL cells slots pc lv (.int y :: .int x :: st) ws :=
  fun H locs ls hP hD hS hl => lv_icmp_le C.1 C.2.1 d ht (fun h => kt h H locs ls hP hD hS hl) (fun h => kf h H locs ls hP hD hS hl)
theorem g_goto (C : CX p s m args c D E A cc nL own) {off : Int} {tgt : Nat} (d : decode cc pc = .ok (.goto off, 3)) (ht : (pc : Int) + off = (tgt : Int)) (k : GG p l e R s m args below meth c Q D A nL cells slots tgt lv st ws) : GG p l e R s m args below meth c Q D A nL cells slots pc lv st ws :=
  fun H locs ls hP hD hS hl => lv_goto C.1 C.2.1 d ht (k H locs ls hP hD hS hl)
theorem g_icmp_eqN (C : CX p s m args c D E A cc nL own) {a b : Nat} (ha : a < 2 ^ 31) (hb : b < 2 ^ 31) {off : Int} {tgt : Nat} (d : decode cc pc = .ok (.if_icmp .eq off, 3)) (ht : (pc : Int) + off = (tgt : Int)) (kt : a = b → GG p l e R s m args below meth c Q D A nL cells slots tgt lv st ws) (kf : a ≠ b → GG p l e R s m args below meth c Q D A nL cells slots (pc + 3) lv st ws) : GG p l e R s m args below meth c Q D A nL cells slots pc lv (.int (nI b) :: .int (nI a) :: st) ws :=
  g_icmp_eq C d ht (fun h => kt ((nI_eq ha hb).mp h)) (fun h => kf (fun q => h ((nI_eq ha hb).mpr q)))
theorem g_icmp_neN (C : CX p s m args c D E A cc nL own) {a b : Nat} (ha : a < 2 ^ 31) (hb : b < 2 ^ 31) {off : Int} {tgt : Nat} (d : decode cc pc = .ok (.if_icmp .ne off, 3)) (ht : (pc : Int) + off = (tgt : Int)) (kt : a ≠ b → GG p l e R s m args below meth c Q D A nL cells slots tgt lv st ws) (kf : a = b → GG p l e R s m args below meth c Q D A nL cells slots (pc + 3) lv st ws) : GG p l e R s m args below meth c Q D A nL cells slots pc lv (.int (nI b) :: .int (nI a) :: st) ws :=
  g_icmp_ne C d ht (fun h => kt (fun q => h ((nI_eq ha hb).mpr q))) (fun h => kf ((nI_eq ha hb).mp h))
theorem g_icmp_ltN (C : CX p s m args c D E A cc nL own) {a b : Nat} (ha : a < 2 ^ 31) (hb : b < 2 ^ 31) {off : Int} {tgt : Nat} (d : decode cc pc = .ok (.if_icmp .lt off, 3)) (ht : (pc : Int) + off = (tgt : Int)) (kt : a < b → GG p l e R s m args below meth c Q D A nL cells slots tgt lv st ws) (kf : b ≤ a → GG p l e R s m args below meth c Q D A nL cells slots (pc + 3) lv st ws) : GG p l e R s m args below meth c Q D A nL cells slots pc lv (.int (nI b) :: .int (nI a) :: st) ws :=
  g_icmp_lt C d ht (fun h => kt ((nI_ltI ha hb).mp h)) (fun h => kf (Nat.not_lt.mp fun q => h ((nI_ltI ha hb).mpr q)))
theorem g_icmp_geN (C : CX p s m args c D E A cc nL own) {a b : Nat} (ha : a < 2 ^ 31) (hb : b < 2 ^ 31) {off : Int} {tgt : Nat} (d : decode cc pc = .ok (.if_icmp .ge off, 3)) (ht : (pc : Int) + off = (tgt : Int)) (kt : b ≤ a → GG p l e R s m args below meth c Q D A nL cells slots tgt lv st ws) (kf : a < b → GG p l e R s m args below meth c Q D A nL cells slots (pc + 3) lv st ws) : GG p l e R s m args below meth c Q D A nL cells slots pc lv (.int (nI b) :: .int (nI a) :: st) ws :=
  g_icmp_ge C d ht (fun h => kt ((nI_leI hb ha).mp h)) (fun h => kf (Nat.not_le.mp fun q => h ((nI_leI hb ha).mpr q)))
theorem g_icmp_gtN (C : CX p s m args c D E A cc nL own) {a b : Nat} (ha : a < 2 ^ 31) (hb : b < 2 ^ 31) {off : Int} {tgt : Nat} (d : decode cc pc = .ok (.if_icmp .gt off, 3)) (ht : (pc : Int) + off = (tgt : Int)) (kt : b < a → GG p l e R s m args below meth c Q D A nL cells slots tgt lv st ws) (kf : a ≤ b → GG p l e R s m args below meth c Q D A nL cells slots (pc + 3) lv st ws) : GG p l e R s m args below meth c Q D A nL cells slots pc lv (.int (nI b) :: .int (nI a) :: st) ws :=
  g_icmp_gt C d ht (fun h => kt ((nI_ltI hb ha).mp h)) (fun h => kf (Nat.not_lt.mp fun q => h ((nI_ltI hb ha).mpr q)))
theorem g_icmp_leN (C : CX p s m args c D E A cc nL own) {a b : Nat} (ha : a < 2 ^ 31) (hb : b < 2 ^ 31) {off : Int} {tgt : Nat} (d : decode cc pc = .ok (.if_icmp .le off, 3)) (ht : (pc : Int) + off = (tgt : Int)) (kt : a ≤ b → GG p l e R s m args below meth c Q D A nL cells slots tgt lv st ws) (kf : b < a → GG p l e R s m args below meth c Q D A nL cells slots (pc + 3) lv st ws) : GG p l e R s m args below meth c Q D A nL cells slots pc lv (.int (nI b) :: .int (nI a) :: st) ws :=
  g_icmp_le C d ht (fun h => kt ((nI_leI ha hb).mp h)) (fun h => kf (Nat.not_le.mp fun q => h ((nI_leI ha hb).mpr q)))
theorem nI_z {a : Nat} (ha : a < 2 ^ 31) : nI a = 0 ↔ a = 0 := by rw [← nI_0]; exact nI_eq ha (by decide)
theorem g_if_eqN (C : CX p s m args c D E A cc nL own) {a : Nat} (ha : a < 2 ^ 31) {off : Int} {tgt : Nat} (d : decode cc pc = .ok (.ifCond .eq off, 3)) (ht : (pc : Int) + off = (tgt : Int)) (kt : a = 0 → GG p l e R s m args below meth c Q D A nL cells slots tgt lv st ws) (kf : a ≠ 0 → GG p l e R s m args below meth c Q D A nL cells slots (pc + 3) lv st ws) : GG p l e R s m args below meth c Q D A nL cells slots pc lv (.int (nI a) :: st) ws :=
  g_if_eq C d ht (fun h => kt ((nI_z ha).mp h)) (fun h => kf (fun q => h ((nI_z ha).mpr q)))
theorem g_if_neN (C : CX p s m args c D E A cc nL own) {a : Nat} (ha : a < 2 ^ 31) {off : Int} {tgt : Nat} (d : decode cc pc = .ok (.ifCond .ne off, 3)) (ht : (pc : Int) + off = (tgt : Int)) (kt : a ≠ 0 → GG p l e R s m args below meth c Q D A nL cells slots tgt lv st ws) (kf : a = 0 → GG p l e R s m args below meth c Q D A nL cells slots (pc + 3) lv st ws) : GG p l e R s m args below meth c Q D A nL cells slots pc lv (.int (nI a) :: st) ws :=
  g_if_ne C d ht (fun h => kt (fun q => h ((nI_z ha).mpr q))) (fun h => kf ((nI_z ha).mp h))
theorem g_if_ltN (C : CX p s m args c D E A cc nL own) {a : Nat} (ha : a < 2 ^ 31) {off : Int} {tgt : Nat} (d : decode cc pc = .ok (.ifCond .lt off, 3)) (ht : (pc : Int) + off = (tgt : Int)) (kf : GG p l e R s m args below meth c Q D A nL cells slots (pc + 3) lv st ws) : GG p l e R s m args below meth c Q D A nL cells slots pc lv (.int (nI a) :: st) ws :=
  g_if_lt C d ht (fun h => absurd h (nI_pos ha)) (fun _ => kf)
theorem g_if_geN (C : CX p s m args c D E A cc nL own) {a : Nat} (ha : a < 2 ^ 31) {off : Int} {tgt : Nat} (d : decode cc pc = .ok (.ifCond .ge off, 3)) (ht : (pc : Int) + off = (tgt : Int)) (kt : GG p l e R s m args below meth c Q D A nL cells slots tgt lv st ws) : GG p l e R s m args below meth c Q D A nL cells slots pc lv (.int (nI a) :: st) ws :=
  g_if_ge C d ht (fun _ => kt) (fun h => absurd (nI_pos' ha) h)
theorem bt_of {b : Bool} (h : ¬ b = false) : b = true := by cases b; exact absurd rfl h; rfl
def bI (b : Bool) : Int32 := if b then 1 else 0
theorem bI_t : bI true = 1 := rfl
theorem bI_f : bI false = 0 := rfl
theorem bI_z {b : Bool} : bI b = 0 ↔ b = false := by cases b <;> decide
theorem bI_inj {a b : Bool} : bI a = bI b ↔ a = b := by cases a <;> cases b <;> decide
theorem bI_nar (b : Bool) : narrow .boolean (.int (bI b)) = .int (bI b) := by cases b <;> rfl
theorem g_if_eqB (C : CX p s m args c D E A cc nL own) {b : Bool} {off : Int} {tgt : Nat} (d : decode cc pc = .ok (.ifCond .eq off, 3)) (ht : (pc : Int) + off = (tgt : Int)) (kt : b = false → GG p l e R s m args below meth c Q D A nL cells slots tgt lv st ws) (kf : b = true → GG p l e R s m args below meth c Q D A nL cells slots (pc + 3) lv st ws) : GG p l e R s m args below meth c Q D A nL cells slots pc lv (.int (bI b) :: st) ws :=
  g_if_eq C d ht (fun h => kt (bI_z.mp h)) (fun h => kf (bt_of fun q => h (bI_z.mpr q)))
theorem g_if_neB (C : CX p s m args c D E A cc nL own) {b : Bool} {off : Int} {tgt : Nat} (d : decode cc pc = .ok (.ifCond .ne off, 3)) (ht : (pc : Int) + off = (tgt : Int)) (kt : b = true → GG p l e R s m args below meth c Q D A nL cells slots tgt lv st ws) (kf : b = false → GG p l e R s m args below meth c Q D A nL cells slots (pc + 3) lv st ws) : GG p l e R s m args below meth c Q D A nL cells slots pc lv (.int (bI b) :: st) ws :=
  g_if_ne C d ht (fun h => kt (bt_of fun q => h (bI_z.mpr q))) (fun h => kf (bI_z.mp h))
theorem g_icmp_eqB (C : CX p s m args c D E A cc nL own) {a b : Bool} {off : Int} {tgt : Nat} (d : decode cc pc = .ok (.if_icmp .eq off, 3)) (ht : (pc : Int) + off = (tgt : Int)) (kt : a = b → GG p l e R s m args below meth c Q D A nL cells slots tgt lv st ws) (kf : a ≠ b → GG p l e R s m args below meth c Q D A nL cells slots (pc + 3) lv st ws) : GG p l e R s m args below meth c Q D A nL cells slots pc lv (.int (bI b) :: .int (bI a) :: st) ws :=
  g_icmp_eq C d ht (fun h => kt (bI_inj.mp h)) (fun h => kf (fun q => h (bI_inj.mpr q)))
theorem g_icmp_neB (C : CX p s m args c D E A cc nL own) {a b : Bool} {off : Int} {tgt : Nat} (d : decode cc pc = .ok (.if_icmp .ne off, 3)) (ht : (pc : Int) + off = (tgt : Int)) (kt : a ≠ b → GG p l e R s m args below meth c Q D A nL cells slots tgt lv st ws) (kf : a = b → GG p l e R s m args below meth c Q D A nL cells slots (pc + 3) lv st ws) : GG p l e R s m args below meth c Q D A nL cells slots pc lv (.int (bI b) :: .int (bI a) :: st) ws :=
  g_icmp_ne C d ht (fun h => kt (fun q => h (bI_inj.mpr q))) (fun h => kf (bI_inj.mp h))
theorem nx_or (a b : Nat) : nI a ||| nI b = nI (a ||| b) := by
  apply Int32.toBitVec_inj.mp
  show BitVec.ofNat 32 a ||| BitVec.ofNat 32 b = BitVec.ofNat 32 (a ||| b)
  apply BitVec.eq_of_toNat_eq
  simp [Nat.or_mod_two_pow]
theorem nx_and (a b : Nat) : nI a &&& nI b = nI (a &&& b) := by
  apply Int32.toBitVec_inj.mp
  show BitVec.ofNat 32 a &&& BitVec.ofNat 32 b = BitVec.ofNat 32 (a &&& b)
  apply BitVec.eq_of_toNat_eq
  simp [Nat.and_mod_two_pow]
/-- what is in a and not in b -/
def dif (a b : Nat) : Nat := a ^^^ (a &&& b)
theorem dif_bit (a b i : Nat) : (dif a b).testBit i = (a.testBit i && !b.testBit i) := by
  simp only [dif, Nat.testBit_xor, Nat.testBit_and]
  cases a.testBit i <;> cases b.testBit i <;> rfl
theorem dif_le (a b : Nat) : dif a b ≤ a := by
  apply Nat.le_of_testBit
  intro i h
  rw [dif_bit] at h
  revert h; cases a.testBit i <;> simp
theorem nx_dif (a b : Nat) : nI a &&& (nI b ^^^ -1) = nI (dif a b) := by
  apply Int32.toBitVec_inj.mp
  show BitVec.ofNat 32 a &&& (BitVec.ofNat 32 b ^^^ BitVec.allOnes 32) = BitVec.ofNat 32 (dif a b)
  apply BitVec.eq_of_getLsbD_eq
  intro i hi
  simp only [BitVec.getLsbD_and, BitVec.getLsbD_xor, BitVec.getLsbD_allOnes, BitVec.getLsbD_ofNat, dif_bit, hi, decide_true, Bool.true_and, Bool.xor_true]
theorem nx_shl1 : ∀ a, a < 32 → (1 : Int32) <<< (nI a &&& 31) = nI (2 ^ a) := by decide +kernel
theorem g_iaddN (C : CX p s m args c D E A cc nL own) {a b : Nat} (d : decode cc pc = .ok (.iadd, 1)) (k : GG p l e R s m args below meth c Q D A nL cells slots (pc + 1) lv (.int (nI (a + b)) :: st) ws) : GG p l e R s m args below meth c Q D A nL cells slots pc lv (.int (nI b) :: .int (nI a) :: st) ws :=
  g_iadd C d (g_top (nI_add a b) k)
theorem g_isubN (C : CX p s m args c D E A cc nL own) {a b : Nat} (h : b ≤ a) (d : decode cc pc = .ok (.isub, 1)) (k : GG p l e R s m args below meth c Q D A nL cells slots (pc + 1) lv (.int (nI (a - b)) :: st) ws) : GG p l e R s m args below meth c Q D A nL cells slots pc lv (.int (nI b) :: .int (nI a) :: st) ws :=
  g_isub C d (g_top (pk_sub h) k)
theorem g_iandN (C : CX p s m args c D E A cc nL own) {a b : Nat} (d : decode cc pc = .ok (.iand, 1)) (k : GG p l e R s m args below meth c Q D A nL cells slots (pc + 1) lv (.int (nI (a &&& b)) :: st) ws) : GG p l e R s m args below meth c Q D A nL cells slots pc lv (.int (nI b) :: .int (nI a) :: st) ws :=
  g_iand C d (g_top (nx_and a b) k)
theorem g_iandD (C : CX p s m args c D E A cc nL own) {a b : Nat} (d : decode cc pc = .ok (.iand, 1)) (k : GG p l e R s m args below meth c Q D A nL cells slots (pc + 1) lv (.int (nI (dif a b)) :: st) ws) : GG p l e R s m args below meth c Q D A nL cells slots pc lv (.int (nI b ^^^ -1) :: .int (nI a) :: st) ws :=
  g_iand C d (g_top (nx_dif a b) k)
theorem g_iorN (C : CX p s m args c D E A cc nL own) {a b : Nat} (d : decode cc pc = .ok (.ior, 1)) (k : GG p l e R s m args below meth c Q D A nL cells slots (pc + 1) lv (.int (nI (a ||| b)) :: st) ws) : GG p l e R s m args below meth c Q D A nL cells slots pc lv (.int (nI b) :: .int (nI a) :: st) ws :=
  g_ior C d (g_top (nx_or a b) k)
theorem g_ishl1N (C : CX p s m args c D E A cc nL own) {a : Nat} (h : a < 32) (d : decode cc pc = .ok (.ishl, 1)) (k : GG p l e R s m args below meth c Q D A nL cells slots (pc + 1) lv (.int (nI (2 ^ a)) :: st) ws) : GG p l e R s m args below meth c Q D A nL cells slots pc lv (.int (nI a) :: .int (nI 1) :: st) ws :=
  g_ishl C d (g_top (nx_shl1 a h) k)
theorem g_iincN (C : CX p s m args c D E A cc nL own) {i a b : Nat} {n : Int} (d : decode cc pc = .ok (.iinc i n, 3)) (j : Nat) (h : lv[j]? = some (i, .int (nI a))) (he : nI a + Int32.ofInt n = nI b) (hn : i < nL) (hv : (i, Value.int (nI b)) :: lv.filter (fun q => !(q.1 == i) && !(q.1 + 1 == i && q.2.category == 2)) = lv') (k : GG p l e R s m args below meth c Q D A nL cells slots (pc + 3) lv' st ws) : GG p l e R s m args below meth c Q D A nL cells slots pc lv st ws := g_iinc C d j h he hn hv k
theorem g_get (C : CX p s m args c D E A cc nL own) {Cn : String} {T : u_T} {N ci index : Nat} (hlay : ∀ w ∈ u_ws Cn T N, w ∈ allw) (q0 : Nat) {a : Nat} {fs : List Value} (he : ws[q0]? = some (a, .inr (ci, fs))) (hc : vwCl[ci]? = some (Cn, T, N)) (j : Nat) (hj : j < N) (hlink : Cond.fieldLink own index (T j).1 (T j).2.1 (T j).2.2.1 ∈ allw) {v : Value} (hv : fs[j]? = some v) (d : decode cc pc = .ok (.getfield index, 3)) (k : GG p l e R s m args below meth c Q D A nL cells slots (pc + 3) lv (v :: st) ws) : GG p l e R s m args below meth c Q D A nL cells slots pc lv (.ref a :: st) ws :=
  fun H locs ls hP hD hS hl => va_get C.1 C.2.1 (Ts := allw) (fun w hw => C.2.2.2.2.1.2 w hw args) hlay C.2.2.2.1 C.2.2.2.2.1.1 hP q0 he hc j hj (C.2.2.2.2.1.2 _ hlink args) (fun _ h9 => h9) hv d (k H locs ls hP hD hS hl)
theorem g_put (C : CX p s m args c D E A cc nL own) {Cn : String} {T : u_T} {N ci index : Nat} (hlay : ∀ w ∈ u_ws Cn T N, w ∈ allw) {ty0 : Nat → FieldType} (hty : ∀ k, k < N → parseFieldDescriptor (T k).2.2.1 = some (ty0 k)) (hnm : ∀ a, a < N → ∀ b, b < N → a ≠ b → (T a).2.1 ≠ (T b).2.1) (q0 : Nat) {a : Nat} {fs : List Value} (he : ws[q0]? = some (a, .inr (ci, fs))) (hc : vwCl[ci]? = some (Cn, T, N)) (j : Nat) (hj : j < N) (hlink : Cond.fieldLink own index (T j).1 (T j).2.1 (T j).2.2.1 ∈ allw) (hfin : (T j).2.2.2 = false) {v : Value} (hn : narrow (ty0 j) v = v) (hfit : fits (ty0 j) v = true) (hl : j < fs.length) (hw : ws.set q0 (a, .inr (ci, fs.set j v)) = ws') (d : decode cc pc = .ok (.putfield index, 3)) (k : GG p l e R s m args below meth c Q D A nL cells slots (pc + 3) lv st ws') : GG p l e R s m args below meth c Q D A nL cells slots pc lv (v :: .ref a :: st) ws := by
  subst hw
  exact fun H locs ls hP hD hS hl9 => va_put C.1 C.2.1 (Ts := allw) (fun w hw => C.2.2.2.2.1.2 w hw args) hlay ty0 hty hnm C.2.2.2.1 C.2.2.2.2.1.1 hP hD hS q0 he hc j hj (C.2.2.2.2.1.2 _ hlink args) (fun _ h9 => h9) hfin (hty j hj) hn hfit hl d (fun H locs hP hD hS => k H locs ls hP hD hS hl9)
theorem g_putF (C : CX p s m args c D E A cc nL own) {Cn : String} {T : u_T} {N ci index : Nat} (hlay : ∀ w ∈ u_ws Cn T N, w ∈ allw) {ty0 : Nat → FieldType} (hty : ∀ k, k < N → parseFieldDescriptor (T k).2.2.1 = some (ty0 k)) (hnm : ∀ a, a < N → ∀ b, b < N → a ≠ b → (T a).2.1 ≠ (T b).2.1) (q0 : Nat) {a : Nat} {fs : List Value} (he : ws[q0]? = some (a, .inr (ci, fs))) (hc : vwCl[ci]? = some (Cn, T, N)) (j : Nat) (hj : j < N) (hlink : Cond.fieldLink own index (T j).1 (T j).2.1 (T j).2.2.1 ∈ allw) (hfin : (T j).2.2.2 = true) (hin : meth.name = "<init>") (hde : (T j).1 = own) {v : Value} (hn : narrow (ty0 j) v = v) (hfit : fits (ty0 j) v = true) (hl : j < fs.length) (hw : ws.set q0 (a, .inr (ci, fs.set j v)) = ws') (d : decode cc pc = .ok (.putfield index, 3)) (k : GG p l e R s m args below meth c Q D A nL cells slots (pc + 3) lv st ws') : GG p l e R s m args below meth c Q D A nL cells slots pc lv (v :: .ref a :: st) ws := by
  subst hw
  exact fun H locs ls hP hD hS hl9 => va_putF C.1 C.2.1 (Ts := allw) (fun w hw => C.2.2.2.2.1.2 w hw args) hlay ty0 hty hnm C.2.2.2.1 C.2.2.2.2.1.1 hP hD hS q0 he hc j hj (C.2.2.2.2.1.2 _ hlink args) (fun _ h9 => h9) hfin hin hde (hty j hj) hn hfit hl d (fun H locs hP hD hS => k H locs ls hP hD hS hl9)
def aN (T : Nat → Nat) : Nat → Int32 := fun k => nI (T k)
def aB (T : Nat → Bool) : Nat → Int32 := fun k => bI (T k)
theorem aN_up (T : Nat → Nat) (i v : Nat) : upd (aN T) i (nI v) = aN (va_up T i v) := by
  funext k
  simp only [upd, aN, va_up]
  split <;> rfl
theorem aB_up (T : Nat → Bool) (i : Nat) (v : Bool) : upd (aB T) i (vp_nar .boolean (bI v)) = aB (va_up T i v) := by
  have h : vp_nar .boolean (bI v) = bI v := by cases v <;> rfl
  rw [h]
  funext k
  simp only [upd, aB, va_up]
  split <;> rfl
theorem g_iald (C : CX p s m args c D E A cc nL own) (q0 : Nat) {a n : Nat} {f : Nat → Int32} (he : ws[q0]? = some (a, .inl (E 0, n, .inl f))) {i : Int32} (hin : vp_in i n) (d : decode cc pc = .ok (.iaload, 1)) (k : GG p l e R s m args below meth c Q D A nL cells slots (pc + 1) lv (.int (f i.toNatClampNeg) :: st) ws) : GG p l e R s m args below meth c Q D A nL cells slots pc lv (.int i :: .ref a :: st) ws :=
  fun H locs ls hP hD hS hl => va_iald C.1 C.2.1 C.2.2.2.2.1.1 hP q0 0 he rfl hin d (k H locs ls hP hD hS hl)
theorem g_ialdN (C : CX p s m args c D E A cc nL own) (q0 : Nat) {a n i : Nat} {f : Nat → Int32} (he : ws[q0]? = some (a, .inl (E 0, n, .inl f))) (hi : i < n) (hn : n < 2 ^ 31) (d : decode cc pc = .ok (.iaload, 1)) (k : GG p l e R s m args below meth c Q D A nL cells slots (pc + 1) lv (.int (f i) :: st) ws) : GG p l e R s m args below meth c Q D A nL cells slots pc lv (.int (nI i) :: .ref a :: st) ws :=
  g_iald C q0 he (vp_in_nI hi hn) d (by rw [nI_clamp (Nat.lt_trans hi hn)]; exact k)
theorem g_iast (C : CX p s m args c D E A cc nL own) (q0 : Nat) {a n : Nat} {f : Nat → Int32} (he : ws[q0]? = some (a, .inl (E 0, n, .inl f))) {i x : Int32} (hin : vp_in i n) (hw : ws.set q0 (a, .inl (E 0, n, .inl (upd f i.toNatClampNeg x))) = ws') (d : decode cc pc = .ok (.iastore, 1)) (k : GG p l e R s m args below meth c Q D A nL cells slots (pc + 1) lv st ws') : GG p l e R s m args below meth c Q D A nL cells slots pc lv (.int x :: .int i :: .ref a :: st) ws := by
  subst hw
  exact fun H locs ls hP hD hS hl => va_iast C.1 C.2.1 C.2.2.2.2.1.1 hP hD hS q0 0 he rfl hin d (fun H locs hP hD hS => k H locs ls hP hD hS hl)
theorem g_iastN (C : CX p s m args c D E A cc nL own) (q0 : Nat) {a n i : Nat} {f : Nat → Int32} (he : ws[q0]? = some (a, .inl (E 0, n, .inl f))) {x : Int32} (hi : i < n) (hn : n < 2 ^ 31) {f' : Nat → Int32} (hf : upd f i x = f') (hw : ws.set q0 (a, .inl (E 0, n, .inl f')) = ws') (d : decode cc pc = .ok (.iastore, 1)) (k : GG p l e R s m args below meth c Q D A nL cells slots (pc + 1) lv st ws') : GG p l e R s m args below meth c Q D A nL cells slots pc lv (.int x :: .int (nI i) :: .ref a :: st) ws :=
  g_iast C q0 he (vp_in_nI hi hn) (by rw [nI_clamp (Nat.lt_trans hi hn), hf]; exact hw) d k
theorem g_bald (C : CX p s m args c D E A cc nL own) (q0 : Nat) {a n : Nat} {f : Nat → Int32} (he : ws[q0]? = some (a, .inl (E 2, n, .inl f))) {i : Int32} (hin : vp_in i n) (d : decode cc pc = .ok (.baload, 1)) (k : GG p l e R s m args below meth c Q D A nL cells slots (pc + 1) lv (.int (f i.toNatClampNeg) :: st) ws) : GG p l e R s m args below meth c Q D A nL cells slots pc lv (.int i :: .ref a :: st) ws :=
  fun H locs ls hP hD hS hl => va_bald C.1 C.2.1 C.2.2.2.2.1.1 hP q0 2 he rfl hin d (k H locs ls hP hD hS hl)
theorem g_baldN (C : CX p s m args c D E A cc nL own) (q0 : Nat) {a n i : Nat} {f : Nat → Int32} (he : ws[q0]? = some (a, .inl (E 2, n, .inl f))) (hi : i < n) (hn : n < 2 ^ 31) (d : decode cc pc = .ok (.baload, 1)) (k : GG p l e R s m args below meth c Q D A nL cells slots (pc + 1) lv (.int (f i) :: st) ws) : GG p l e R s m args below meth c Q D A nL cells slots pc lv (.int (nI i) :: .ref a :: st) ws :=
  g_bald C q0 he (vp_in_nI hi hn) d (by rw [nI_clamp (Nat.lt_trans hi hn)]; exact k)
theorem g_bast (C : CX p s m args c D E A cc nL own) (q0 : Nat) {a n : Nat} {f : Nat → Int32} (he : ws[q0]? = some (a, .inl (E 2, n, .inl f))) {i x : Int32} (hin : vp_in i n) (hw : ws.set q0 (a, .inl (E 2, n, .inl (upd f i.toNatClampNeg (vp_nar .byte x)))) = ws') (d : decode cc pc = .ok (.bastore, 1)) (k : GG p l e R s m args below meth c Q D A nL cells slots (pc + 1) lv st ws') : GG p l e R s m args below meth c Q D A nL cells slots pc lv (.int x :: .int i :: .ref a :: st) ws := by
  subst hw
  exact fun H locs ls hP hD hS hl => va_bast C.1 C.2.1 C.2.2.2.2.1.1 hP hD hS q0 2 he rfl hin d (fun H locs hP hD hS => k H locs ls hP hD hS hl)
theorem g_bastN (C : CX p s m args c D E A cc nL own) (q0 : Nat) {a n i : Nat} {f : Nat → Int32} (he : ws[q0]? = some (a, .inl (E 2, n, .inl f))) {x : Int32} (hi : i < n) (hn : n < 2 ^ 31) {f' : Nat → Int32} (hf : upd f i (vp_nar .byte x) = f') (hw : ws.set q0 (a, .inl (E 2, n, .inl f')) = ws') (d : decode cc pc = .ok (.bastore, 1)) (k : GG p l e R s m args below meth c Q D A nL cells slots (pc + 1) lv st ws') : GG p l e R s m args below meth c Q D A nL cells slots pc lv (.int x :: .int (nI i) :: .ref a :: st) ws :=
  g_bast C q0 he (vp_in_nI hi hn) (by rw [nI_clamp (Nat.lt_trans hi hn), hf]; exact hw) d k
theorem g_zald (C : CX p s m args c D E A cc nL own) (q0 : Nat) {a n : Nat} {f : Nat → Int32} (he : ws[q0]? = some (a, .inl (E 3, n, .inl f))) {i : Int32} (hin : vp_in i n) (d : decode cc pc = .ok (.baload, 1)) (k : GG p l e R s m args below meth c Q D A nL cells slots (pc + 1) lv (.int (f i.toNatClampNeg) :: st) ws) : GG p l e R s m args below meth c Q D A nL cells slots pc lv (.int i :: .ref a :: st) ws :=
  fun H locs ls hP hD hS hl => va_zald C.1 C.2.1 C.2.2.2.2.1.1 hP q0 3 he rfl hin d (k H locs ls hP hD hS hl)
theorem g_zaldN (C : CX p s m args c D E A cc nL own) (q0 : Nat) {a n i : Nat} {f : Nat → Int32} (he : ws[q0]? = some (a, .inl (E 3, n, .inl f))) (hi : i < n) (hn : n < 2 ^ 31) (d : decode cc pc = .ok (.baload, 1)) (k : GG p l e R s m args below meth c Q D A nL cells slots (pc + 1) lv (.int (f i) :: st) ws) : GG p l e R s m args below meth c Q D A nL cells slots pc lv (.int (nI i) :: .ref a :: st) ws :=
  g_zald C q0 he (vp_in_nI hi hn) d (by rw [nI_clamp (Nat.lt_trans hi hn)]; exact k)
theorem g_zast (C : CX p s m args c D E A cc nL own) (q0 : Nat) {a n : Nat} {f : Nat → Int32} (he : ws[q0]? = some (a, .inl (E 3, n, .inl f))) {i x : Int32} (hin : vp_in i n) (hw : ws.set q0 (a, .inl (E 3, n, .inl (upd f i.toNatClampNeg (vp_nar .boolean x)))) = ws') (d : decode cc pc = .ok (.bastore, 1)) (k : GG p l e R s m args below meth c Q D A nL cells slots (pc + 1) lv st ws') : GG p l e R s m args below meth c Q D A nL cells slots pc lv (.int x :: .int i :: .ref a :: st) ws := by
  subst hw
  exact fun H locs ls hP hD hS hl => va_zast C.1 C.2.1 C.2.2.2.2.1.1 hP hD hS q0 3 he rfl hin d (fun H locs hP hD hS => k H locs ls hP hD hS hl)
theorem g_zastN (C : CX p s m args c D E A cc nL own) (q0 : Nat) {a n i : Nat} {f : Nat → Int32} (he : ws[q0]? = some (a, .inl (E 3, n, .inl f))) {x : Int32} (hi : i < n) (hn : n < 2 ^ 31) {f' : Nat → Int32} (hf : upd f i (vp_nar .boolean x) = f') (hw : ws.set q0 (a, .inl (E 3, n, .inl f')) = ws') (d : decode cc pc = .ok (.bastore, 1)) (k : GG p l e R s m args below meth c Q D A nL cells slots (pc + 1) lv st ws') : GG p l e R s m args below meth c Q D A nL cells slots pc lv (.int x :: .int (nI i) :: .ref a :: st) ws :=
  g_zast C q0 he (vp_in_nI hi hn) (by rw [nI_clamp (Nat.lt_trans hi hn), hf]; exact hw) d k
theorem g_alen (C : CX p s m args c D E A cc nL own) (q0 : Nat) {a n : Nat} {f : Nat → Int32} (he : ws[q0]? = some (a, .inl (E 0, n, .inl f))) (d : decode cc pc = .ok (.arraylength, 1)) (k : GG p l e R s m args below meth c Q D A nL cells slots (pc + 1) lv (.int (nI n) :: st) ws) : GG p l e R s m args below meth c Q D A nL cells slots pc lv (.ref a :: st) ws :=
  fun H locs ls hP hD hS hl => va_alen C.1 C.2.1 C.2.2.2.2.1.1 hP q0 0 he rfl rfl d (k H locs ls hP hD hS hl)
theorem g_newI (C : CX p s m args c D E A cc nL own) (harr : Cond.arrayClass .int ∈ allw) {n : Int32} {N' : Nat} (hn : ¬ n < 0) (hN : n.toNatClampNeg = N') (hby : N' * 4 ≤ 536870912) (hce : cells + 1 ≤ R.cells) (hsl : slots + N' ≤ R.slots) (d : decode cc pc = .ok (.newarray .int, 2)) (k : ∀ q : Nat, GG p l e R s m args below meth c Q D A nL (cells + 1) (slots + N') (pc + 2) lv (.ref q :: st) (ws ++ [(q, .inl (E 0, N', .inl (aN (fun _ => 0))))])) : GG p l e R s m args below meth c Q D A nL cells slots pc lv (.int n :: st) ws := by
  intro H locs ls hP hD hS hl
  refine va_newa (atype := .int) C.1 C.2.1 (C.2.2.2.2.1.2 (Cond.arrayClass .int) harr args) (ty := .int) rfl C.2.2.2.2.1.1 hP hD hS C.2.2.2.2.2 (a0 := (N', .inl (aN (fun _ => 0)))) (fun _ => rfl) hn hN hby hce hsl d (fun q cA H1 hK hP hD hS => ?_)
  have h1 := va_nm_int (hK.2 4 _ rfl).2
  have h2 := va_nm_int (C.2.2.2.2.1.1.2 0 _ rfl).2
  cases Option.some.inj (h1.symm.trans h2)
  exact k q H1 locs ls hP hD hS hl
theorem g_newJ (C : CX p s m args c D E A cc nL own) (harr : Cond.arrayClass .long ∈ allw) {n : Int32} {N' : Nat} (hn : ¬ n < 0) (hN : n.toNatClampNeg = N') (hby : N' * 8 ≤ 536870912) (hce : cells + 1 ≤ R.cells) (hsl : slots + N' ≤ R.slots) (d : decode cc pc = .ok (.newarray .long, 2)) (k : ∀ q : Nat, GG p l e R s m args below meth c Q D A nL (cells + 1) (slots + N') (pc + 2) lv (.ref q :: st) (ws ++ [(q, .inl (E 1, N', .inr (.inl (fun _ => 0))))])) : GG p l e R s m args below meth c Q D A nL cells slots pc lv (.int n :: st) ws := by
  intro H locs ls hP hD hS hl
  refine va_newa (atype := .long) C.1 C.2.1 (C.2.2.2.2.1.2 (Cond.arrayClass .long) harr args) (ty := .long) rfl C.2.2.2.2.1.1 hP hD hS C.2.2.2.2.2 (a0 := (N', .inr (.inl (fun _ => 0)))) (fun _ => rfl) hn hN hby hce hsl d (fun q cA H1 hK hP hD hS => ?_)
  have h1 := va_nm_long (hK.2 4 _ rfl).2
  have h2 := va_nm_long (C.2.2.2.2.1.1.2 1 _ rfl).2
  cases Option.some.inj (h1.symm.trans h2)
  exact k q H1 locs ls hP hD hS hl
theorem g_newY (C : CX p s m args c D E A cc nL own) (harr : Cond.arrayClass .byte ∈ allw) {n : Int32} {N' : Nat} (hn : ¬ n < 0) (hN : n.toNatClampNeg = N') (hby : N' * 1 ≤ 536870912) (hce : cells + 1 ≤ R.cells) (hsl : slots + N' ≤ R.slots) (d : decode cc pc = .ok (.newarray .byte, 2)) (k : ∀ q : Nat, GG p l e R s m args below meth c Q D A nL (cells + 1) (slots + N') (pc + 2) lv (.ref q :: st) (ws ++ [(q, .inl (E 2, N', .inl (aN (fun _ => 0))))])) : GG p l e R s m args below meth c Q D A nL cells slots pc lv (.int n :: st) ws := by
  intro H locs ls hP hD hS hl
  refine va_newa (atype := .byte) C.1 C.2.1 (C.2.2.2.2.1.2 (Cond.arrayClass .byte) harr args) (ty := .byte) rfl C.2.2.2.2.1.1 hP hD hS C.2.2.2.2.2 (a0 := (N', .inl (aN (fun _ => 0)))) (fun _ => rfl) hn hN hby hce hsl d (fun q cA H1 hK hP hD hS => ?_)
  have h1 := va_nm_byte (hK.2 4 _ rfl).2
  have h2 := va_nm_byte (C.2.2.2.2.1.1.2 2 _ rfl).2
  cases Option.some.inj (h1.symm.trans h2)
  exact k q H1 locs ls hP hD hS hl
theorem g_newZ (C : CX p s m args c D E A cc nL own) (harr : Cond.arrayClass .boolean ∈ allw) {n : Int32} {N' : Nat} (hn : ¬ n < 0) (hN : n.toNatClampNeg = N') (hby : N' * 1 ≤ 536870912) (hce : cells + 1 ≤ R.cells) (hsl : slots + N' ≤ R.slots) (d : decode cc pc = .ok (.newarray .boolean, 2)) (k : ∀ q : Nat, GG p l e R s m args below meth c Q D A nL (cells + 1) (slots + N') (pc + 2) lv (.ref q :: st) (ws ++ [(q, .inl (E 3, N', .inl (aB (fun _ => false))))])) : GG p l e R s m args below meth c Q D A nL cells slots pc lv (.int n :: st) ws := by
  intro H locs ls hP hD hS hl
  refine va_newa (atype := .boolean) C.1 C.2.1 (C.2.2.2.2.1.2 (Cond.arrayClass .boolean) harr args) (ty := .boolean) rfl C.2.2.2.2.1.1 hP hD hS C.2.2.2.2.2 (a0 := (N', .inl (aB (fun _ => false)))) (fun _ => rfl) hn hN hby hce hsl d (fun q cA H1 hK hP hD hS => ?_)
  have h1 := va_nm_boolean (hK.2 4 _ rfl).2
  have h2 := va_nm_boolean (C.2.2.2.2.1.1.2 3 _ rfl).2
  cases Option.some.inj (h1.symm.trans h2)
  exact k q H1 locs ls hP hD hS hl
theorem g_new (C : CX p s m args c D E A cc nL own) {Cn : String} {T : u_T} {N ci index : Nat} (hlay : ∀ w ∈ u_ws Cn T N, w ∈ allw) {ty : Nat → FieldType} (hty : ∀ k, k < N → parseFieldDescriptor (T k).2.2.1 = some (ty k)) (hcl : Cond.classLink own index Cn ∈ allw) (hinst : Cond.instantiable Cn N ∈ allw) (hini : Cond.initialized Cn ∈ allw) (hc : vwCl[ci]? = some (Cn, T, N)) {fs : List Value} (hfs : ∀ j, j < N → defaultValue (ty j) = vp_V fs j) (hce : cells + 1 ≤ R.cells) (hsl : slots + N ≤ R.slots) (d : decode cc pc = .ok (.new index, 3)) (k : ∀ q : Nat, GG p l e R s m args below meth c Q D A nL (cells + 1) (slots + N) (pc + 3) lv (.ref q :: st) (ws ++ [(q, .inr (ci, fs))])) : GG p l e R s m args below meth c Q D A nL cells slots pc lv st ws :=
  fun H locs ls hP hD hS hl => va_new C.1 C.2.1 (Ts := allw) (fun w hw => C.2.2.2.2.1.2 w hw args) hlay ty hty C.2.2.2.1 (C.2.2.2.2.1.2 _ hcl args) (C.2.2.2.2.1.2 _ hinst args) (C.2.2.2.2.1.2 _ hini args) C.2.2.2.2.1.1 hP hD hS C.2.2.2.2.2 hc hfs hce hsl d (fun q H hP hD hS => k q H locs ls hP hD hS hl)
end Rows
