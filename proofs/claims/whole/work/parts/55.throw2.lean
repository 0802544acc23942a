/-! Throws, the machine's side: the two statics of Throwable, a walk taken up anew, the throw, the catch -/
abbrev iaN : String := "java/lang/IllegalArgumentException"
abbrev isN : String := "java/lang/IllegalStateException"
abbrev thNms : List String := ["java/lang/RuntimeException", "java/lang/Exception"]
/-- a static of Throwable that holds a reference or null, off the cells A -/
def TS (n d : String) (A : Nat → Prop) (U : State) (H : Heap) : Prop := ∃ (c : ClassId) (k : Class) (i : Nat) (f : Field) (a : Nat) (cell : Cell) (v : Value), U.vm.findClass Bundle.tN = some c ∧ U.fieldFound? Bundle.tN n d = some (c, k, i, f) ∧ f.isStatic = true ∧ k.statics = some a ∧ H[a]? = some cell ∧ cell.vm.isStatics = true ∧ cell.cls = c ∧ f.slot < cell.slots.size ∧ k.staticTypes[f.slot]? = some f.type ∧ cell.slots[f.slot]? = some v ∧ v.isRef = true ∧ ¬ A a
theorem TS.of {args : Array Value} {s : State} {n d : String} {A : Nat → Prop} (hl : (Cond.laysStatic Bundle.tN n d).before args s = true) (h : (Cond.isRef (.static Bundle.tN n d)).before args s = true) (hA : ∀ a : Nat, a < s.heap.size → ¬ A a) : TS n d A s s.heap := by
  obtain ⟨c, k, i, f, a, cell, hc, hi, hst, ha, hcell, hs, hcls, hlt, hty⟩ := Cond.laysStatic_spec hl
  cases hv : (Term.static Bundle.tN n d).eval args s none [] s with
  | none => simp [Cond.before, Cond.holds, Cond.value, hv] at h
  | some w =>
    obtain ⟨hst', a', cell', ha', hcell', -, hslot⟩ := Term.static_spec hi hv
    cases ha.symm.trans ha'
    cases hcell.symm.trans hcell'
    refine ⟨c, k, i, f, a, cell, w, hc, hi, hst, ha, hcell, hs, hcls, hlt, hty, hslot, ?_, hA a (Array.getElem?_eq_some_iff.mp hcell).1⟩
    simp only [Cond.before, Cond.holds, Cond.value, hv] at h
    cases w <;> first | rfl | (simp at h)
theorem TS.moved {n d : String} {A : Nat → Prop} {u U : State} {H : Heap} (hvm : u.vm.Alike U.vm) (h : TS n d A u H) : TS n d A U H := by
  obtain ⟨c, k, i, f, a, cell, v, h0, h1, h2, h3, h4, h5, h6, h7, h8, h9⟩ := h
  obtain ⟨k', hi', he⟩ := State.fieldFound?_setVm hvm h1
  exact ⟨c, k', i, f, a, cell, v, by rw [hvm.findClass]; exact h0, hi', h2, by rw [he]; exact h3, h4, h5, h6, h7, by rw [he]; exact h8, h9⟩
theorem TS.kept {n d : String} {A : Nat → Prop} {U : State} {H H1 : Heap} (h : TS n d A U H) (hq : ∀ a : Nat, a < H.size → ¬ A a → H1[a]? = H[a]?) : TS n d A U H1 := by
  obtain ⟨c, k, i, f, a, cell, v, h0, h1, h2, h3, h4, h5, h6, h7, h8, h9, h10, h11⟩ := h
  exact ⟨c, k, i, f, a, cell, v, h0, h1, h2, h3, by rw [hq a (Array.getElem?_eq_some_iff.mp h4).1 h11]; exact h4, h5, h6, h7, h8, h9, h10, h11⟩
theorem TS.narrow {n d : String} {A B : Nat → Prop} {U : State} {H : Heap} (h : TS n d A U H) (hAB : ∀ q, B q → A q) : TS n d B U H := by
  obtain ⟨c, k, i, f, a, cell, v, h0, h1, h2, h3, h4, h5, h6, h7, h8, h9, h10, h11⟩ := h
  exact ⟨c, k, i, f, a, cell, v, h0, h1, h2, h3, h4, h5, h6, h7, h8, h9, h10, fun z => h11 (hAB a z)⟩
theorem TS.lays {n d : String} {A : Nat → Prop} {U : State} (h : TS n d A U U.heap) (args : Array Value) : (Cond.laysStatic Bundle.tN n d).before args U = true := by
  obtain ⟨c, k, i, f, a, cell, v, h0, h1, h2, h3, h4, h5, h6, h7, h8, -⟩ := h
  exact Cond.laysStatic_of h0 h1 h2 h3 h4 h5 h6 h7 h8
theorem TS.isRef {n d : String} {A : Nat → Prop} {U : State} (h : TS n d A U U.heap) (args : Array Value) : (Cond.isRef (.static Bundle.tN n d)).before args U = true := by
  obtain ⟨c, k, i, f, a, cell, v, h0, h1, h2, h3, h4, h5, h6, h7, h8, h9, h10, h11⟩ := h
  have ev : (Term.static Bundle.tN n d).eval args U none [] U = some v := by
    simp [Term.eval, State.fieldNamed?, h1, h2, h3, h4, h5, h9]
  simp only [Cond.before, Cond.holds, Cond.value, ev]
  cases v <;> first | rfl | (simp [Value.isRef] at h10)
/-- the strings of the class's exceptions, by their places -/
abbrev thS : List (Nat × String) := [(114, "no such kind"), (129, "no listing"), (136, "no such argument"), (141, "no set was told"), (149, "no such kind or argument")]
/-- an object of class X does not fit the class nm -/
def NC (X nm : String) (U : State) : Prop := ∀ c1 c2 : ClassId, U.vm.findClass X = some c1 → U.vm.findClass nm = some c2 → U.vm.assignable c1 c2 = false
/-- what a throw needs beyond the tables' good words -/
def TK (A : Nat → Prop) (U : State) : Prop :=
  (∀ C ∈ [iaN, isN], va_Nw (.castable C C) U) ∧ (∀ C ∈ [Bundle.tN, "java/lang/RuntimeException", "java/lang/Exception"], va_Nw (.declares (Bundle.initS C)) U) ∧ NC isN iaN U ∧ (∀ z ∈ thS, ∃ q : Nat, vk_R "AttackBench" z.1 z.2 q U) ∧ TS "UNASSIGNED_STACK" Bundle.steD A U U.heap ∧ TS "SUPPRESSED_SENTINEL" Bundle.listD A U U.heap
theorem TK.cast {A : Nat → Prop} {U : State} (h : TK A U) : ∀ C ∈ [iaN, isN], va_Nw (.castable C C) U := h.1
theorem TK.decl {A : Nat → Prop} {U : State} (h : TK A U) : ∀ C ∈ [Bundle.tN, "java/lang/RuntimeException", "java/lang/Exception"], va_Nw (.declares (Bundle.initS C)) U := h.2.1
theorem TK.nc {A : Nat → Prop} {U : State} (h : TK A U) : NC isN iaN U := h.2.2.1
theorem TK.str {A : Nat → Prop} {U : State} (h : TK A U) : ∀ z ∈ thS, ∃ q : Nat, vk_R "AttackBench" z.1 z.2 q U := h.2.2.2.1
theorem TK.un {A : Nat → Prop} {U : State} (h : TK A U) : TS "UNASSIGNED_STACK" Bundle.steD A U U.heap := h.2.2.2.2.1
theorem TK.se {A : Nat → Prop} {U : State} (h : TK A U) : TS "SUPPRESSED_SENTINEL" Bundle.listD A U U.heap := h.2.2.2.2.2
theorem TK.moved {A B : Nat → Prop} {s U : State} (hW : s.WarmedH U.vm) (hq : ∀ a : Nat, a < s.heap.size → ¬ A a → U.heap[a]? = s.heap[a]?) (hAB : ∀ q, B q → A q) (h : TK A s) : TK B U :=
  ⟨fun C hC => va_Nw.warmC hW (h.cast C hC), fun C hC => va_Nw.warmD hW (h.decl C hC),
   fun c1 c2 h1 h2 => by
    rw [hW.alike.findClass] at h1 h2
    rw [hW.alike.assignable]
    exact h.nc c1 c2 h1 h2,
   fun z hz => by
    obtain ⟨q, hq⟩ := h.str z hz
    exact ⟨q, hq.warm hW⟩,
   ((h.un.moved hW.alike).kept hq).narrow hAB, ((h.se.moved hW.alike).kept hq).narrow hAB⟩
/-- THE WALK TAKEN UP ANEW: the state at which it stands is its start -/
theorem rebase {p : Program} {l : Launch} {e : Env} {R R' : Room} {s : State} {m : MethodId} {args : Array Value} {below : List Frame} {meth : Method} {c : Code} {T : State} {locs : List Loc} {cells slots : Nat}
    (X : Stand p l e R s m args below meth c T locs cells slots) (hf : R'.frames ≤ R.frames) (hlo : R'.locals ≤ R.locals) (hce : cells + R'.cells ≤ R.cells) (hsl : slots + R'.slots ≤ R.slots) :
    Stand p l e R' (T.setFrames (.invoking m args :: below)) m args below meth c T [] 0 0 := by
  have hcur : T.cur < T.threads.size := State.cur_lt_of_top X.here.top
  have hF : (T.setFrames (.invoking m args :: below)).frames = .invoking m args :: below := State.frames_setFrames _ hcur
  have hvm : (T.setFrames (.invoking m args :: below)).vm = T.vm := rfl
  have hm : (T.setFrames (.invoking m args :: below)).vm.method? m = some meth := X.method'
  refine ⟨X.admits, X.cas, X.clock, hF, ?_, ?_, hm, X.code, X.here, X.tail, State.WarmedH.refl (T.setFrames (.invoking m args :: below)), by rw [State.stackLimits_setFrames], by rw [State.stackBytes_setFrames], ?_⟩
  · obtain ⟨r1, r2, r3, r4⟩ := State.hasRoom_stack X.room
    have r5 := State.hasRoom_real X.room
    have h := X.room
    simp only [State.hasRoom, Bool.and_eq_true, decide_eq_true_eq] at h
    rw [State.localsInUse_invoking X.frames X.method X.code] at r3 r4 r5
    rw [X.frames, List.length_cons] at r1 r2
    have hU := State.localsInUse_invoking hF (meth := meth) (c := c) hm X.code
    have hb := X.book
    have hz := X.heapSize
    have hu := X.used
    simp only [State.hasRoom, Bool.and_eq_true, decide_eq_true_eq, hF, hU, List.length_cons, State.stackLimits_setFrames, State.stackBytes_setFrames, X.limits, X.bytes]
    refine ⟨⟨⟨⟨by omega, by omega, by omega, by omega, by omega, h.1.1.1.2.2.2.2.2⟩, ?_⟩, ?_⟩, hb⟩
    · have := h.1.1.2
      show T.heap.size + R'.cells ≤ e.platform.maxCells
      omega
    · have := h.1.2
      show T.slotsUsed + R'.slots ≤ e.platform.maxSlots
      omega
  · have hh := X.hears
    have hmm : ∀ x, T.vm.method? x = s.vm.method? x := fun x => X.warmed.alike.method? x
    cases below with
    | nil => simp only [State.hears, hvm, hmm] at hh ⊢; exact hh
    | cons g r => cases g <;> simp only [State.hears, State.code?_eq, hvm, hmm] at hh ⊢ <;> exact hh
  · obtain ⟨g₀, hg0⟩ := Option.isSome_iff_exists.mp X.here.top
    obtain ⟨r, hr⟩ := State.topJava?_eq_some.mp hg0
    obtain ⟨t, ht, -⟩ := State.frames_cons hr
    obtain ⟨t2, ht2, -⟩ := State.frames_cons hF
    have h := (State.sameButNew.refl (T.setFrames (.invoking m args :: below)) ht2).setFrames T.frames (State.cur_lt_of_frames hF)
    rw [State.setFrames_setFrames, State.setFrames_self ht] at h
    exact h
/-- the machine writes no stack traces -/
def TR (l : Launch) : Prop := ∀ e : Env, l.admits e → e.platform.stackTraces = false
/-- a method that throws an X: one new cell; all cells of wi are as they were -/
def Qt (D : va_G) (X : String) (wi : va_W) (A : Nat → Prop) : Array Value → State → Outcome → State → Prop := fun _ st oc t =>
  (∃ (q : Nat) (ce : Cell), oc = .threw q ∧ t.heap[q]? = some ce ∧ ce.vm = .none ∧ st.vm.findClass X = some ce.cls ∧ va_P D vwCl wi t.heap) ∧ va_F A st t
abbrev PCT (D : va_G) (E : Nat → ClassId) (av : List Value) (wi : va_W) (sz : Nat) : Array Value → State → Prop := va_Pc av (fun U => U.heap.size = sz ∧ va_P D vwCl wi U.heap ∧ KK D E U ∧ va_D (fun _ => True) wi ∧ TK (va_A wi sz) U)
theorem pct_blind {D : va_G} {E : Nat → ClassId} {av : List Value} {wi : va_W} {sz : Nat} : FrameBlind (PCT D E av wi sz) :=
  fun _ U g mk q => ⟨q.1, q.2.1, q.2.2.1, KK.warm (State.WarmedH.refl U) q.2.2.2.1, q.2.2.2.2.1, TK.moved (U := U.calling g mk _) (State.WarmedH.refl U) (fun _ _ _ => rfl) (fun _ h => h) q.2.2.2.2.2⟩
/-- a method that throws an X -/
def MT (l : Launch) (D : va_G) (E : Nat → ClassId) (y : MethodName) (cw : Cond) (rm : Room) (av : List Value) (wi : va_W) (X : String) : Prop :=
  ∀ sz : Nat, MetT l y [cw] rm (PCT D E av wi sz) (Qt D X wi (va_A wi sz)) rm.cells rm.slots (va_A wi sz)
theorem MT.of {l : Launch} {D : va_G} {E : Nat → ClassId} {y : MethodName} {cc : ByteArray} {nL : Nat} {rt : Option FieldType} {rm : Room} {av : List Value} {wi : va_W} {X : String} (hy : plainName y.cls = true) (hlen : (lg_sl av).length ≤ nL)
    (body : ∀ (p : Program) (e : Env) (s : State) (m : MethodId) (args : Array Value) (below : List Frame) (meth : Method) (c : Code) (A : Nat → Prop), CX p s m args c D E A cc nL y.cls → TK A s → c.exceptionTable.isEmpty = true → meth.locks = false →
      GG p l e rm s m args below meth c (MQT below (Qt D X wi A) args s rm.cells rm.slots A) D A nL 0 0 0 (lv_args 0 av) [] wi) : MT l D E y (.code y cc nL rt) rm av wi X := by
  intro sz
  refine MetT.of (cc := cc) (maxL := nL) (ret := rt) hy rfl ?_
  intro p e s m args below meth c s₁ B hml hex hv
  obtain ⟨rfl, hsz, hP, hK, hD0, hT⟩ := hv
  subst hsz
  have hD := hD0.self (sz := s.heap.size)
  generalize hAe : va_A wi s.heap.size = A at hD hT ⊢
  have hA : ∀ q : Nat, s.heap.size ≤ q → A q := fun q h => by rw [← hAe]; exact Or.inr h
  have hl := lv_entry av (n := nL) hlen
  rw [lg_entry_eq]
  exact body p e s m _ below meth c A ⟨B.exec, B.bytes, hml, findClass_of_methodNamed B.named, hK, hA⟩ hT hex B.notSynchronized s.heap [] _ hP hD va_S.rf hl
/-- the words of a throw of X at place ii of AttackBench's pool -/
def XW (D : va_G) (E : Nat → ClassId) (X : String) (ii : Nat) : Prop := ∀ (U : State) (A : Nat → Prop) (a : Array Value), KK D E U → TK A U → ∀ w ∈ Bundle.ownAtoms "AttackBench" ii X thNms, w.before a U = true
section ThrowRow
variable {p : Program} {l : Launch} {e : Env} {R : Room} {s : State} {m : MethodId} {args : Array Value} {below : List Frame} {meth : Method} {c : Code} {Q : State → Prop} {D : va_G} {E : Nat → ClassId} {A : Nat → Prop} {cc : ByteArray} {own : String} {nL cells slots pc : Nat} {lv lv' : List (Nat × Value)} {st : List Value} {ws ws' : va_W}
theorem g_throw (C : CX p s m args c D E A cc nL "AttackBench") (K : TK A s) (htr : TR l) (hex : c.exceptionTable.isEmpty = true) (hlk : meth.locks = false) {X : String} {ix ii k : Nat} {tx : String} (hX : XW D E X ii) (hfit : Bundle.fit X = true)
    (hcl : Cond.classLink "AttackBench" ix X ∈ allw) (hin : Cond.instantiable X 6 ∈ allw) (hini : Cond.initialized X ∈ allw) (hk : (k, tx) ∈ thS)
    (d0 : decode cc pc = .ok (.new ix, 3)) (d3 : decode cc (pc + 3) = .ok (.dup, 1)) (d4 : decode cc (pc + 3 + 1) = .ok (.ldc k, 2)) (d6 : decode cc (pc + 3 + 1 + 2) = .ok (.invokespecial ii, 3)) (d9 : decode cc (pc + 3 + 1 + 2 + 3) = .ok (.athrow, 1))
    (hce : cells + 1 ≤ R.cells) (hsl : slots + 6 ≤ R.slots) (hfr : 6 ≤ R.frames) (hlo : 100 ≤ R.locals) :
    GG p l e R s m args below meth c (MQT below (Qt D X ws A) args s (cells + 1) (slots + 6) A) D A nL cells slots pc lv [] ws := by
  intro H locs ls hP hD hS hl T hT X0
  subst hT
  have Y0 := rebase (R' := { R with cells := R.cells - cells, slots := R.slots - slots }) X0 (Nat.le_refl _) (Nat.le_refl _) (by show cells + (R.cells - cells) ≤ _; omega) (by show slots + (R.slots - slots) ≤ _; omega)
  have hW : s.WarmedH (T.setFrames (.invoking m args :: below)).vm := X0.warmed
  have hKK : KK D E (T.setFrames (.invoking m args :: below)) := KK.warm hW C.2.2.2.2.1
  have hTK : TK A (T.setFrames (.invoking m args :: below)) := K.moved hW (fun a h1 h2 => hS.2.1 a h1 h2) (fun _ h => h)
  have hown : (T.setFrames (.invoking m args :: below)).vm.findClass "AttackBench" = some m.cls := by
    rw [hW.alike.findClass]; exact C.2.2.2.1
  have hhp : (T.setFrames (.invoking m args :: below)).heap = T.heap := rfl
  generalize hs' : T.setFrames (.invoking m args :: below) = s' at Y0 hW hKK hTK hown hhp
  obtain ⟨vm1, cX, kX, hfX, hkX, hkind, hsz, Y1, st1⟩ := Y0.newCold C.1 (own := "AttackBench") (C := X) (index := ix) (n := 6) hown (hKK.2 _ hcl args) (hKK.2 _ hin args) (hKK.2 _ hini args) (g := F0 m pc ls []) rfl (by rw [C.2.1]; exact d0) (by show 0 + 1 ≤ R.cells - cells; omega) (by show 0 + 6 ≤ R.slots - slots; omega)
  obtain ⟨q, hq⟩ := hTK.str _ hk
  have hfin : W p l e { R with cells := R.cells - cells, slots := R.slots - slots } s' m args below meth c ((T.setVm vm1).pushCell { cls := cX, slots := kX.instanceTypes.map defaultValue, vm := .none }).heap [] (0 + 1) (0 + 6) (MQT below (Qt D X ws A) args s (cells + 1) (slots + 6) A) (F0 m (pc + 3 + 1 + 2) ls [.ref q, .ref T.heap.size, .ref T.heap.size]) := by
    intro T2 hT2 Y2
    obtain ⟨U, hs, hrun, hend, hWU, hsame, ce, hcell, hoc⟩ := Y2.ctorThrowS C.1 (htr e Y2.admits) (own := "AttackBench") (cls := X) (names := thNms) (ic := ii) hown hfit (by decide +kernel) (hX s' A args hKK hTK) (fun x hx => nomatch hx) hfX hkX (a := T.heap.size) (by rw [hT2]; simp [State.pushCell, freshCell]) (by rw [hhp]; exact Nat.le_refl _) (msg := .ref q) rfl
      (g := F0 m (pc + 3 + 1 + 2) ls [.ref q, .ref T.heap.size, .ref T.heap.size]) rfl (hl.1.trans C.2.2.1.symm) rfl rfl (rest := []) rfl (by rw [C.2.1]; exact d6) (by rw [C.2.1]; exact d9) (covers_of_empty hex _) (by show 2 + 3 < R.frames; omega) (by show 2 * 0 + 1 + (13 * (2 + 1) + 42) ≤ R.locals; omega) hlk
    subst hs'
    have hsT : T.sameButNew ({ U with vm := T.vm } : State) [] (0 + 1) (0 + 6) := State.sameButNew.of_setFrames hsame
    have hWT : T.WarmedH U.vm := State.WarmedH.of_rootvm (s := T.setFrames (.invoking m args :: below)) rfl hWU
    have hkept : ∀ a : Nat, a < T.heap.size → U.heap[a]? = T.heap[a]? := fun a ha => by
      have h1 : T.heap[a]? = some T.heap[a] := Array.getElem?_eq_getElem ha
      have h2 := hsT.kept_nil h1
      rw [h1]; exact h2
    refine ⟨U, hs, .threw T.heap.size, hrun, hend, ⟨⟨T.heap.size, ce, rfl, hcell, hoc.vm, ?_, hP.kept fun k q hk => hkept _ (hP k q hk).lt⟩, Nat.le_trans hS.1 hsT.2.1, fun a h1 h2 => (hkept a (Nat.lt_of_lt_of_le h1 hS.1)).trans (hS.2.1 a h1 h2)⟩, locs ++ [], ⟨⟨_, rfl⟩, State.WarmedH.trans X0.warmed hWT, ?_⟩, fun q hq => hS.2.2 q (by simpa using hq)⟩
    · have h3 := hoc.cls
      rw [hW.alike.findClass] at h3
      exact h3
    · exact (X0.same.trans (hsT.setVm s.vm)).mono (by omega) (by omega)
  have hw := lv_dup C.1 C.2.1 d3 (va := .ref T.heap.size) rfl (va_ldcS C.1 C.2.1 hown hq d4 hfin)
  obtain ⟨t, a1, b1⟩ := hw _ rfl Y1
  exact ⟨t, st1 t a1, b1⟩
end ThrowRow
def PostT (Qc : Array Value → State → Outcome → State → Prop) (mc ms : Nat) (free : Addr → Prop) : Free.Pt → Array Value → Addr → Free.Pt → Prop := fun A a v B =>
  ∃ (g : JFrame) (mk : MethodId) (t : State) (L : List Loc), B.U.heap = t.heap ∧ B.U.vm = t.vm ∧ Qc a (A.U.calling g mk a) (.threw v) t ∧ B.locs = A.locs ++ L ∧ (∀ q ∈ L, free q.base) ∧ B.cells = A.cells + mc ∧ B.slots = A.slots + ms
theorem backT_of {l : Launch} {R : Room} {p : Program} {e : Env} {below : List Frame} {s : State} {sargs : Array Value} {y : MethodName} {len W : Nat} {ws : List Cond} {rm : Room} {Pc : Array Value → State → Prop} {Qc : Array Value → State → Outcome → State → Prop} {mc ms : Nat} {free : Addr → Prop} {bytes : ByteArray} {maxL : Nat} {ret : Option FieldType}
    (hM : MetT l y ws rm Pc Qc mc ms free) (hblind : FrameBlind Pc) (hrc : rm.cells = mc) (hrs : rm.slots = ms)
    (hframes : rm.frames + 1 ≤ R.frames) (hlocals : W + (maxL + 11) + rm.locals ≤ R.locals)
    (hws : ∀ w ∈ ws, ∀ a' U, s.WarmedH U.vm → w.before a' U = true) (hcode : Cond.code y bytes maxL ret ∈ ws) (hinit : ∀ a' U, s.WarmedH U.vm → (Cond.initialized y.cls).before a' U = true) :
    BackT l R p e below s sargs y len W (PreOf R mc ms Pc) (PostT Qc mc ms free) := by
  refine BackT.of_free (S := headSpec ws rm) (P := Pc) (K := fun _ _ _ _ _ => True) (Q := fun a st o t => Qc a st o t ∧ ∃ L, FrameEndT st o t L mc ms ∧ ∀ q ∈ L, free q.base) (bytes := bytes) (maxL := maxL) (ret := ret)
    (E := fun a st o t L k n => k = mc ∧ n = ms ∧ ∀ q ∈ L, free q.base) hM hframes hlocals ?_ ?_ (fun _ _ _ _ _ _ _ _ _ => trivial) ?_ ?_
  · intro m meth c A a X hp
    exact ⟨atoms_intro fun w hw => hws w hw _ _ X.warmed, hws _ hcode _ _ X.warmed, hinit _ _ X.warmed, by rw [show (headSpec ws rm).room.cells = mc from hrc]; exact hp.1, by rw [show (headSpec ws rm).room.slots = ms from hrs]; exact hp.2.1⟩
  · intro m meth c A a g mk X hp
    exact hblind _ _ _ _ hp.2.2
  · intro a st o t ⟨hq, L, hF, hL⟩
    exact ⟨L, mc, ms, hF, rfl, rfl, hL⟩
  · intro m meth c A a g mk v t L k n X hp hq hF ⟨e1, e2, hL⟩
    subst e1; subst e2
    exact ⟨g, mk, t, L, rfl, rfl, hq.1, rfl, hL, rfl, rfl⟩
section CatchRow
variable {p : Program} {l : Launch} {e : Env} {R : Room} {s : State} {m : MethodId} {args : Array Value} {below : List Frame} {meth : Method} {c : Code} {Q : State → Prop} {D : va_G} {E : Nat → ClassId} {A : Nat → Prop} {cc : ByteArray} {own : String} {nL cells slots pc : Nat} {lv lv' : List (Nat × Value)} {st0 rest As : List Value} {ws ws' wi wr : va_W}
variable {rm : Room} {y : MethodName} {bytes : ByteArray} {maxL n index mc ms : Nat} {ret : Option FieldType} {b : Nat}
/-- an invokevirtual of a method that throws an X, caught by the row x behind rows that are passed -/
theorem g_tV (C : CX p s m args c D E A cc nL own) (K : TK A s) {X : String} (hM : MT l D E y (.code y bytes maxL ret) rm (.ref b :: As) wi X) (hrd : RD y bytes maxL ret n) {ci N : Nat} {Cn : String} {T0 : u_T} {fs : List Value} (hlink : Cond.methodLink own index y ∈ allw) (hin : Cond.instanceMethod y ∈ allw) (hsel : Cond.selects Cn y y ∈ allw) (he : wi[0]? = some (b, .inr (ci, fs))) (hc : vwCl[ci]? = some (Cn, T0, N)) (hfr : rm.frames + 1 ≤ R.frames) (hlo : 8 + (maxL + 11) + rm.locals ≤ R.locals) (hce : cells + rm.cells ≤ R.cells) (hsl : slots + rm.slots ≤ R.slots) (hn : As.length = n) (hst0 : st0 = (As.reverse ++ .ref b :: rest)) (hrm : (rest.map fun v => v.category).sum ≤ 8) (d : decode cc pc = .ok (.invokevirtual index, 3)) (isC : List Nat) (hC : isC.map (fun i => ws[i]?) = wi.map some) (hnC : va_nd isC = true)
    (pre : List ExceptionTableEntry) (x : ExceptionTableEntry) (post : List ExceptionTableEntry) (hsplit : c.exceptionTable.toList = pre ++ x :: post) (hpass : ∀ y' ∈ pre, y'.catchType ≠ 0 ∧ ∃ nm, Cond.classLink own y'.catchType nm ∈ allw ∧ NC X nm s) (hx : covers x pc = true) (h0 : x.catchType ≠ 0) (hcl : Cond.classLink own x.catchType X ∈ allw) (hcx : va_Nw (.castable X X) s)
    (k : ∀ q : Nat, GG p l e R s m args below meth c Q D A nL (cells + rm.cells) (slots + rm.slots) x.handlerPc lv [.ref q] ws) : GG p l e R s m args below meth c Q D A nL cells slots pc lv st0 ws := by
  subst hst0
  intro H locs ls hP hD hS hl T hT X0
  have hPc : va_P D vwCl wi H := hP.subm isC hC
  have hDc : va_D A wi := hD.sub isC hnC hC
  have hFc := va_free (wc := wi) hD hS C.2.2.2.2.2 isC hC
  have w := C.2.2.2.2.1.2
  have hK : BackT l R p e below s args y 3 8 (PreOf R rm.cells rm.slots (PCT D E (.ref b :: As) wi H.size)) (PostT (Qt D X wi (va_A wi H.size)) rm.cells rm.slots (va_A wi H.size)) :=
    backT_of (ws := [Cond.code y bytes maxL ret]) (bytes := bytes) (maxL := maxL) (ret := ret) (hM H.size) pct_blind rfl rfl hfr hlo (fun w hw a' U hW => by cases List.mem_singleton.mp hw; exact (KK.warm hW C.2.2.2.2.1).2 _ hrd.1 a') (List.mem_singleton.mpr rfl) (fun a' U hW => (KK.warm hW C.2.2.2.2.1).2 _ hrd.2.1 a')
  obtain ⟨mk, methM, hnamed, hmethM, hstM, habM⟩ := Cond.instanceMethod_spec (w _ hin args)
  obtain ⟨methM', cM, hmethM', -, -, -, -, -, -, hsigM⟩ := Cond.code_spec hnamed (w _ hrd.1 args)
  cases hmethM.symm.trans hmethM'
  obtain ⟨c2, r2, m2, q1, q2, q3, q4, kP, hkP, hkPi⟩ := Cond.selects_spec (w _ hsel args)
  obtain ⟨cellB, hcB, hoB, hclB⟩ := va_recv C.2.2.2.2.1.1 hPc hc he
  cases hclB.symm.trans q1
  cases (State.methodFound?_of_named hnamed hrd.2.2.1).symm.trans q2
  cases hnamed.symm.trans q3
  have hselP : selectMethod e.platform s.vm cellB.cls mk = .method mk := by rw [Launch.admits_selectMethod X0.admits]; exact q4
  have hlen : As.length = methM.sig.parameters.length := by
    have h2 := hrd.2.2.2
    rw [hsigM] at h2
    rw [hn]; exact (Option.some.inj h2).symm
  obtain ⟨vm₁, X₁, hstep₁⟩ := X0.invokevirtual C.1 C.2.2.2.1 (w _ hlink args) hnamed hmethM hstM hkP hkPi hrd.2.2.1 (a := b) (cell := cellB) (by rw [hT]; exact hcB)
    (fun z h => by rw [h] at hoB; cases hoB) hselP hmethM habM hkP hkPi (g := F0 m pc ls (As.reverse ++ .ref b :: rest)) rfl (argsL := As) (rest := rest) hlen rfl (by rw [C.2.1]; exact d)
  obtain ⟨v, ⟨U', l2, c2, s2⟩, X', ⟨g', mk', t, L, e1, e2, hq, h1, hL, h2, h3⟩, hsteps⟩ := hK m meth c ⟨T.setVm vm₁, locs, cells, slots⟩ (F0 m pc ls rest) (.invokevirtual index) mk (.ref b :: As).toArray X₁ rfl (hl.1.trans C.2.2.1.symm) (by rw [C.2.1]; exact d) (lv_room hrm) (X₁.named hnamed)
    ⟨hce, hsl, rfl, by show T.heap.size = H.size; rw [hT], by show va_P D vwCl wi T.heap; rw [hT]; exact hPc, KK.warm X₁.warmed C.2.2.2.2.1, hDc.weaken (fun _ _ _ _ => trivial), K.moved X₁.warmed (fun a h1 h2 => by show T.heap[a]? = _; rw [hT]; exact hS.2.1 a h1 h2) hFc⟩
  dsimp only [Free.Pt.U, Free.Pt.locs, Free.Pt.cells, Free.Pt.slots] at X' e1 e2 h1 h2 h3 hsteps hq
  subst h1; subst h2; subst h3
  obtain ⟨⟨q, ce, hov, hcell, hvm, hfX, hP1⟩, hz, hkk⟩ := hq
  cases hov
  have hfX' : s.vm.findClass X = some ce.cls := by
    have h3 : vm₁.findClass X = some ce.cls := hfX
    have h4 : (T.setVm vm₁).vm.findClass X = s.vm.findClass X := X₁.warmed.alike.findClass X none
    rw [← h4]; exact h3
  obtain ⟨c3, c4, hc3, hc4, hasg⟩ := Cond.castable_spec (va_Nw.use (A := args) rfl hcx)
  cases hc3.symm.trans hfX'
  cases hc4.symm.trans hfX'
  obtain ⟨hend, hk0⟩ := X'.catches_of_link C.2.2.2.1 h0 (w _ hcl args) hfX' hasg
  have hpl : e.platform.magicAccessors = ({} : Platform).magicAccessors := by rw [X0.admits.platform]
  have hps : ∀ y' ∈ pre, RowPassed e.platform s m.cls (F0 m pc ls rest).pc ce.cls y' := by
    intro y' hy'
    obtain ⟨hy0, nm, hnl, hnc⟩ := hpass y' hy'
    obtain ⟨c', hc', hcl'⟩ := Cond.classLink_spec C.2.2.2.1 (w _ hnl args) e.platform hpl
    exact Or.inr ⟨hy0, c', hcl', hnc _ _ hfX' hc'⟩
  have hcome : Steps p.tables e below (T.setTop (F0 m pc ls (As.reverse ++ .ref b :: rest))) ((U'.setTop (F0 m pc ls rest)).pushFrame (.throwing v)) :=
    hstep₁ _ fun acts => by rw [doInvoke_state]; exact hsteps
  obtain ⟨vm', XV, hgo⟩ := X'.thenCaughtThrough v (g := F0 m pc ls rest) rfl hcome (cell := ce) (by rw [e1]; exact hcell) (by rw [hvm]; rfl) hk0 pre x post hsplit hps hx hend
  have hst : ((T.setVm vm₁).calling g' mk' (Value.ref b :: As).toArray).heap = H := hT
  rw [hst] at hz hkk
  have hPn : va_P D vwCl ws t.heap := by
    intro k0 q0 hk0
    have hlt := (hP k0 q0 hk0).lt
    by_cases ha : va_A wi H.size q0.1
    · rcases ha with ⟨k2, e2', h⟩ | h
      · have h1 : (isC.map (fun i => ws[i]?))[k2]? = some (some (q0.1, e2')) := by rw [hC, List.getElem?_map, h]; rfl
        rw [List.getElem?_map] at h1
        cases hi : isC[k2]? with
        | none => rw [hi] at h1; cases h1
        | some i =>
          rw [hi] at h1
          have h5 : ws[i]? = some (q0.1, e2') := Option.some.inj h1
          have h6 := hD.1 k0 i q0 (q0.1, e2') hk0 h5 rfl
          subst h6
          have h7 : q0 = (q0.1, e2') := Option.some.inj (hk0.symm.trans h5)
          rw [h7]
          exact hP1 k2 _ h
      · omega
    · exact (hP k0 q0 hk0).kept (hkk q0.1 hlt ha)
  obtain ⟨t2, a1, b1⟩ := k v U'.heap (locs ++ L) ls (by rw [e1]; exact hPn) hD
    ⟨Nat.le_trans hS.1 (by rw [e1]; exact hz), fun q h1 h2 => by rw [e1, hkk q (Nat.lt_of_lt_of_le h1 hS.1) (fun z => h2 (hFc q z))]; exact hS.2.1 q h1 h2, fun q hq => by
      rcases List.mem_append.mp hq with h | h
      · exact hS.2.2 q h
      · exact hFc _ (hL q h)⟩ hl (U'.setVm vm') rfl XV
  exact ⟨t2, hgo.trans a1, b1⟩
end CatchRow
