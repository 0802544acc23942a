/-! Methods with an exception table: their contracts, calls of them; contracts over more cells -/
/-- a method with an answer of one word, that may throw inside -/
def MIT (l : Launch) (D : va_G) (E : Nat → ClassId) (y : MethodName) (cw : Cond) (rm : Room) (av : List Value) (wi : va_W) {S : Type} (post : Int32 → S → Prop) (wo : S → va_W) : Prop :=
  ∀ sz : Nat, Met l y [cw] rm (PCT D E av wi sz) (va_Qi post (BC D (va_A wi sz) wo) (va_A wi sz)) rm.cells rm.slots (va_A wi sz)
theorem MIT.of {l : Launch} {D : va_G} {E : Nat → ClassId} {y : MethodName} {cc : ByteArray} {nL : Nat} {rt : Option FieldType} {hh : List (Nat × Nat × Nat × Nat)} {rm : Room} {av : List Value} {wi : va_W} {S : Type} {post : Int32 → S → Prop} {wo : S → va_W} (hy : plainName y.cls = true) (hlen : (lg_sl av).length ≤ nL)
    (body : ∀ (p : Program) (e : Env) (s : State) (m : MethodId) (args : Array Value) (below : List Frame) (meth : Method) (c : Code) (A : Nat → Prop), CX p s m args c D E A cc nL y.cls → TK A s → c.exceptionTable.toList.map (fun h => (h.startPc, h.endPc, h.handlerPc, h.catchType)) = hh → meth.sig.returnType = rt → meth.locks = false →
      GG p l e rm s m args below meth c (MQ below (va_Qi post (BC D A wo) A) args s rm.cells rm.slots A) D A nL 0 0 0 (lv_args 0 av) [] wi) : MIT l D E y (.codeWith y cc nL rt hh) rm av wi post wo := by
  intro sz
  refine MetFree.of_bodyS (code := cc) (maxLocals := nL) (ret := rt) hy ?_ ?_
  · intro args s m h hn
    obtain ⟨m9, meth, c, hn9, h1, h2, h3, h4, -, h5, h6, -⟩ := Cond.codeWith_spec (atoms_spec (ws := [Cond.codeWith y cc nL rt hh]) h _ List.mem_cons_self)
    cases hn.symm.trans hn9
    exact ⟨meth, c, h1, h2, h3, h4, h5, h6⟩
  · intro p e s m args below meth c s₁ B hml hv _
    have hh0 : s₁.heap = s.heap := by rw [B.state]; rfl
    obtain ⟨m9, meth2, c2, hn9, q1, q2, -, -, q5, -, -, -⟩ := Cond.codeWith_spec (atoms_spec (ws := [Cond.codeWith y cc nL rt hh]) (args := args) (s := s) B.pre _ List.mem_cons_self)
    cases B.named.symm.trans hn9
    cases B.method.symm.trans q1
    cases (Stand.of_body B).code.symm.trans q2
    obtain ⟨rfl, hsz, hP, hK, hD0, hT⟩ := hv
    subst hsz
    have key : W p l e rm s m av.toArray below meth c s.heap [] 0 0 (MQ below (va_Qi post (BC D (va_A wi s.heap.size) wo) (va_A wi s.heap.size)) av.toArray s rm.cells rm.slots (va_A wi s.heap.size)) (entryFrame m av.toArray nL) := by
      have hD := hD0.self (sz := s.heap.size)
      generalize hAe : va_A wi s.heap.size = A at hD hT ⊢
      have hA : ∀ q : Nat, s.heap.size ≤ q → A q := fun q h => by rw [← hAe]; exact Or.inr h
      have hl := lv_entry av (n := nL) hlen
      rw [lg_entry_eq]
      exact body p e s m _ below meth c A ⟨B.exec, B.bytes, hml, findClass_of_methodNamed B.named, hK, hA⟩ hT q5 B.returns B.notSynchronized s.heap [] _ hP hD va_S.rf hl
    obtain ⟨t, a1, o, b1, b2, b3⟩ := key s₁ hh0 (Stand.of_body B)
    exact ⟨t, o, a1, b1, b2, ⟨b3.1, b3.2⟩⟩
section CallSW
variable {p : Program} {l : Launch} {e : Env} {R : Room} {s : State} {m : MethodId} {args : Array Value} {below : List Frame} {meth : Method} {c : Code} {Q : State → Prop} {D : va_G} {E : Nat → ClassId} {A : Nat → Prop} {cc : ByteArray} {own : String} {nL cells slots pc : Nat} {lv lv' : List (Nat × Value)} {st0 rest As : List Value} {ws ws' wi wr : va_W}
variable {S : Type} {wo : S → va_W} {rm : Room} {y : MethodName} {bytes : ByteArray} {maxL n index : Nat} {ret : Option FieldType} {hh : List (Nat × Nat × Nat × Nat)}
/-- invokestatic of a method with an exception table -/
theorem g_iSW (C : CX p s m args c D E A cc nL own) (K : TK A s) {post : Int32 → S → Prop} (hM : MIT l D E y (.codeWith y bytes maxL ret hh) rm As wi post wo) (hcw : Cond.codeWith y bytes maxL ret hh ∈ allw) (hini : Cond.initialized y.cls ∈ allw) (hnot : y.cls ≠ "java/lang/invoke/MethodHandle" ∧ y.cls ≠ "java/lang/invoke/VarHandle") (hpar : (parseMethodDescriptor y.desc).map (fun d => d.parameters.length) = some n) (hlink : Cond.methodLink own index y ∈ allw) (hst : Cond.static y ∈ allw) (hfr : rm.frames + 1 ≤ R.frames) (hlo : 8 + (maxL + 11) + rm.locals ≤ R.locals) (hce : cells + rm.cells ≤ R.cells) (hsl : slots + rm.slots ≤ R.slots) (hn : As.length = n) (hst0 : st0 = (As.reverse ++ rest)) (hrm : (rest.map fun v => v.category).sum ≤ 8) (d : decode cc pc = .ok (.invokestatic index, 3)) (isC isR : List Nat) (hC : isC.map (fun i => ws[i]?) = wi.map some) (hnC : va_nd isC = true) (hR : isR.map (fun i => ws[i]?) = wr.map some) (hnR : va_nd isR = true) (hdis : ∀ i ∈ isR, i ∉ isC)
    (k : ∀ (r : Int32) (u : S), post r u → GG p l e R s m args below meth c Q D A nL (cells + rm.cells) (slots + rm.slots) (pc + 3) lv (.int r :: rest) (wr ++ wo u)) : GG p l e R s m args below meth c Q D A nL cells slots pc lv st0 ws := by
  subst hst0
  intro H locs ls hP hD hS hl
  have hPc : va_P D vwCl wi H := hP.subm isC hC
  have hDc : va_D A wi := hD.sub isC hnC hC
  have hFc := va_free (wc := wi) hD hS C.2.2.2.2.2 isC hC
  have w := C.2.2.2.2.1.2
  have hr : va_Run p l e R s m args below meth c H locs cells slots rm.cells rm.slots (F0 m pc ls (As.reverse ++ rest)) rest (va_Qi post (BC D (va_A wi H.size) wo) (va_A wi H.size) As.toArray) (va_A wi H.size) := by
    intro T hT X
    have hK : Back l R p e below s args y 3 8 (PreOf R rm.cells rm.slots (PCT D E As wi H.size)) (PostOf (va_Qi post (BC D (va_A wi H.size) wo) (va_A wi H.size)) rm.cells rm.slots (va_A wi H.size)) :=
      va_backW (hh := hh) (ws := [Cond.codeWith y bytes maxL ret hh]) (bytes := bytes) (maxL := maxL) (ret := ret) (hM H.size) pct_blind rfl rfl hfr hlo (fun w hw a' U hW => by cases List.mem_singleton.mp hw; exact (KK.warm hW C.2.2.2.2.1).2 _ hcw a') (List.mem_singleton.mpr rfl) (fun a' U hW => (KK.warm hW C.2.2.2.2.1).2 _ hini a')
    obtain ⟨mk, methM, cM, hnamed, hmethM, -, -, -, -, -, -, hsigM⟩ := Cond.codeWith_spec (w _ hcw args)
    have hstatic : methM.isStatic = true := Cond.static_spec hnamed hmethM (w _ hst args)
    obtain ⟨kP, hkP, -⟩ := className_of_methodNamed hnamed
    have hinitP : kP.init = .initialized := Cond.initialized_spec (findClass_of_methodNamed hnamed) hkP (w _ hini args)
    have hlen : As.length = methM.sig.parameters.length := by
      have h2 := hpar
      rw [hsigM] at h2
      rw [hn]; exact (Option.some.inj h2).symm
    obtain ⟨vm₁, X₁, hstep₁⟩ := X.invokestatic C.1 C.2.2.2.1 (w _ hlink args) hnamed hmethM hstatic hkP hinitP hnot (g := F0 m pc ls (As.reverse ++ rest)) rfl (argsL := As) (rest := rest) hlen rfl (by rw [C.2.1]; exact d)
    obtain ⟨v, ⟨U', l2, c2, s2⟩, X', ⟨g', mk', t, L, e1, e2, hq, h1, hL, h2, h3⟩, hsteps⟩ := hK m meth c ⟨T.setVm vm₁, locs, cells, slots⟩ (F0 m pc ls rest) (.invokestatic index) mk As.toArray X₁ rfl (hl.1.trans C.2.2.1.symm) (by rw [C.2.1]; exact d) (lv_room hrm) (X₁.named hnamed)
      ⟨hce, hsl, rfl, by show T.heap.size = H.size; rw [hT], by show va_P D vwCl wi T.heap; rw [hT]; exact hPc, KK.warm X₁.warmed C.2.2.2.2.1, hDc.weaken (fun _ _ _ _ => trivial), K.moved X₁.warmed (fun a h1 h2 => by show T.heap[a]? = _; rw [hT]; exact hS.2.1 a h1 h2) hFc⟩
    dsimp only [Free.Pt.U, Free.Pt.locs, Free.Pt.cells, Free.Pt.slots] at X' e1 e2 h1 h2 h3 hsteps
    subst h1; subst h2; subst h3
    exact ⟨v, (T.setVm vm₁).calling g' mk' As.toArray, t, U', L, hT, X', hL, e1, e2, hq, fun target h => hstep₁ _ fun acts => by rw [doInvoke_state]; exact hsteps.trans h⟩
  refine va_calli hr hS (fun q _ h => hFc q h) hFc (fun r u t H1 locs ht hvm hw hB hz1 hk1 hS => ?_)
  obtain ⟨hP1, hD1⟩ := hB
  rw [ht] at hP1
  obtain ⟨hP, hD⟩ := va_join hP hD isC isR hC hR hnR hdis hk1 hFc hP1 hD1
  exact k r u hw H1 locs ls hP hD hS hl
end CallSW
/-- a room that holds another -/
abbrev rmle (a b : Room) : Prop := a.frames ≤ b.frames ∧ a.locals ≤ b.locals ∧ a.cells ≤ b.cells ∧ a.slots ≤ b.slots
theorem room_mono {s : State} {pl : Platform} {a b : Room} (h : rmle a b) (hb : s.hasRoom pl b = true) : s.hasRoom pl a = true := by
  obtain ⟨h1, h2, h3, h4⟩ := h
  simp only [State.hasRoom, Bool.and_eq_true, decide_eq_true_eq] at hb ⊢
  obtain ⟨⟨⟨⟨q1, q2, q3, q4, q5, q6⟩, q7⟩, q8⟩, q9⟩ := hb
  exact ⟨⟨⟨⟨by omega, by omega, by omega, by omega, by omega, q6⟩, by omega⟩, by omega⟩, q9⟩
theorem Met.lift {l : Launch} {y : MethodName} {ws : List Cond} {rm rm' : Room} {Pc Pc' : Array Value → State → Prop} {Qc Qc' : Array Value → State → Outcome → State → Prop} {mc ms mc' ms' : Nat} {free free' : Addr → Prop}
    (hM : Met l y ws rm Pc Qc mc ms free) (hr : rmle rm rm') (hmc : mc ≤ mc') (hms : ms ≤ ms') (hf : ∀ q, free q → free' q) (hP : ∀ a s, Pc' a s → Pc a s) (hQ : ∀ a s o t, Pc' a s → Qc a s o t → Qc' a s o t) : Met l y ws rm' Pc' Qc' mc' ms' free' := by
  intro p e ha hc hk s m args below hfr happ hP' hK
  obtain ⟨h1, h2, h3, h4, h5, h6, h7, h8⟩ := (Spec.appliesLoose_iff hfr).mp happ
  obtain ⟨n, o, a1, a2, a3, a4, L, ⟨b1, b2, b3⟩, b4⟩ := hM p e ha hc hk s m args below hfr ((Spec.appliesLoose_iff hfr).mpr ⟨h1, h2, h3, h4, h5, h6, room_mono hr h7, h8⟩) (hP _ _ hP') hK
  exact ⟨n, o, a1, a2, a3, hQ _ _ _ _ hP' a4, L, ⟨b1, b2, b3.mono hmc hms⟩, fun q hq => hf _ (b4 q hq)⟩
theorem MetT.lift {l : Launch} {y : MethodName} {ws : List Cond} {rm rm' : Room} {Pc Pc' : Array Value → State → Prop} {Qc Qc' : Array Value → State → Outcome → State → Prop} {mc ms mc' ms' : Nat} {free free' : Addr → Prop}
    (hM : MetT l y ws rm Pc Qc mc ms free) (hr : rmle rm rm') (hmc : mc ≤ mc') (hms : ms ≤ ms') (hf : ∀ q, free q → free' q) (hP : ∀ a s, Pc' a s → Pc a s) (hQ : ∀ a s o t, Pc' a s → Qc a s o t → Qc' a s o t) : MetT l y ws rm' Pc' Qc' mc' ms' free' := by
  intro p e ha hc hk s m args below hfr happ hP' hK
  obtain ⟨h1, h2, h3, h4, h5, h6, h7, h8⟩ := (Spec.appliesLoose_iff hfr).mp happ
  obtain ⟨n, o, a1, a2, a3, a4, L, ⟨b1, b2, b3⟩, b4⟩ := hM p e ha hc hk s m args below hfr ((Spec.appliesLoose_iff hfr).mpr ⟨h1, h2, h3, h4, h5, h6, room_mono hr h7, h8⟩) (hP _ _ hP') hK
  exact ⟨n, o, a1, a2, a3, hQ _ _ _ _ hP' a4, L, ⟨b1, b2, b3.mono hmc hms⟩, fun q hq => hf _ (b4 q hq)⟩
theorem cells_at {ws wi : va_W} {isC : List Nat} (hC : isC.map (fun i => ws[i]?) = wi.map some) {k : Nat} {q : Nat × va_E} (h : wi[k]? = some q) : ∃ i, isC[k]? = some i ∧ ws[i]? = some q := by
  have h1 : (isC.map (fun i => ws[i]?))[k]? = some (some q) := by rw [hC, List.getElem?_map, h]; rfl
  rw [List.getElem?_map] at h1
  cases hi : isC[k]? with
  | none => rw [hi] at h1; cases h1
  | some i => rw [hi] at h1; exact ⟨i, rfl, Option.some.inj h1⟩
theorem va_A_sub {ws wi : va_W} {isC : List Nat} (hC : isC.map (fun i => ws[i]?) = wi.map some) {sz q : Nat} (h : va_A wi sz q) : va_A ws sz q := by
  rcases h with ⟨k, e, h⟩ | h
  · obtain ⟨i, -, h2⟩ := cells_at hC h
    exact Or.inl ⟨i, e, h2⟩
  · exact Or.inr h
section Lift
variable {l : Launch} {D : va_G} {E : Nat → ClassId} {y : MethodName} {cw : Cond} {rm rm' : Room} {av : List Value} {wi wr ws : va_W} {S S' : Type} {wo : S → va_W} {wo' : S' → va_W}
theorem MI.lift {post : Int32 → S → Prop} {post' : Int32 → S' → Prop} (hM : MI l D E y cw rm av wi post wo) (hr : rmle rm rm') (isC isR : List Nat) (hC : isC.map (fun i => ws[i]?) = wi.map some) (hnC : va_nd isC = true) (hR : isR.map (fun i => ws[i]?) = wr.map some) (hnR : va_nd isR = true) (hdis : ∀ i ∈ isR, i ∉ isC) (is2 : List Nat) (hn2 : va_nd is2 = true)
    (hp : ∀ r u, post r u → ∃ u', post' r u' ∧ is2.map (fun i => (wr ++ wo u)[i]?) = (wo' u').map some) : MI l D E y cw rm' av ws post' wo' := by
  intro sz
  refine Met.lift (hM sz) hr hr.2.2.1 hr.2.2.2 (fun q h => va_A_sub hC h) ?_ ?_
  · intro a s h
    obtain ⟨h1, h2, h3, h4, h5⟩ := h
    exact ⟨h1, h2, h3.subm isC hC, h4, h5.sub isC hnC hC⟩
  · intro a s o t h hq
    obtain ⟨h1, h2, h3, h4, h5⟩ := h
    obtain ⟨⟨r, u, ho, hpo, hP1, hD1⟩, hz, hk⟩ := hq
    subst h2
    obtain ⟨hPj, hDj⟩ := va_join h3 (h5.self (sz := s.heap.size)) isC isR hC hR hnR hdis hk (fun q h => va_A_sub hC h) hP1 hD1
    obtain ⟨u', hp', he'⟩ := hp r u hpo
    exact ⟨⟨r, u', ho, hp', hPj.subm is2 he', hDj.sub is2 hn2 he'⟩, hz, fun q h1 h2 => hk q h1 (fun z => h2 (va_A_sub hC z))⟩
theorem MV.lift {post : S → Prop} {post' : S' → Prop} (hM : MV l D E y cw rm av wi post wo) (hr : rmle rm rm') (isC isR : List Nat) (hC : isC.map (fun i => ws[i]?) = wi.map some) (hnC : va_nd isC = true) (hR : isR.map (fun i => ws[i]?) = wr.map some) (hnR : va_nd isR = true) (hdis : ∀ i ∈ isR, i ∉ isC) (is2 : List Nat) (hn2 : va_nd is2 = true)
    (hp : ∀ u, post u → ∃ u', post' u' ∧ is2.map (fun i => (wr ++ wo u)[i]?) = (wo' u').map some) : MV l D E y cw rm' av ws post' wo' := by
  intro sz
  refine Met.lift (hM sz) hr hr.2.2.1 hr.2.2.2 (fun q h => va_A_sub hC h) ?_ ?_
  · intro a s h
    obtain ⟨h1, h2, h3, h4, h5⟩ := h
    exact ⟨h1, h2, h3.subm isC hC, h4, h5.sub isC hnC hC⟩
  · intro a s o t h hq
    obtain ⟨h1, h2, h3, h4, h5⟩ := h
    obtain ⟨⟨u, ho, hpo, hP1, hD1⟩, hz, hk⟩ := hq
    subst h2
    obtain ⟨hPj, hDj⟩ := va_join h3 (h5.self (sz := s.heap.size)) isC isR hC hR hnR hdis hk (fun q h => va_A_sub hC h) hP1 hD1
    obtain ⟨u', hp', he'⟩ := hp u hpo
    exact ⟨⟨u', ho, hp', hPj.subm is2 he', hDj.sub is2 hn2 he'⟩, hz, fun q h1 h2 => hk q h1 (fun z => h2 (va_A_sub hC z))⟩
theorem MI.post {post post' : Int32 → S → Prop} (hM : MI l D E y cw rm av wi post wo) (hp : ∀ r u, post r u → post' r u) : MI l D E y cw rm av wi post' wo := fun sz =>
  Met.lift (hM sz) ⟨Nat.le_refl _, Nat.le_refl _, Nat.le_refl _, Nat.le_refl _⟩ (Nat.le_refl _) (Nat.le_refl _) (fun _ h => h) (fun _ _ h => h) (fun _ _ _ _ _ h => by
    obtain ⟨⟨r, u, h1, h2, h3⟩, h4⟩ := h
    exact ⟨⟨r, u, h1, hp r u h2, h3⟩, h4⟩)
theorem MV.post {post post' : S → Prop} (hM : MV l D E y cw rm av wi post wo) (hp : ∀ u, post u → post' u) : MV l D E y cw rm av wi post' wo := fun sz =>
  Met.lift (hM sz) ⟨Nat.le_refl _, Nat.le_refl _, Nat.le_refl _, Nat.le_refl _⟩ (Nat.le_refl _) (Nat.le_refl _) (fun _ h => h) (fun _ _ h => h) (fun _ _ _ _ _ h => by
    obtain ⟨⟨u, h1, h2, h3⟩, h4⟩ := h
    exact ⟨⟨u, h1, hp u h2, h3⟩, h4⟩)
theorem MT.lift {X : String} (hM : MT l D E y cw rm av wi X) (hr : rmle rm rm') (isC : List Nat) (hC : isC.map (fun i => ws[i]?) = wi.map some) (hnC : va_nd isC = true) : MT l D E y cw rm' av ws X := by
  intro sz
  refine MetT.lift (hM sz) hr hr.2.2.1 hr.2.2.2 (fun q h => va_A_sub hC h) ?_ ?_
  · intro a s h
    obtain ⟨h1, h2, h3, h4, h5, h6⟩ := h
    exact ⟨h1, h2, h3.subm isC hC, h4, h5.sub isC hnC hC, TK.moved (State.WarmedH.refl s) (fun _ _ _ => rfl) (fun q h => va_A_sub hC h) h6⟩
  · intro a s o t h hq
    obtain ⟨h1, h2, h3, h4, h5, h6⟩ := h
    obtain ⟨⟨q, ce, b1, b2, b3, b4, b5⟩, hz, hk⟩ := hq
    refine ⟨⟨q, ce, b1, b2, b3, b4, ?_⟩, hz, fun q h1 h2 => hk q h1 (fun z => h2 (va_A_sub hC z))⟩
    intro k0 q0 hk0
    have hlt := (h3 k0 q0 hk0).lt
    by_cases ha : va_A wi sz q0.1
    · rcases ha with ⟨k2, e2', h⟩ | h
      · obtain ⟨i, -, h5'⟩ := cells_at hC h
        have h6 := h5.1 k0 i q0 (q0.1, e2') hk0 h5' rfl
        subst h6
        have h7 : q0 = (q0.1, e2') := Option.some.inj (hk0.symm.trans h5')
        rw [h7]
        exact b5 k2 _ h
      · omega
    · exact (h3 k0 q0 hk0).kept (hk q0.1 hlt ha)
end Lift
