/-! The law's beginning. Written by gen_law3.py. -/
theorem kk_any {w : Cond} (h : (goodWord w || isNest w) = true) {s : State} {a0 : Array Value} (h0 : w.before a0 s = true) : ∀ a : Array Value, w.before a s = true := by
  intro a
  rcases Bool.or_eq_true _ _ |>.mp h with h | h
  · exact word_at (State.WarmedH.refl s) (good_of_word h) h0
  · cases w <;> first | (simp [isNest] at h; done) | exact va_Nw.use rfl (va_Nw.of rfl h0)
theorem arr_of {s : State} {a : Array Value} {ty : FieldType} (h : (Cond.arrayClass ty).before a s = true) : ∃ cA : ClassId, ArrOfT s cA ty ∧ s.vm.findClass ("[" ++ ty.toString) = some cA := by
  obtain ⟨c, k, comp, h1, h2, h3⟩ := Cond.arrayClass_spec h
  exact ⟨c, fun n z => ⟨fun k h => (by cases h), k, h2, comp, h3⟩, h1⟩
theorem KK_of {s : State} {a0 : Array Value} (hts : ∀ w ∈ lw_tbl, w.before a0 s = true) : ∃ (D : va_G) (E : Nat → ClassId), KK D E s := by
  have hw : ∀ w ∈ allw, ∀ a : Array Value, w.before a s = true := fun w hw => kk_any (List.mem_filter.mp hw).2 (hts w (List.mem_filter.mp hw).1)
  have hw0 : ∀ w ∈ allw, w.before a0 s = true := fun w h => hw w h a0
  obtain ⟨c0, i0, k0⟩ := u_known (C := "AttackBench") (T := T_AB) (N := 6) (n := 6) hw0 lay_AB (hw0 _ m_52)
  obtain ⟨c1, i1, k1⟩ := u_known (C := "AttackBench$Grounds") (T := T_Grounds) (N := 2) (n := 2) hw0 lay_Grounds (hw0 _ m_121)
  obtain ⟨c2, i2, k2⟩ := u_known (C := "AttackBench$Listing") (T := T_Listing) (N := 4) (n := 4) hw0 lay_Listing (hw0 _ m_102)
  obtain ⟨c3, i3, k3⟩ := u_known (C := "AttackBench$Rings") (T := T_Rings) (N := 3) (n := 3) hw0 lay_Rings (hw0 _ m_156)
  obtain ⟨c4, i4, k4⟩ := u_known (C := "AttackBench$Senses") (T := T_Senses) (N := 6) (n := 6) hw0 lay_Senses (hw0 _ m_77)
  obtain ⟨c5, i5, k5⟩ := u_known (C := "AttackBench$Talk") (T := T_Talk) (N := 5) (n := 5) hw0 lay_Talk (hw0 _ m_134)
  obtain ⟨c6, i6, k6⟩ := u_known (C := "AttackBench$Web") (T := T_Web) (N := 3) (n := 3) hw0 lay_Web (hw0 _ m_60)
  obtain ⟨c7, i7, k7⟩ := u_known (C := "AttackBenchModel") (T := T_Mo) (N := 25) (n := 25) hw0 lay_Mo (hw0 _ m_629)
  obtain ⟨e0, a0, n0⟩ := arr_of (hw0 _ m_75)
  obtain ⟨e1, a1, n1⟩ := arr_of (hw0 _ m_874)
  obtain ⟨e2, a2, n2⟩ := arr_of (hw0 _ m_521)
  obtain ⟨e3, a3, n3⟩ := arr_of (hw0 _ m_710)
  refine ⟨(fun k => [c0, c1, c2, c3, c4, c5, c6, c7].getD k 0, fun k => [i0, i1, i2, i3, i4, i5, i6, i7].getD k i0), fun k => [e0, e1, e2, e3].getD k 0, ⟨?_, ?_⟩, hw⟩
  · intro k q hq
    match k, hq with
    | 0, hq => cases hq; exact k0
    | 1, hq => cases hq; exact k1
    | 2, hq => cases hq; exact k2
    | 3, hq => cases hq; exact k3
    | 4, hq => cases hq; exact k4
    | 5, hq => cases hq; exact k5
    | 6, hq => cases hq; exact k6
    | 7, hq => cases hq; exact k7
    | k + 8, hq => simp [vwCl] at hq
  · intro k q hq
    match k, hq with
    | 0, hq => cases hq; exact ⟨a0, n0⟩
    | 1, hq => cases hq; exact ⟨a1, n1⟩
    | 2, hq => cases hq; exact ⟨a2, n2⟩
    | 3, hq => cases hq; exact ⟨a3, n3⟩
    | k + 4, hq => simp at hq
section LawStart
variable {p : Program} {l : Launch} {e : Env} {R : Room} {s : State} {m : MethodId} {args : Array Value} {below : List Frame} {meth : Method} {c : Code} {Q : State → Prop} {D : va_G} {E : Nat → ClassId} {A : Nat → Prop} {cells slots : Nat} {b L t : Nat} {xs : Nat → Int32} {cA cO : Nat → Nat} {ou : Nat} {a : AS} {o : OS} {f : Nat → Int64}
set_option maxHeartbeats 4000000 in
set_option maxRecDepth 100000 in
theorem law_begin (C : CX p s m args c D E A code 7 "AttackBenchLaw") (K : TK A s) (htr : TR l) (hX : va_X b L xs s s.heap) (hbl : b < s.heap.size) (hbA : ¬ A b) (hL : L ≤ 2048) (hRf : 100 ≤ R.frames) (hRl : 2000 ≤ R.locals) {cE sE : Nat} (hcE : 700 ≤ cE) (hsE : 40000 ≤ sE) (hcR : cE ≤ R.cells) (hsR : sE ≤ R.slots) (hEnd : ∀ ws, GG p l e R s m args below meth c Q D A 7 cE sE 950 [] [.int 1] ws) : GG p l e R s m args below meth c Q D A 7 0 0 0 [(0, .ref b)] [] [] := by
  refine g_new (ci := 0) (fs := [.null, .null, .null, .null, .null, .null]) C lay_AB ty_AB m_51 m_52 m_38 rfl df_AB (by omega) (by omega) d_Law_law_0 (fun q0 => ?_)
  refine g_dup C d_Law_law_3 rfl ?_
  refine g_vI (rest := [.ref q0]) (wr := []) C (a_init l D E q0) rd_AB_init m_53 m_54 rfl (by show 2 + 1 ≤ R.frames; omega) (by show 8 + (1 + 11) + 32 ≤ R.locals; omega) (by show 0 + 1 + 17 ≤ R.cells; omega) (by show 0 + 6 + 10699 ≤ R.slots; omega) rfl rfl (Nat.le_of_ble_eq_true rfl) d_Law_law_4 [0] [] rfl (by decide) rfl (by decide) (by decide) (fun u hu => ?_)
  obtain ⟨h1, h2, h3, h4, h5, h6, h7, h8, h9, h10, h11, h12, h13, h14, h15, h16, h17⟩ := u
  refine g_cells (ws' := aC E (fun k => [q0, h1, h2, h3, h4, h5, h6, h7, h8, h9, h10, h11, h12, h13, h14, h15, h16, h17].getD k 0) (0, (fun _ => 0), (fun _ => 0), (fun _ => 0), (fun _ => 0), (fun _ => 0), 0, 0, false, false, 0, 0, none, (fun _ => 0), 0, (fun _ => 0), aN (fun _ => 0), (fun _ => 0), 0, false, (fun _ => 0), (fun _ => 0), 0)) [0, 1, 2, 3, 4, 5, 6, 7, 8, 9, 10, 11, 12, 13, 14, 15, 16, 17] (by decide) rfl ?_
  refine g_astore_n (lv' := [(1, .ref q0), (0, .ref b)]) C d_Law_law_7 rfl (by decide) rfl ?_
  refine g_new (ci := 7) (fs := [.int (nI 0), .int (nI 0), .null, .null, .null, .null, .null, .null, .int (bI false), .int (bI false), .int (bI false), .int (nI 0), .int (nI 0), .null, .int (nI 0), .int (nI 0), .null, .null, .null, .null, .null, .null, .int (nI 0), .null, .null]) C lay_Mo ty_Mo m_628 m_629 m_45 rfl df_Mo (by show 0 + 1 + 17 + 1 ≤ R.cells; omega) (by show 0 + 6 + 10699 + 25 ≤ R.slots; omega) d_Law_law_8 (fun q1 => ?_)
  refine g_dup C d_Law_law_11 rfl ?_
  refine g_vI (rest := [.ref q1]) (wr := aC E (fun k => [q0, h1, h2, h3, h4, h5, h6, h7, h8, h9, h10, h11, h12, h13, h14, h15, h16, h17].getD k 0) (0, (fun _ => 0), (fun _ => 0), (fun _ => 0), (fun _ => 0), (fun _ => 0), 0, 0, false, false, 0, 0, none, (fun _ => 0), 0, (fun _ => 0), aN (fun _ => 0), (fun _ => 0), 0, false, (fun _ => 0), (fun _ => 0), 0)) C (o_init l D E q1) rd_Mo_init m_630 m_631 rfl (by show 1 + 1 ≤ R.frames; omega) (by show 8 + (1 + 11) + 12 ≤ R.locals; omega) (by show 0 + 1 + 17 + 1 + 15 ≤ R.cells; omega) (by show 0 + 6 + 10699 + 25 + 19744 ≤ R.slots; omega) rfl rfl (Nat.le_of_ble_eq_true rfl) d_Law_law_12 [18] [0, 1, 2, 3, 4, 5, 6, 7, 8, 9, 10, 11, 12, 13, 14, 15, 16, 17] rfl (by decide) rfl (by decide) (by decide) (fun u hu => ?_)
  obtain ⟨g1, g2, g3, g4, g5, g6, g7, g8, g9, g10, g11, g12, g13, g14, g15⟩ := u
  refine g_cells (ws' := aC E (fun k => [q0, h1, h2, h3, h4, h5, h6, h7, h8, h9, h10, h11, h12, h13, h14, h15, h16, h17].getD k 0) (0, (fun _ => 0), (fun _ => 0), (fun _ => 0), (fun _ => 0), (fun _ => 0), 0, 0, false, false, 0, 0, none, (fun _ => 0), 0, (fun _ => 0), aN (fun _ => 0), (fun _ => 0), 0, false, (fun _ => 0), (fun _ => 0), 0) ++ oC E (fun k => [q1, g1, g2, g3, g4, g5, g6, g7, g8, g9, g10, g11, g12, g13, g14, g15].getD k 0) (0, 0, false, false, false, 0, 1, 0, 0, 0, (fun _ => 0), (fun _ => 0), (fun _ => 0), (fun _ => 0), (fun _ => false), (fun _ => false), (fun _ => 0), (fun _ => 0), aN (fun _ => 0), (fun _ => 0), (fun _ => 0), aN (fun _ => 0), (fun _ => 0), (fun _ => 0), aN (fun _ => 0))) [0, 1, 2, 3, 4, 5, 6, 7, 8, 9, 10, 11, 12, 13, 14, 15, 16, 17, 18, 19, 20, 21, 22, 23, 24, 25, 26, 27, 28, 29, 30, 31, 32, 33] (by decide) rfl ?_
  refine g_astore_n (lv' := [(2, .ref q1), (1, .ref q0), (0, .ref b)]) C d_Law_law_15 rfl (by decide) rfl ?_
  refine g_iconst (v := 1) C d_Law_law_16 (by decide) ?_
  refine g_newJ C m_874 (by decide) (N' := 1) (by decide) (by decide) (by show 0 + 1 + 17 + 1 + 15 + 1 ≤ R.cells; omega) (by show 0 + 6 + 10699 + 25 + 19744 + 1 ≤ R.slots; omega) d_Law_law_17 (fun q2 => ?_)
  refine g_cells (ws' := WS E (fun k => [q0, h1, h2, h3, h4, h5, h6, h7, h8, h9, h10, h11, h12, h13, h14, h15, h16, h17].getD k 0) (fun k => [q1, g1, g2, g3, g4, g5, g6, g7, g8, g9, g10, g11, g12, g13, g14, g15].getD k 0) q2 (0, (fun _ => 0), (fun _ => 0), (fun _ => 0), (fun _ => 0), (fun _ => 0), 0, 0, false, false, 0, 0, none, (fun _ => 0), 0, (fun _ => 0), aN (fun _ => 0), (fun _ => 0), 0, false, (fun _ => 0), (fun _ => 0), 0) (0, 0, false, false, false, 0, 1, 0, 0, 0, (fun _ => 0), (fun _ => 0), (fun _ => 0), (fun _ => 0), (fun _ => false), (fun _ => false), (fun _ => 0), (fun _ => 0), aN (fun _ => 0), (fun _ => 0), (fun _ => 0), aN (fun _ => 0), (fun _ => 0), (fun _ => 0), aN (fun _ => 0)) (fun _ => 0)) [0, 1, 2, 3, 4, 5, 6, 7, 8, 9, 10, 11, 12, 13, 14, 15, 16, 17, 18, 19, 20, 21, 22, 23, 24, 25, 26, 27, 28, 29, 30, 31, 32, 33, 34] (by decide) rfl ?_
  refine g_astore_n (lv' := [(3, .ref q2), (2, .ref q1), (1, .ref q0), (0, .ref b)]) C d_Law_law_19 rfl (by decide) rfl ?_
  refine g_iconst (v := nI 0) C d_Law_law_20 (by decide) ?_
  refine g_istore (lv' := [(4, .int (nI 0)), (3, .ref q2), (2, .ref q1), (1, .ref q0), (0, .ref b)]) C d_Law_law_21 (by decide) rfl ?_
  refine g_perm (lv' := lvL (fun k => [q0, h1, h2, h3, h4, h5, h6, h7, h8, h9, h10, h11, h12, h13, h14, h15, h16, h17].getD k 0) (fun k => [q1, g1, g2, g3, g4, g5, g6, g7, g8, g9, g10, g11, g12, g13, g14, g15].getD k 0) q2 b 0) [4, 3, 2, 1, 0] rfl ?_
  refine g_widen (k := 40) (n := 31000) (by decide) (by decide) ?_
  exact law_loop (cells := 40) (slots := 31000) C K htr hX hbl hbA hL hRf hRl (cE := cE) (sE := sE) (by omega) (by omega) hcR hsR hEnd 513 0 _ _ _ rfl (Nat.zero_le _) SIM_0
end LawStart
