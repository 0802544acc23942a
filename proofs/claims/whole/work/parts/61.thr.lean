/-! Where the class throws. Written by gen_thr.py. -/
abbrev rmT : Room := { frames := 10, cells := 1, slots := 6, locals := 160 }
set_option maxHeartbeats 4000000 in
set_option maxRecDepth 100000 in
theorem t_start (l : Launch) (D : va_G) (E : Nat → ClassId) (bb h g li q v w t u n : Nat) (T U : Nat → Nat) (op : Bool) (ki pl : Nat) (td : Option Nat) (x : Int32) (hb : inR x 5 = false) (htr : TR l) : MT l D E y_AB_start (.code y_AB_start k_AB_start 2 none) rmT [.ref bb, .int x] [(bb, .inr (0, [.ref h, .ref g, .ref li, .ref q, .ref v, .ref w])), (h, .inr (6, [.ref t, .ref u, .int (nI n)])), (t, .inl (E 0, 12, .inl (aN T))), (u, .inl (E 0, 12, .inl (aN U))), (li, .inr (2, [.int (bI op), .int (nI ki), .int (nI pl), .int (oI td)]))] iaN := by
  refine MT.of (by decide) (Nat.le_of_ble_eq_true rfl) ?_
  intro p e s m args below meth c A C K hex hlk
  refine g_lv (lv' := [(0, .ref bb), (1, .int x)]) rfl ?_
  refine g_iload_n C d_AB_start_0 rfl 1 rfl ?_
  refine g_iS (rest := []) (wr := [(bb, .inr (0, [.ref h, .ref g, .ref li, .ref q, .ref v, .ref w])), (h, .inr (6, [.ref t, .ref u, .int (nI n)])), (t, .inl (E 0, 12, .inl (aN T))), (u, .inl (E 0, 12, .inl (aN U))), (li, .inr (2, [.int (bI op), .int (nI ki), .int (nI pl), .int (oI td)]))]) C (c_isKind l D E x) rd_AB_isKind m_278 m_279 (Nat.le_of_ble_eq_true rfl) (Nat.le_of_ble_eq_true rfl) (Nat.le_of_ble_eq_true rfl) (Nat.le_of_ble_eq_true rfl) rfl rfl (Nat.le_of_ble_eq_true rfl) d_AB_start_1 [] [0, 1, 2, 3, 4] rfl (by decide) rfl (by decide) (by decide) (fun r1 _ (hr1 : r1 = bI (inR x 5)) => ?_)
  subst hr1
  refine g_cells (ws' := [(bb, .inr (0, [.ref h, .ref g, .ref li, .ref q, .ref v, .ref w])), (h, .inr (6, [.ref t, .ref u, .int (nI n)])), (t, .inl (E 0, 12, .inl (aN T))), (u, .inl (E 0, 12, .inl (aN U))), (li, .inr (2, [.int (bI op), .int (nI ki), .int (nI pl), .int (oI td)]))]) [0, 1, 2, 3, 4] (by decide) rfl ?_
  refine g_if_neB (tgt := 17) C d_AB_start_4 (by decide) (fun b0 => ?_) (fun b0 => ?_)
  · rw [hb] at b0; cases b0
  · exact g_throw C K htr hex hlk (own_ia D E) (by decide +kernel) m_455 m_456 m_49 (List.mem_of_getElem? (i := 0) rfl) d_AB_start_7 d_AB_start_10 d_AB_start_11 d_AB_start_13 d_AB_start_16 (by decide) (by decide) (by decide) (by decide)
set_option maxHeartbeats 4000000 in
set_option maxRecDepth 100000 in
theorem t_count (l : Launch) (D : va_G) (E : Nat → ClassId) (bb h g li q v w t u n : Nat) (T U : Nat → Nat) (op : Bool) (ki pl : Nat) (td : Option Nat) (x : Int32) (hb : inR x 5 = false) (htr : TR l) : MT l D E y_AB_count (.code y_AB_count k_AB_count 2 (some .int)) rmT [.ref bb, .int x] [(bb, .inr (0, [.ref h, .ref g, .ref li, .ref q, .ref v, .ref w])), (h, .inr (6, [.ref t, .ref u, .int (nI n)])), (t, .inl (E 0, 12, .inl (aN T))), (u, .inl (E 0, 12, .inl (aN U))), (li, .inr (2, [.int (bI op), .int (nI ki), .int (nI pl), .int (oI td)]))] iaN := by
  refine MT.of (by decide) (Nat.le_of_ble_eq_true rfl) ?_
  intro p e s m args below meth c A C K hex hlk
  refine g_lv (lv' := [(0, .ref bb), (1, .int x)]) rfl ?_
  refine g_iload_n C d_AB_count_0 rfl 1 rfl ?_
  refine g_iS (rest := []) (wr := [(bb, .inr (0, [.ref h, .ref g, .ref li, .ref q, .ref v, .ref w])), (h, .inr (6, [.ref t, .ref u, .int (nI n)])), (t, .inl (E 0, 12, .inl (aN T))), (u, .inl (E 0, 12, .inl (aN U))), (li, .inr (2, [.int (bI op), .int (nI ki), .int (nI pl), .int (oI td)]))]) C (c_isKind l D E x) rd_AB_isKind m_278 m_279 (Nat.le_of_ble_eq_true rfl) (Nat.le_of_ble_eq_true rfl) (Nat.le_of_ble_eq_true rfl) (Nat.le_of_ble_eq_true rfl) rfl rfl (Nat.le_of_ble_eq_true rfl) d_AB_count_1 [] [0, 1, 2, 3, 4] rfl (by decide) rfl (by decide) (by decide) (fun r1 _ (hr1 : r1 = bI (inR x 5)) => ?_)
  subst hr1
  refine g_cells (ws' := [(bb, .inr (0, [.ref h, .ref g, .ref li, .ref q, .ref v, .ref w])), (h, .inr (6, [.ref t, .ref u, .int (nI n)])), (t, .inl (E 0, 12, .inl (aN T))), (u, .inl (E 0, 12, .inl (aN U))), (li, .inr (2, [.int (bI op), .int (nI ki), .int (nI pl), .int (oI td)]))]) [0, 1, 2, 3, 4] (by decide) rfl ?_
  refine g_if_neB (tgt := 17) C d_AB_count_4 (by decide) (fun b0 => ?_) (fun b0 => ?_)
  · rw [hb] at b0; cases b0
  · exact g_throw C K htr hex hlk (own_ia D E) (by decide +kernel) m_455 m_456 m_49 (List.mem_of_getElem? (i := 0) rfl) d_AB_count_7 d_AB_count_10 d_AB_count_11 d_AB_count_13 d_AB_count_16 (by decide) (by decide) (by decide) (by decide)
set_option maxHeartbeats 4000000 in
set_option maxRecDepth 100000 in
theorem t_next (l : Launch) (D : va_G) (E : Nat → ClassId) (bb h g li q v w t u n : Nat) (T U : Nat → Nat) (op : Bool) (ki pl : Nat) (td : Option Nat) (htr : TR l) : MT l D E y_AB_next (.code y_AB_next k_AB_next 1 (some .int)) rmT [.ref bb] [(bb, .inr (0, [.ref h, .ref g, .ref li, .ref q, .ref v, .ref w])), (h, .inr (6, [.ref t, .ref u, .int (nI n)])), (t, .inl (E 0, 12, .inl (aN T))), (u, .inl (E 0, 12, .inl (aN U))), (li, .inr (2, [.int (bI false), .int (nI ki), .int (nI pl), .int (oI td)]))] isN := by
  refine MT.of (by decide) (Nat.le_of_ble_eq_true rfl) ?_
  intro p e s m args below meth c A C K hex hlk
  refine g_lv (lv' := [(0, .ref bb)]) rfl ?_
  refine g_aload_n C d_AB_next_0 rfl 0 rfl ?_
  refine g_get C lay_AB 0 rfl rfl 2 (by decide) m_173 rfl d_AB_next_1 ?_
  refine g_iV (rest := []) (wr := [(bb, .inr (0, [.ref h, .ref g, .ref li, .ref q, .ref v, .ref w])), (h, .inr (6, [.ref t, .ref u, .int (nI n)])), (t, .inl (E 0, 12, .inl (aN T))), (u, .inl (E 0, 12, .inl (aN U)))]) C (c_Li_isOpen l D E li false ki pl td) rd_Listing_isOpen m_534 m_535 m_536 rfl rfl (Nat.le_of_ble_eq_true rfl) (Nat.le_of_ble_eq_true rfl) (Nat.le_of_ble_eq_true rfl) (Nat.le_of_ble_eq_true rfl) rfl rfl (Nat.le_of_ble_eq_true rfl) d_AB_next_4 [4] [0, 1, 2, 3] rfl (by decide) rfl (by decide) (by decide) (fun r4 _ (hr4 : r4 = bI false) => ?_)
  subst hr4
  refine g_cells (ws' := [(bb, .inr (0, [.ref h, .ref g, .ref li, .ref q, .ref v, .ref w])), (h, .inr (6, [.ref t, .ref u, .int (nI n)])), (t, .inl (E 0, 12, .inl (aN T))), (u, .inl (E 0, 12, .inl (aN U))), (li, .inr (2, [.int (bI false), .int (nI ki), .int (nI pl), .int (oI td)]))]) [0, 1, 2, 3, 4] (by decide) rfl ?_
  refine g_if_neB (tgt := 20) C d_AB_next_7 (by decide) (fun b0 => absurd b0 (by decide)) (fun b0 => ?_)
  exact g_throw C K htr hex hlk (own_is D E) (by decide +kernel) m_538 m_539 m_50 (List.mem_of_getElem? (i := 1) rfl) d_AB_next_10 d_AB_next_13 d_AB_next_14 d_AB_next_16 d_AB_next_19 (by decide) (by decide) (by decide) (by decide)
set_option maxHeartbeats 4000000 in
set_option maxRecDepth 100000 in
theorem t_labelBad (l : Launch) (D : va_G) (E : Nat → ClassId) (bb h g li q v w t u n : Nat) (T U : Nat → Nat) (op : Bool) (ki pl : Nat) (td : Option Nat) (x : Int32) (hb : inR x n = false) (htr : TR l) : MT l D E y_AB_label (.code y_AB_label k_AB_label 3 (some .int)) rmT [.ref bb, .int x] [(bb, .inr (0, [.ref h, .ref g, .ref li, .ref q, .ref v, .ref w])), (h, .inr (6, [.ref t, .ref u, .int (nI n)])), (t, .inl (E 0, 12, .inl (aN T))), (u, .inl (E 0, 12, .inl (aN U))), (li, .inr (2, [.int (bI op), .int (nI ki), .int (nI pl), .int (oI td)]))] iaN := by
  refine MT.of (by decide) (Nat.le_of_ble_eq_true rfl) ?_
  intro p e s m args below meth c A C K hex hlk
  refine g_lv (lv' := [(0, .ref bb), (1, .int x)]) rfl ?_
  refine g_aload_n C d_AB_label_0 rfl 0 rfl ?_
  refine g_get C lay_AB 0 rfl rfl 0 (by decide) m_171 rfl d_AB_label_1 ?_
  refine g_iload_n C d_AB_label_4 rfl 1 rfl ?_
  refine g_iV (rest := []) (wr := [(bb, .inr (0, [.ref h, .ref g, .ref li, .ref q, .ref v, .ref w])), (li, .inr (2, [.int (bI op), .int (nI ki), .int (nI pl), .int (oI td)]))]) C (c_Web_has l D E h t u n T U x) rd_Web_has m_219 m_220 m_221 rfl rfl (Nat.le_of_ble_eq_true rfl) (Nat.le_of_ble_eq_true rfl) (Nat.le_of_ble_eq_true rfl) (Nat.le_of_ble_eq_true rfl) rfl rfl (Nat.le_of_ble_eq_true rfl) d_AB_label_5 [1, 2, 3] [0, 4] rfl (by decide) rfl (by decide) (by decide) (fun r5 _ (hr5 : r5 = bI (inR x n)) => ?_)
  subst hr5
  refine g_cells (ws' := [(bb, .inr (0, [.ref h, .ref g, .ref li, .ref q, .ref v, .ref w])), (h, .inr (6, [.ref t, .ref u, .int (nI n)])), (t, .inl (E 0, 12, .inl (aN T))), (u, .inl (E 0, 12, .inl (aN U))), (li, .inr (2, [.int (bI op), .int (nI ki), .int (nI pl), .int (oI td)]))]) [0, 2, 3, 4, 1] (by decide) rfl ?_
  refine g_if_neB (tgt := 21) C d_AB_label_8 (by decide) (fun b0 => ?_) (fun b0 => ?_)
  · rw [hb] at b0; cases b0
  · exact g_throw C K htr hex hlk (own_ia D E) (by decide +kernel) m_455 m_456 m_49 (List.mem_of_getElem? (i := 2) rfl) d_AB_label_11 d_AB_label_14 d_AB_label_15 d_AB_label_17 d_AB_label_20 (by decide) (by decide) (by decide) (by decide)
set_option maxHeartbeats 4000000 in
set_option maxRecDepth 100000 in
theorem t_dialogue (l : Launch) (D : va_G) (E : Nat → ClassId) (bb h g li q v w t u n : Nat) (T U : Nat → Nat) (op : Bool) (ki pl : Nat) (td : Option Nat) (x : Int32) (hb : inR x n = false) (htr : TR l) : MT l D E y_AB_dialogue (.code y_AB_dialogue k_AB_dialogue 2 (some .int)) rmT [.ref bb, .int x] [(bb, .inr (0, [.ref h, .ref g, .ref li, .ref q, .ref v, .ref w])), (h, .inr (6, [.ref t, .ref u, .int (nI n)])), (t, .inl (E 0, 12, .inl (aN T))), (u, .inl (E 0, 12, .inl (aN U))), (li, .inr (2, [.int (bI op), .int (nI ki), .int (nI pl), .int (oI td)]))] iaN := by
  refine MT.of (by decide) (Nat.le_of_ble_eq_true rfl) ?_
  intro p e s m args below meth c A C K hex hlk
  refine g_lv (lv' := [(0, .ref bb), (1, .int x)]) rfl ?_
  refine g_aload_n C d_AB_dialogue_0 rfl 0 rfl ?_
  refine g_get C lay_AB 0 rfl rfl 0 (by decide) m_171 rfl d_AB_dialogue_1 ?_
  refine g_iload_n C d_AB_dialogue_4 rfl 1 rfl ?_
  refine g_iV (rest := []) (wr := [(bb, .inr (0, [.ref h, .ref g, .ref li, .ref q, .ref v, .ref w])), (li, .inr (2, [.int (bI op), .int (nI ki), .int (nI pl), .int (oI td)]))]) C (c_Web_has l D E h t u n T U x) rd_Web_has m_219 m_220 m_221 rfl rfl (Nat.le_of_ble_eq_true rfl) (Nat.le_of_ble_eq_true rfl) (Nat.le_of_ble_eq_true rfl) (Nat.le_of_ble_eq_true rfl) rfl rfl (Nat.le_of_ble_eq_true rfl) d_AB_dialogue_5 [1, 2, 3] [0, 4] rfl (by decide) rfl (by decide) (by decide) (fun r5 _ (hr5 : r5 = bI (inR x n)) => ?_)
  subst hr5
  refine g_cells (ws' := [(bb, .inr (0, [.ref h, .ref g, .ref li, .ref q, .ref v, .ref w])), (h, .inr (6, [.ref t, .ref u, .int (nI n)])), (t, .inl (E 0, 12, .inl (aN T))), (u, .inl (E 0, 12, .inl (aN U))), (li, .inr (2, [.int (bI op), .int (nI ki), .int (nI pl), .int (oI td)]))]) [0, 2, 3, 4, 1] (by decide) rfl ?_
  refine g_if_neB (tgt := 21) C d_AB_dialogue_8 (by decide) (fun b0 => ?_) (fun b0 => ?_)
  · rw [hb] at b0; cases b0
  · exact g_throw C K htr hex hlk (own_ia D E) (by decide +kernel) m_455 m_456 m_49 (List.mem_of_getElem? (i := 2) rfl) d_AB_dialogue_11 d_AB_dialogue_14 d_AB_dialogue_15 d_AB_dialogue_17 d_AB_dialogue_20 (by decide) (by decide) (by decide) (by decide)
set_option maxHeartbeats 4000000 in
set_option maxRecDepth 100000 in
theorem t_labelNo (l : Launch) (D : va_G) (E : Nat → ClassId) (bb h g li q v w t u n : Nat) (T U : Nat → Nat) (op : Bool) (ki pl : Nat) (td : Option Nat) (x : Int32) (hb : inR x n = true) (htr : TR l) : MT l D E y_AB_label (.code y_AB_label k_AB_label 3 (some .int)) rmT [.ref bb, .int x] [(bb, .inr (0, [.ref h, .ref g, .ref li, .ref q, .ref v, .ref w])), (h, .inr (6, [.ref t, .ref u, .int (nI n)])), (t, .inl (E 0, 12, .inl (aN T))), (u, .inl (E 0, 12, .inl (aN U))), (li, .inr (2, [.int (bI op), .int (nI ki), .int (nI pl), .int (oI none)]))] isN := by
  refine MT.of (by decide) (Nat.le_of_ble_eq_true rfl) ?_
  intro p e s m args below meth c A C K hex hlk
  refine g_lv (lv' := [(0, .ref bb), (1, .int x)]) rfl ?_
  refine g_aload_n C d_AB_label_0 rfl 0 rfl ?_
  refine g_get C lay_AB 0 rfl rfl 0 (by decide) m_171 rfl d_AB_label_1 ?_
  refine g_iload_n C d_AB_label_4 rfl 1 rfl ?_
  refine g_iV (rest := []) (wr := [(bb, .inr (0, [.ref h, .ref g, .ref li, .ref q, .ref v, .ref w])), (li, .inr (2, [.int (bI op), .int (nI ki), .int (nI pl), .int (oI none)]))]) C (c_Web_has l D E h t u n T U x) rd_Web_has m_219 m_220 m_221 rfl rfl (Nat.le_of_ble_eq_true rfl) (Nat.le_of_ble_eq_true rfl) (Nat.le_of_ble_eq_true rfl) (Nat.le_of_ble_eq_true rfl) rfl rfl (Nat.le_of_ble_eq_true rfl) d_AB_label_5 [1, 2, 3] [0, 4] rfl (by decide) rfl (by decide) (by decide) (fun r5 _ (hr5 : r5 = bI (inR x n)) => ?_)
  subst hr5
  refine g_cells (ws' := [(bb, .inr (0, [.ref h, .ref g, .ref li, .ref q, .ref v, .ref w])), (h, .inr (6, [.ref t, .ref u, .int (nI n)])), (t, .inl (E 0, 12, .inl (aN T))), (u, .inl (E 0, 12, .inl (aN U))), (li, .inr (2, [.int (bI op), .int (nI ki), .int (nI pl), .int (oI none)]))]) [0, 2, 3, 4, 1] (by decide) rfl ?_
  refine g_if_neB (tgt := 21) C d_AB_label_8 (by decide) (fun b0 => ?_) (fun b0 => ?_)
  · refine g_aload_n C d_AB_label_21 rfl 0 rfl ?_
    refine g_get C lay_AB 0 rfl rfl 2 (by decide) m_173 rfl d_AB_label_22 ?_
    refine g_iV (rest := []) (wr := [(bb, .inr (0, [.ref h, .ref g, .ref li, .ref q, .ref v, .ref w])), (h, .inr (6, [.ref t, .ref u, .int (nI n)])), (t, .inl (E 0, 12, .inl (aN T))), (u, .inl (E 0, 12, .inl (aN U)))]) C (c_Li_told l D E li op ki pl none) rd_Listing_told m_572 m_573 m_574 rfl rfl (Nat.le_of_ble_eq_true rfl) (Nat.le_of_ble_eq_true rfl) (Nat.le_of_ble_eq_true rfl) (Nat.le_of_ble_eq_true rfl) rfl rfl (Nat.le_of_ble_eq_true rfl) d_AB_label_25 [4] [0, 1, 2, 3] rfl (by decide) rfl (by decide) (by decide) (fun r25 _ (hr25 : r25 = oI none) => ?_)
    subst hr25
    refine g_cells (ws' := [(bb, .inr (0, [.ref h, .ref g, .ref li, .ref q, .ref v, .ref w])), (h, .inr (6, [.ref t, .ref u, .int (nI n)])), (t, .inl (E 0, 12, .inl (aN T))), (u, .inl (E 0, 12, .inl (aN U))), (li, .inr (2, [.int (bI op), .int (nI ki), .int (nI pl), .int (oI none)]))]) [0, 1, 2, 3, 4] (by decide) rfl ?_
    refine g_istore_n (lv' := [(2, .int (oI none)), (0, .ref bb), (1, .int x)]) C d_AB_label_28 rfl (by decide) rfl ?_
    refine g_iload_n C d_AB_label_29 rfl 0 rfl ?_
    refine g_iconst (v := (-1)) C d_AB_label_30 (by decide) ?_
    refine g_icmp_ne (tgt := 44) C d_AB_label_31 (by decide) (fun b1 => absurd rfl b1) (fun b1 => ?_)
    exact g_throw C K htr hex hlk (own_is D E) (by decide +kernel) m_538 m_539 m_50 (List.mem_of_getElem? (i := 3) rfl) d_AB_label_34 d_AB_label_37 d_AB_label_38 d_AB_label_40 d_AB_label_43 (by decide) (by decide) (by decide) (by decide)
  · rw [hb] at b0; cases b0
set_option maxHeartbeats 4000000 in
set_option maxRecDepth 100000 in
theorem t_holds (l : Launch) (D : va_G) (E : Nat → ClassId) (bb h g li q v w t u n : Nat) (T U : Nat → Nat) (op : Bool) (ki pl : Nat) (td : Option Nat) (x y : Int32) (all : Bool) (hb : (inR x 5 && inR y n) = false) (htr : TR l) : MT l D E y_AB_holds (.code y_AB_holds k_AB_holds 4 (some .boolean)) rmT [.ref bb, .int x, .int y, .int (bI all)] [(bb, .inr (0, [.ref h, .ref g, .ref li, .ref q, .ref v, .ref w])), (h, .inr (6, [.ref t, .ref u, .int (nI n)])), (t, .inl (E 0, 12, .inl (aN T))), (u, .inl (E 0, 12, .inl (aN U))), (li, .inr (2, [.int (bI op), .int (nI ki), .int (nI pl), .int (oI td)]))] iaN := by
  refine MT.of (by decide) (Nat.le_of_ble_eq_true rfl) ?_
  intro p e s m args below meth c A C K hex hlk
  refine g_lv (lv' := [(0, .ref bb), (1, .int x), (2, .int y), (3, .int (bI all))]) rfl ?_
  refine g_iload_n C d_AB_holds_0 rfl 1 rfl ?_
  refine g_iS (rest := []) (wr := [(bb, .inr (0, [.ref h, .ref g, .ref li, .ref q, .ref v, .ref w])), (h, .inr (6, [.ref t, .ref u, .int (nI n)])), (t, .inl (E 0, 12, .inl (aN T))), (u, .inl (E 0, 12, .inl (aN U))), (li, .inr (2, [.int (bI op), .int (nI ki), .int (nI pl), .int (oI td)]))]) C (c_isKind l D E x) rd_AB_isKind m_278 m_279 (Nat.le_of_ble_eq_true rfl) (Nat.le_of_ble_eq_true rfl) (Nat.le_of_ble_eq_true rfl) (Nat.le_of_ble_eq_true rfl) rfl rfl (Nat.le_of_ble_eq_true rfl) d_AB_holds_1 [] [0, 1, 2, 3, 4] rfl (by decide) rfl (by decide) (by decide) (fun r1 _ (hr1 : r1 = bI (inR x 5)) => ?_)
  subst hr1
  refine g_cells (ws' := [(bb, .inr (0, [.ref h, .ref g, .ref li, .ref q, .ref v, .ref w])), (h, .inr (6, [.ref t, .ref u, .int (nI n)])), (t, .inl (E 0, 12, .inl (aN T))), (u, .inl (E 0, 12, .inl (aN U))), (li, .inr (2, [.int (bI op), .int (nI ki), .int (nI pl), .int (oI td)]))]) [0, 1, 2, 3, 4] (by decide) rfl ?_
  refine g_if_eqB (tgt := 18) C d_AB_holds_4 (by decide) (fun b0 => ?_) (fun b0 => ?_)
  · exact g_throw C K htr hex hlk (own_ia D E) (by decide +kernel) m_455 m_456 m_49 (List.mem_of_getElem? (i := 4) rfl) d_AB_holds_18 d_AB_holds_21 d_AB_holds_22 d_AB_holds_24 d_AB_holds_27 (by decide) (by decide) (by decide) (by decide)
  · refine g_aload_n C d_AB_holds_7 rfl 0 rfl ?_
    refine g_get C lay_AB 0 rfl rfl 0 (by decide) m_171 rfl d_AB_holds_8 ?_
    refine g_iload_n C d_AB_holds_11 rfl 2 rfl ?_
    refine g_iV (rest := []) (wr := [(bb, .inr (0, [.ref h, .ref g, .ref li, .ref q, .ref v, .ref w])), (li, .inr (2, [.int (bI op), .int (nI ki), .int (nI pl), .int (oI td)]))]) C (c_Web_has l D E h t u n T U y) rd_Web_has m_219 m_220 m_221 rfl rfl (Nat.le_of_ble_eq_true rfl) (Nat.le_of_ble_eq_true rfl) (Nat.le_of_ble_eq_true rfl) (Nat.le_of_ble_eq_true rfl) rfl rfl (Nat.le_of_ble_eq_true rfl) d_AB_holds_12 [1, 2, 3] [0, 4] rfl (by decide) rfl (by decide) (by decide) (fun r12 _ (hr12 : r12 = bI (inR y n)) => ?_)
    subst hr12
    refine g_cells (ws' := [(bb, .inr (0, [.ref h, .ref g, .ref li, .ref q, .ref v, .ref w])), (h, .inr (6, [.ref t, .ref u, .int (nI n)])), (t, .inl (E 0, 12, .inl (aN T))), (u, .inl (E 0, 12, .inl (aN U))), (li, .inr (2, [.int (bI op), .int (nI ki), .int (nI pl), .int (oI td)]))]) [0, 2, 3, 4, 1] (by decide) rfl ?_
    refine g_if_neB (tgt := 28) C d_AB_holds_15 (by decide) (fun b1 => ?_) (fun b1 => ?_)
    · rw [b0, b1] at hb; cases hb
    · exact g_throw C K htr hex hlk (own_ia D E) (by decide +kernel) m_455 m_456 m_49 (List.mem_of_getElem? (i := 4) rfl) d_AB_holds_18 d_AB_holds_21 d_AB_holds_22 d_AB_holds_24 d_AB_holds_27 (by decide) (by decide) (by decide) (by decide)
theorem T_start (l : Launch) (D : va_G) (E : Nat → ClassId) (c : Nat → Nat) (s : AS) (x : Int32) (hb : inR x 5 = false) (htr : TR l) : MT l D E y_AB_start (.code y_AB_start k_AB_start 2 none) rmT [.ref (c 0), .int x] (aC E c s) iaN := by
  exact MT.lift (t_start l D E (c 0) (c 1) (c 4) (c 8) (c 9) (c 11) (c 15) (c 2) (c 3) s.n s.T s.U s.op s.ki s.pl s.td x hb htr) (by decide) [0, 1, 2, 3, 8] rfl (by decide)
theorem T_count (l : Launch) (D : va_G) (E : Nat → ClassId) (c : Nat → Nat) (s : AS) (x : Int32) (hb : inR x 5 = false) (htr : TR l) : MT l D E y_AB_count (.code y_AB_count k_AB_count 2 (some .int)) rmT [.ref (c 0), .int x] (aC E c s) iaN := by
  exact MT.lift (t_count l D E (c 0) (c 1) (c 4) (c 8) (c 9) (c 11) (c 15) (c 2) (c 3) s.n s.T s.U s.op s.ki s.pl s.td x hb htr) (by decide) [0, 1, 2, 3, 8] rfl (by decide)
theorem T_next (l : Launch) (D : va_G) (E : Nat → ClassId) (c : Nat → Nat) (s : AS) (hfop : s.op = false) (htr : TR l) : MT l D E y_AB_next (.code y_AB_next k_AB_next 1 (some .int)) rmT [.ref (c 0)] (aC E c s) isN := by
  obtain ⟨s_n, s_T, s_U, s_TS, s_M, s_P, s_tc, s_ev, s_kn, s_op, s_ki, s_pl, s_td, s_R, s_al, s_Sa, s_An, s_Sd, s_z, s_tl, s_X, s_Y, s_rz⟩ := s
  replace hfop : s_op = _ := hfop
  subst hfop
  exact MT.lift (t_next l D E (c 0) (c 1) (c 4) (c 8) (c 9) (c 11) (c 15) (c 2) (c 3) s_n s_T s_U false s_ki s_pl s_td   htr) (by decide) [0, 1, 2, 3, 8] rfl (by decide)
theorem T_labelBad (l : Launch) (D : va_G) (E : Nat → ClassId) (c : Nat → Nat) (s : AS) (x : Int32) (hb : inR x s.n = false) (htr : TR l) : MT l D E y_AB_label (.code y_AB_label k_AB_label 3 (some .int)) rmT [.ref (c 0), .int x] (aC E c s) iaN := by
  exact MT.lift (t_labelBad l D E (c 0) (c 1) (c 4) (c 8) (c 9) (c 11) (c 15) (c 2) (c 3) s.n s.T s.U s.op s.ki s.pl s.td x hb htr) (by decide) [0, 1, 2, 3, 8] rfl (by decide)
theorem T_labelNo (l : Launch) (D : va_G) (E : Nat → ClassId) (c : Nat → Nat) (s : AS) (x : Int32) (hftd : s.td = none) (hb : inR x s.n = true) (htr : TR l) : MT l D E y_AB_label (.code y_AB_label k_AB_label 3 (some .int)) rmT [.ref (c 0), .int x] (aC E c s) isN := by
  obtain ⟨s_n, s_T, s_U, s_TS, s_M, s_P, s_tc, s_ev, s_kn, s_op, s_ki, s_pl, s_td, s_R, s_al, s_Sa, s_An, s_Sd, s_z, s_tl, s_X, s_Y, s_rz⟩ := s
  replace hftd : s_td = _ := hftd
  subst hftd
  exact MT.lift (t_labelNo l D E (c 0) (c 1) (c 4) (c 8) (c 9) (c 11) (c 15) (c 2) (c 3) s_n s_T s_U s_op s_ki s_pl none x hb htr) (by decide) [0, 1, 2, 3, 8] rfl (by decide)
theorem T_dialogue (l : Launch) (D : va_G) (E : Nat → ClassId) (c : Nat → Nat) (s : AS) (x : Int32) (hb : inR x s.n = false) (htr : TR l) : MT l D E y_AB_dialogue (.code y_AB_dialogue k_AB_dialogue 2 (some .int)) rmT [.ref (c 0), .int x] (aC E c s) iaN := by
  exact MT.lift (t_dialogue l D E (c 0) (c 1) (c 4) (c 8) (c 9) (c 11) (c 15) (c 2) (c 3) s.n s.T s.U s.op s.ki s.pl s.td x hb htr) (by decide) [0, 1, 2, 3, 8] rfl (by decide)
theorem T_holds (l : Launch) (D : va_G) (E : Nat → ClassId) (c : Nat → Nat) (s : AS) (x y : Int32) (all : Bool) (hb : (inR x 5 && inR y s.n) = false) (htr : TR l) : MT l D E y_AB_holds (.code y_AB_holds k_AB_holds 4 (some .boolean)) rmT [.ref (c 0), .int x, .int y, .int (bI all)] (aC E c s) iaN := by
  exact MT.lift (t_holds l D E (c 0) (c 1) (c 4) (c 8) (c 9) (c 11) (c 15) (c 2) (c 3) s.n s.T s.U s.op s.ki s.pl s.td x y all hb htr) (by decide) [0, 1, 2, 3, 8] rfl (by decide)
