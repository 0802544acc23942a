set_option maxHeartbeats 4000000 in
set_option maxRecDepth 100000 in
theorem a_changed (l : Launch) (D : va_G) (E : Nat → ClassId) (bb : Nat) (h : Nat) (g : Nat) (li : Nat) (q : Nat) (v : Nat) (w : Nat) (op : Bool) (ki : Nat) (pl : Nat) (td : Option Nat) (ga : Nat) (gb : Nat) (gc : Nat) (TS : Nat → Nat) (M : Nat → Nat) (P : Nat → Nat) (tc : Nat) (ev : Nat) (kn : Bool)  : MV l D E y_AB_changed (.code y_AB_changed k_AB_changed 1 none) ({ frames := 1, cells := 0, slots := 0, locals := 20 } : Room) [.ref bb] [(bb, .inr (0, [.ref h, .ref g, .ref li, .ref q, .ref v, .ref w])), (li, .inr (2, [.int (bI op), .int (nI ki), .int (nI pl), .int (oI td)])), (g, .inr (4, [.ref ga, .ref gb, .ref gc, .int (nI tc), .int (nI ev), .int (bI kn)])), (ga, .inl (E 0, 4096, .inl (aN TS))), (gb, .inl (E 0, 4096, .inl (aN M))), (gc, .inl (E 0, 924, .inl (aN P)))] (fun _ : Unit => True) (fun _ : Unit => [(bb, .inr (0, [.ref h, .ref g, .ref li, .ref q, .ref v, .ref w])), (li, .inr (2, [.int (bI false), .int (nI ki), .int (nI pl), .int (oI none)])), (g, .inr (4, [.ref ga, .ref gb, .ref gc, .int (nI tc), .int (nI ev), .int (bI false)])), (ga, .inl (E 0, 4096, .inl (aN TS))), (gb, .inl (E 0, 4096, .inl (aN M))), (gc, .inl (E 0, 924, .inl (aN P)))]) := by
  refine MV.of (by decide) (Nat.le_of_ble_eq_true rfl) ?_
  intro p e s m args below meth c A C hrt hlk hnm
  refine g_lv (lv' := [(0, .ref bb)]) rfl ?_
  refine g_aload_n C d_AB_changed_0 rfl 0 rfl ?_
  refine g_get C lay_AB 0 rfl rfl 2 (by decide) m_173 rfl d_AB_changed_1 ?_
  refine g_vV (rest := []) (wr := [(bb, .inr (0, [.ref h, .ref g, .ref li, .ref q, .ref v, .ref w])), (g, .inr (4, [.ref ga, .ref gb, .ref gc, .int (nI tc), .int (nI ev), .int (bI kn)])), (ga, .inl (E 0, 4096, .inl (aN TS))), (gb, .inl (E 0, 4096, .inl (aN M))), (gc, .inl (E 0, 924, .inl (aN P)))]) C (c_Li_end l D E li op ki pl td ) rd_Listing_end m_207 m_208 m_209 rfl rfl (Nat.le_of_ble_eq_true rfl) (Nat.le_of_ble_eq_true rfl) (Nat.le_of_ble_eq_true rfl) (Nat.le_of_ble_eq_true rfl) rfl rfl (Nat.le_of_ble_eq_true rfl) d_AB_changed_4 [1] [0, 2, 3, 4, 5] rfl (by decide) rfl (by decide) (by decide) (fun _ _ => ?_)
  refine g_cells (ws' := [(bb, .inr (0, [.ref h, .ref g, .ref li, .ref q, .ref v, .ref w])), (li, .inr (2, [.int (bI false), .int (nI ki), .int (nI pl), .int (oI none)])), (g, .inr (4, [.ref ga, .ref gb, .ref gc, .int (nI tc), .int (nI ev), .int (bI kn)])), (ga, .inl (E 0, 4096, .inl (aN TS))), (gb, .inl (E 0, 4096, .inl (aN M))), (gc, .inl (E 0, 924, .inl (aN P)))]) [0, 5, 1, 2, 3, 4] (by decide) rfl ?_
  refine g_aload_n C d_AB_changed_7 rfl 0 rfl ?_
  refine g_get C lay_AB 0 rfl rfl 1 (by decide) m_172 rfl d_AB_changed_8 ?_
  refine g_vV (rest := []) (wr := [(bb, .inr (0, [.ref h, .ref g, .ref li, .ref q, .ref v, .ref w])), (li, .inr (2, [.int (bI false), .int (nI ki), .int (nI pl), .int (oI none)]))]) C (c_Se_forget l D E g ga gb gc TS M P tc ev kn ) rd_Senses_forget m_211 m_212 m_213 rfl rfl (Nat.le_of_ble_eq_true rfl) (Nat.le_of_ble_eq_true rfl) (Nat.le_of_ble_eq_true rfl) (Nat.le_of_ble_eq_true rfl) rfl rfl (Nat.le_of_ble_eq_true rfl) d_AB_changed_11 [2, 3, 4, 5] [0, 1] rfl (by decide) rfl (by decide) (by decide) (fun _ _ => ?_)
  refine g_cells (ws' := [(bb, .inr (0, [.ref h, .ref g, .ref li, .ref q, .ref v, .ref w])), (li, .inr (2, [.int (bI false), .int (nI ki), .int (nI pl), .int (oI none)])), (g, .inr (4, [.ref ga, .ref gb, .ref gc, .int (nI tc), .int (nI ev), .int (bI false)])), (ga, .inl (E 0, 4096, .inl (aN TS))), (gb, .inl (E 0, 4096, .inl (aN M))), (gc, .inl (E 0, 924, .inl (aN P)))]) [0, 1, 2, 3, 4, 5] (by decide) rfl ?_
  exact g_vret C hrt hlk () (trivial) rfl d_AB_changed_14

set_option maxHeartbeats 4000000 in
set_option maxRecDepth 100000 in
theorem a_claim (l : Launch) (D : va_G) (E : Nat → ClassId) (bb : Nat) (h : Nat) (g : Nat) (li : Nat) (q : Nat) (v : Nat) (w : Nat) (t : Nat) (u : Nat) (n : Nat) (T : Nat → Nat) (U : Nat → Nat) (op : Bool) (ki : Nat) (pl : Nat) (td : Option Nat) (ga : Nat) (gb : Nat) (gc : Nat) (TS : Nat → Nat) (M : Nat → Nat) (P : Nat → Nat) (tc : Nat) (ev : Nat) (kn : Bool) (hn : n < 12) : MI l D E y_AB_claim (.code y_AB_claim k_AB_claim 2 (some .int)) ({ frames := 2, cells := 0, slots := 0, locals := 41 } : Room) [.ref bb] [(bb, .inr (0, [.ref h, .ref g, .ref li, .ref q, .ref v, .ref w])), (h, .inr (6, [.ref t, .ref u, .int (nI n)])), (t, .inl (E 0, 12, .inl (aN T))), (u, .inl (E 0, 12, .inl (aN U))), (li, .inr (2, [.int (bI op), .int (nI ki), .int (nI pl), .int (oI td)])), (g, .inr (4, [.ref ga, .ref gb, .ref gc, .int (nI tc), .int (nI ev), .int (bI kn)])), (ga, .inl (E 0, 4096, .inl (aN TS))), (gb, .inl (E 0, 4096, .inl (aN M))), (gc, .inl (E 0, 924, .inl (aN P)))] (fun (r : Int32) (_ : Unit) => r = nI n) (fun _ : Unit => [(bb, .inr (0, [.ref h, .ref g, .ref li, .ref q, .ref v, .ref w])), (h, .inr (6, [.ref t, .ref u, .int (nI (n + 1))])), (t, .inl (E 0, 12, .inl (aN T))), (u, .inl (E 0, 12, .inl (aN U))), (li, .inr (2, [.int (bI false), .int (nI ki), .int (nI pl), .int (oI none)])), (g, .inr (4, [.ref ga, .ref gb, .ref gc, .int (nI tc), .int (nI ev), .int (bI false)])), (ga, .inl (E 0, 4096, .inl (aN TS))), (gb, .inl (E 0, 4096, .inl (aN M))), (gc, .inl (E 0, 924, .inl (aN P)))]) := by
  refine MI.of (by decide) (Nat.le_of_ble_eq_true rfl) ?_
  intro p e s m args below meth c A C hrt hlk hnm
  refine g_lv (lv' := [(0, .ref bb)]) rfl ?_
  refine g_aload_n C d_AB_claim_0 rfl 0 rfl ?_
  refine g_get C lay_AB 0 rfl rfl 0 (by decide) m_171 rfl d_AB_claim_1 ?_
  refine g_iconst (v := nI 1) C d_AB_claim_4 (by decide) ?_
  refine g_iV (rest := []) (wr := [(bb, .inr (0, [.ref h, .ref g, .ref li, .ref q, .ref v, .ref w])), (li, .inr (2, [.int (bI op), .int (nI ki), .int (nI pl), .int (oI td)])), (g, .inr (4, [.ref ga, .ref gb, .ref gc, .int (nI tc), .int (nI ev), .int (bI kn)])), (ga, .inl (E 0, 4096, .inl (aN TS))), (gb, .inl (E 0, 4096, .inl (aN M))), (gc, .inl (E 0, 924, .inl (aN P)))]) C (c_Web_hasRoomFor l D E h t u n T U 1 (by omega) (by omega)) rd_Web_hasRoomFor m_194 m_195 m_196 rfl rfl (Nat.le_of_ble_eq_true rfl) (Nat.le_of_ble_eq_true rfl) (Nat.le_of_ble_eq_true rfl) (Nat.le_of_ble_eq_true rfl) rfl rfl (Nat.le_of_ble_eq_true rfl) d_AB_claim_5 [1, 2, 3] [0, 4, 5, 6, 7, 8] rfl (by decide) rfl (by decide) (by decide) (fun r5 _ (hr5 : r5 = bI (decide (n + 1 ≤ 12))) => ?_)
  subst hr5
  refine g_cells (ws' := [(bb, .inr (0, [.ref h, .ref g, .ref li, .ref q, .ref v, .ref w])), (h, .inr (6, [.ref t, .ref u, .int (nI n)])), (t, .inl (E 0, 12, .inl (aN T))), (u, .inl (E 0, 12, .inl (aN U))), (li, .inr (2, [.int (bI op), .int (nI ki), .int (nI pl), .int (oI td)])), (g, .inr (4, [.ref ga, .ref gb, .ref gc, .int (nI tc), .int (nI ev), .int (bI kn)])), (ga, .inl (E 0, 4096, .inl (aN TS))), (gb, .inl (E 0, 4096, .inl (aN M))), (gc, .inl (E 0, 924, .inl (aN P)))]) [0, 6, 7, 8, 1, 2, 3, 4, 5] (by decide) rfl ?_
  refine g_if_neB (tgt := 13) C d_AB_claim_8 (by decide) (fun b0 => ?_) (fun b0 => ?_)
  · skip
    refine g_aload_n C d_AB_claim_13 rfl 0 rfl ?_
    refine g_get C lay_AB 0 rfl rfl 0 (by decide) m_171 rfl d_AB_claim_14 ?_
    refine g_iV (rest := []) (wr := [(bb, .inr (0, [.ref h, .ref g, .ref li, .ref q, .ref v, .ref w])), (li, .inr (2, [.int (bI op), .int (nI ki), .int (nI pl), .int (oI td)])), (g, .inr (4, [.ref ga, .ref gb, .ref gc, .int (nI tc), .int (nI ev), .int (bI kn)])), (ga, .inl (E 0, 4096, .inl (aN TS))), (gb, .inl (E 0, 4096, .inl (aN M))), (gc, .inl (E 0, 924, .inl (aN P)))]) C (c_Web_add l D E h t u n T U (by omega)) rd_Web_add m_198 m_199 m_200 rfl rfl (Nat.le_of_ble_eq_true rfl) (Nat.le_of_ble_eq_true rfl) (Nat.le_of_ble_eq_true rfl) (Nat.le_of_ble_eq_true rfl) rfl rfl (Nat.le_of_ble_eq_true rfl) d_AB_claim_17 [1, 2, 3] [0, 4, 5, 6, 7, 8] rfl (by decide) rfl (by decide) (by decide) (fun r17 _ (hr17 : r17 = nI n) => ?_)
    subst hr17
    refine g_cells (ws' := [(bb, .inr (0, [.ref h, .ref g, .ref li, .ref q, .ref v, .ref w])), (h, .inr (6, [.ref t, .ref u, .int (nI (n + 1))])), (t, .inl (E 0, 12, .inl (aN T))), (u, .inl (E 0, 12, .inl (aN U))), (li, .inr (2, [.int (bI op), .int (nI ki), .int (nI pl), .int (oI td)])), (g, .inr (4, [.ref ga, .ref gb, .ref gc, .int (nI tc), .int (nI ev), .int (bI kn)])), (ga, .inl (E 0, 4096, .inl (aN TS))), (gb, .inl (E 0, 4096, .inl (aN M))), (gc, .inl (E 0, 924, .inl (aN P)))]) [0, 6, 7, 8, 1, 2, 3, 4, 5] (by decide) rfl ?_
    refine g_istore_n (lv' := [(1, .int (nI n)), (0, .ref bb)]) C d_AB_claim_20 rfl (by decide) rfl ?_
    refine g_aload_n C d_AB_claim_21 rfl 1 rfl ?_
    refine g_vV (rest := []) (wr := [(h, .inr (6, [.ref t, .ref u, .int (nI (n + 1))])), (t, .inl (E 0, 12, .inl (aN T))), (u, .inl (E 0, 12, .inl (aN U)))]) C (a_changed l D E bb h g li q v w op ki pl td ga gb gc TS M P tc ev kn ) rd_AB_changed m_203 m_205 m_0 rfl rfl (Nat.le_of_ble_eq_true rfl) (Nat.le_of_ble_eq_true rfl) (Nat.le_of_ble_eq_true rfl) (Nat.le_of_ble_eq_true rfl) rfl rfl (Nat.le_of_ble_eq_true rfl) d_AB_claim_22 [0, 4, 5, 6, 7, 8] [1, 2, 3] rfl (by decide) rfl (by decide) (by decide) (fun _ _ => ?_)
    refine g_cells (ws' := [(bb, .inr (0, [.ref h, .ref g, .ref li, .ref q, .ref v, .ref w])), (h, .inr (6, [.ref t, .ref u, .int (nI (n + 1))])), (t, .inl (E 0, 12, .inl (aN T))), (u, .inl (E 0, 12, .inl (aN U))), (li, .inr (2, [.int (bI false), .int (nI ki), .int (nI pl), .int (oI none)])), (g, .inr (4, [.ref ga, .ref gb, .ref gc, .int (nI tc), .int (nI ev), .int (bI false)])), (ga, .inl (E 0, 4096, .inl (aN TS))), (gb, .inl (E 0, 4096, .inl (aN M))), (gc, .inl (E 0, 924, .inl (aN P)))]) [3, 0, 1, 2, 4, 5, 6, 7, 8] (by decide) rfl ?_
    refine g_iload_n C d_AB_claim_25 rfl 0 rfl ?_
    exact g_iret C hrt hlk () (rfl) rfl d_AB_claim_26
  · skip
    simp at b0; omega

set_option maxHeartbeats 4000000 in
set_option maxRecDepth 100000 in
theorem a_claimFull (l : Launch) (D : va_G) (E : Nat → ClassId) (bb : Nat) (h : Nat) (g : Nat) (li : Nat) (q : Nat) (v : Nat) (w : Nat) (t : Nat) (u : Nat) (n : Nat) (T : Nat → Nat) (U : Nat → Nat) (op : Bool) (ki : Nat) (pl : Nat) (td : Option Nat) (ga : Nat) (gb : Nat) (gc : Nat) (TS : Nat → Nat) (M : Nat → Nat) (P : Nat → Nat) (tc : Nat) (ev : Nat) (kn : Bool) (hn : n = 12) : MI l D E y_AB_claim (.code y_AB_claim k_AB_claim 2 (some .int)) ({ frames := 1, cells := 0, slots := 0, locals := 21 } : Room) [.ref bb] [(bb, .inr (0, [.ref h, .ref g, .ref li, .ref q, .ref v, .ref w])), (h, .inr (6, [.ref t, .ref u, .int (nI n)])), (t, .inl (E 0, 12, .inl (aN T))), (u, .inl (E 0, 12, .inl (aN U))), (li, .inr (2, [.int (bI op), .int (nI ki), .int (nI pl), .int (oI td)])), (g, .inr (4, [.ref ga, .ref gb, .ref gc, .int (nI tc), .int (nI ev), .int (bI kn)])), (ga, .inl (E 0, 4096, .inl (aN TS))), (gb, .inl (E 0, 4096, .inl (aN M))), (gc, .inl (E 0, 924, .inl (aN P)))] (fun (r : Int32) (_ : Unit) => r = (-1)) (fun _ : Unit => [(bb, .inr (0, [.ref h, .ref g, .ref li, .ref q, .ref v, .ref w])), (h, .inr (6, [.ref t, .ref u, .int (nI n)])), (t, .inl (E 0, 12, .inl (aN T))), (u, .inl (E 0, 12, .inl (aN U))), (li, .inr (2, [.int (bI op), .int (nI ki), .int (nI pl), .int (oI td)])), (g, .inr (4, [.ref ga, .ref gb, .ref gc, .int (nI tc), .int (nI ev), .int (bI kn)])), (ga, .inl (E 0, 4096, .inl (aN TS))), (gb, .inl (E 0, 4096, .inl (aN M))), (gc, .inl (E 0, 924, .inl (aN P)))]) := by
  refine MI.of (by decide) (Nat.le_of_ble_eq_true rfl) ?_
  intro p e s m args below meth c A C hrt hlk hnm
  refine g_lv (lv' := [(0, .ref bb)]) rfl ?_
  refine g_aload_n C d_AB_claim_0 rfl 0 rfl ?_
  refine g_get C lay_AB 0 rfl rfl 0 (by decide) m_171 rfl d_AB_claim_1 ?_
  refine g_iconst (v := nI 1) C d_AB_claim_4 (by decide) ?_
  refine g_iV (rest := []) (wr := [(bb, .inr (0, [.ref h, .ref g, .ref li, .ref q, .ref v, .ref w])), (li, .inr (2, [.int (bI op), .int (nI ki), .int (nI pl), .int (oI td)])), (g, .inr (4, [.ref ga, .ref gb, .ref gc, .int (nI tc), .int (nI ev), .int (bI kn)])), (ga, .inl (E 0, 4096, .inl (aN TS))), (gb, .inl (E 0, 4096, .inl (aN M))), (gc, .inl (E 0, 924, .inl (aN P)))]) C (c_Web_hasRoomFor l D E h t u n T U 1 (by omega) (by omega)) rd_Web_hasRoomFor m_194 m_195 m_196 rfl rfl (Nat.le_of_ble_eq_true rfl) (Nat.le_of_ble_eq_true rfl) (Nat.le_of_ble_eq_true rfl) (Nat.le_of_ble_eq_true rfl) rfl rfl (Nat.le_of_ble_eq_true rfl) d_AB_claim_5 [1, 2, 3] [0, 4, 5, 6, 7, 8] rfl (by decide) rfl (by decide) (by decide) (fun r5 _ (hr5 : r5 = bI (decide (n + 1 ≤ 12))) => ?_)
  subst hr5
  refine g_cells (ws' := [(bb, .inr (0, [.ref h, .ref g, .ref li, .ref q, .ref v, .ref w])), (h, .inr (6, [.ref t, .ref u, .int (nI n)])), (t, .inl (E 0, 12, .inl (aN T))), (u, .inl (E 0, 12, .inl (aN U))), (li, .inr (2, [.int (bI op), .int (nI ki), .int (nI pl), .int (oI td)])), (g, .inr (4, [.ref ga, .ref gb, .ref gc, .int (nI tc), .int (nI ev), .int (bI kn)])), (ga, .inl (E 0, 4096, .inl (aN TS))), (gb, .inl (E 0, 4096, .inl (aN M))), (gc, .inl (E 0, 924, .inl (aN P)))]) [0, 6, 7, 8, 1, 2, 3, 4, 5] (by decide) rfl ?_
  refine g_if_neB (tgt := 13) C d_AB_claim_8 (by decide) (fun b0 => ?_) (fun b0 => ?_)
  · skip
    simp at b0; omega
  · skip
    refine g_iconst (v := (-1)) C d_AB_claim_11 (by decide) ?_
    exact g_iret C hrt hlk () (rfl) rfl d_AB_claim_12

set_option maxHeartbeats 4000000 in
set_option maxRecDepth 100000 in
theorem a_attackSame (l : Launch) (D : va_G) (E : Nat → ClassId) (bb : Nat) (h : Nat) (g : Nat) (li : Nat) (q : Nat) (v : Nat) (w : Nat) (t : Nat) (u : Nat) (n : Nat) (T : Nat → Nat) (U : Nat → Nat) (op : Bool) (ki : Nat) (pl : Nat) (td : Option Nat) (ga : Nat) (gb : Nat) (gc : Nat) (TS : Nat → Nat) (M : Nat → Nat) (P : Nat → Nat) (tc : Nat) (ev : Nat) (kn : Bool) (i : Nat) (j : Nat) (on : Bool) (hn : n ≤ 12) (hT : ∀ a, T a < 4096) (hi : i < n) (hj : j < n) (hs : (T i).testBit j = on) : MI l D E y_AB_attack (.code y_AB_attack k_AB_attack 4 (some .boolean)) ({ frames := 2, cells := 0, slots := 0, locals := 43 } : Room) [.ref bb, .int (nI i), .int (nI j), .int (bI on)] [(bb, .inr (0, [.ref h, .ref g, .ref li, .ref q, .ref v, .ref w])), (h, .inr (6, [.ref t, .ref u, .int (nI n)])), (t, .inl (E 0, 12, .inl (aN T))), (u, .inl (E 0, 12, .inl (aN U))), (li, .inr (2, [.int (bI op), .int (nI ki), .int (nI pl), .int (oI td)])), (g, .inr (4, [.ref ga, .ref gb, .ref gc, .int (nI tc), .int (nI ev), .int (bI kn)])), (ga, .inl (E 0, 4096, .inl (aN TS))), (gb, .inl (E 0, 4096, .inl (aN M))), (gc, .inl (E 0, 924, .inl (aN P)))] (fun (r : Int32) (_ : Unit) => r = bI true) (fun _ : Unit => [(bb, .inr (0, [.ref h, .ref g, .ref li, .ref q, .ref v, .ref w])), (h, .inr (6, [.ref t, .ref u, .int (nI n)])), (t, .inl (E 0, 12, .inl (aN T))), (u, .inl (E 0, 12, .inl (aN U))), (li, .inr (2, [.int (bI op), .int (nI ki), .int (nI pl), .int (oI td)])), (g, .inr (4, [.ref ga, .ref gb, .ref gc, .int (nI tc), .int (nI ev), .int (bI kn)])), (ga, .inl (E 0, 4096, .inl (aN TS))), (gb, .inl (E 0, 4096, .inl (aN M))), (gc, .inl (E 0, 924, .inl (aN P)))]) := by
  refine MI.of (by decide) (Nat.le_of_ble_eq_true rfl) ?_
  intro p e s m args below meth c A C hrt hlk hnm
  refine g_lv (lv' := [(0, .ref bb), (1, .int (nI i)), (2, .int (nI j)), (3, .int (bI on))]) rfl ?_
  refine g_aload_n C d_AB_attack_0 rfl 0 rfl ?_
  refine g_get C lay_AB 0 rfl rfl 0 (by decide) m_171 rfl d_AB_attack_1 ?_
  refine g_iload_n C d_AB_attack_4 rfl 1 rfl ?_
  refine g_iV (rest := []) (wr := [(bb, .inr (0, [.ref h, .ref g, .ref li, .ref q, .ref v, .ref w])), (li, .inr (2, [.int (bI op), .int (nI ki), .int (nI pl), .int (oI td)])), (g, .inr (4, [.ref ga, .ref gb, .ref gc, .int (nI tc), .int (nI ev), .int (bI kn)])), (ga, .inl (E 0, 4096, .inl (aN TS))), (gb, .inl (E 0, 4096, .inl (aN M))), (gc, .inl (E 0, 924, .inl (aN P)))]) C (c_Web_has l D E h t u n T U (nI i) ) rd_Web_has m_219 m_220 m_221 rfl rfl (Nat.le_of_ble_eq_true rfl) (Nat.le_of_ble_eq_true rfl) (Nat.le_of_ble_eq_true rfl) (Nat.le_of_ble_eq_true rfl) rfl rfl (Nat.le_of_ble_eq_true rfl) d_AB_attack_5 [1, 2, 3] [0, 4, 5, 6, 7, 8] rfl (by decide) rfl (by decide) (by decide) (fun r5 _ (hr5 : r5 = bI (inR (nI i) n)) => ?_)
  subst hr5
  refine g_cells (ws' := [(bb, .inr (0, [.ref h, .ref g, .ref li, .ref q, .ref v, .ref w])), (h, .inr (6, [.ref t, .ref u, .int (nI n)])), (t, .inl (E 0, 12, .inl (aN T))), (u, .inl (E 0, 12, .inl (aN U))), (li, .inr (2, [.int (bI op), .int (nI ki), .int (nI pl), .int (oI td)])), (g, .inr (4, [.ref ga, .ref gb, .ref gc, .int (nI tc), .int (nI ev), .int (bI kn)])), (ga, .inl (E 0, 4096, .inl (aN TS))), (gb, .inl (E 0, 4096, .inl (aN M))), (gc, .inl (E 0, 924, .inl (aN P)))]) [0, 6, 7, 8, 1, 2, 3, 4, 5] (by decide) rfl ?_
  refine g_if_eqB (tgt := 22) C d_AB_attack_8 (by decide) (fun b0 => ?_) (fun b0 => ?_)
  · skip
    rw [inR_nI (by omega) (by omega)] at b0; simp at b0; omega
  · skip
    refine g_aload_n C d_AB_attack_11 rfl 0 rfl ?_
    refine g_get C lay_AB 0 rfl rfl 0 (by decide) m_171 rfl d_AB_attack_12 ?_
    refine g_iload_n C d_AB_attack_15 rfl 2 rfl ?_
    refine g_iV (rest := []) (wr := [(bb, .inr (0, [.ref h, .ref g, .ref li, .ref q, .ref v, .ref w])), (li, .inr (2, [.int (bI op), .int (nI ki), .int (nI pl), .int (oI td)])), (g, .inr (4, [.ref ga, .ref gb, .ref gc, .int (nI tc), .int (nI ev), .int (bI kn)])), (ga, .inl (E 0, 4096, .inl (aN TS))), (gb, .inl (E 0, 4096, .inl (aN M))), (gc, .inl (E 0, 924, .inl (aN P)))]) C (c_Web_has l D E h t u n T U (nI j) ) rd_Web_has m_219 m_220 m_221 rfl rfl (Nat.le_of_ble_eq_true rfl) (Nat.le_of_ble_eq_true rfl) (Nat.le_of_ble_eq_true rfl) (Nat.le_of_ble_eq_true rfl) rfl rfl (Nat.le_of_ble_eq_true rfl) d_AB_attack_16 [1, 2, 3] [0, 4, 5, 6, 7, 8] rfl (by decide) rfl (by decide) (by decide) (fun r16 _ (hr16 : r16 = bI (inR (nI j) n)) => ?_)
    subst hr16
    refine g_cells (ws' := [(bb, .inr (0, [.ref h, .ref g, .ref li, .ref q, .ref v, .ref w])), (h, .inr (6, [.ref t, .ref u, .int (nI n)])), (t, .inl (E 0, 12, .inl (aN T))), (u, .inl (E 0, 12, .inl (aN U))), (li, .inr (2, [.int (bI op), .int (nI ki), .int (nI pl), .int (oI td)])), (g, .inr (4, [.ref ga, .ref gb, .ref gc, .int (nI tc), .int (nI ev), .int (bI kn)])), (ga, .inl (E 0, 4096, .inl (aN TS))), (gb, .inl (E 0, 4096, .inl (aN M))), (gc, .inl (E 0, 924, .inl (aN P)))]) [0, 6, 7, 8, 1, 2, 3, 4, 5] (by decide) rfl ?_
    refine g_if_neB (tgt := 24) C d_AB_attack_19 (by decide) (fun b1 => ?_) (fun b1 => ?_)
    · skip
      refine g_aload_n C d_AB_attack_24 rfl 0 rfl ?_
      refine g_get C lay_AB 0 rfl rfl 0 (by decide) m_171 rfl d_AB_attack_25 ?_
      refine g_iload_n C d_AB_attack_28 rfl 1 rfl ?_
      refine g_iload_n C d_AB_attack_29 rfl 2 rfl ?_
      refine g_iV (rest := []) (wr := [(bb, .inr (0, [.ref h, .ref g, .ref li, .ref q, .ref v, .ref w])), (li, .inr (2, [.int (bI op), .int (nI ki), .int (nI pl), .int (oI td)])), (g, .inr (4, [.ref ga, .ref gb, .ref gc, .int (nI tc), .int (nI ev), .int (bI kn)])), (ga, .inl (E 0, 4096, .inl (aN TS))), (gb, .inl (E 0, 4096, .inl (aN M))), (gc, .inl (E 0, 924, .inl (aN P)))]) C (c_Web_leads l D E h t u n T U (nI i) (nI j) hn hT) rd_Web_leads m_223 m_224 m_225 rfl rfl (Nat.le_of_ble_eq_true rfl) (Nat.le_of_ble_eq_true rfl) (Nat.le_of_ble_eq_true rfl) (Nat.le_of_ble_eq_true rfl) rfl rfl (Nat.le_of_ble_eq_true rfl) d_AB_attack_30 [1, 2, 3] [0, 4, 5, 6, 7, 8] rfl (by decide) rfl (by decide) (by decide) (fun r30 _ (hr30 : r30 = bI (inR (nI i) n && inR (nI j) n && (T (nI i).toNatClampNeg).testBit (nI j).toNatClampNeg)) => ?_)
      subst hr30
      refine g_cells (ws' := [(bb, .inr (0, [.ref h, .ref g, .ref li, .ref q, .ref v, .ref w])), (h, .inr (6, [.ref t, .ref u, .int (nI n)])), (t, .inl (E 0, 12, .inl (aN T))), (u, .inl (E 0, 12, .inl (aN U))), (li, .inr (2, [.int (bI op), .int (nI ki), .int (nI pl), .int (oI td)])), (g, .inr (4, [.ref ga, .ref gb, .ref gc, .int (nI tc), .int (nI ev), .int (bI kn)])), (ga, .inl (E 0, 4096, .inl (aN TS))), (gb, .inl (E 0, 4096, .inl (aN M))), (gc, .inl (E 0, 924, .inl (aN P)))]) [0, 6, 7, 8, 1, 2, 3, 4, 5] (by decide) rfl ?_
      refine g_top (show bI (inR (nI i) n && inR (nI j) n && (T (nI i).toNatClampNeg).testBit (nI j).toNatClampNeg) = bI ((T i).testBit j) from congrArg bI (leads_nat hn hi hj)) ?_
      refine g_iload_n C d_AB_attack_33 rfl 3 rfl ?_
      refine g_icmp_eqB (tgt := 51) C d_AB_attack_34 (by decide) (fun b2 => ?_) (fun b2 => ?_)
      · skip
        refine g_iconst (v := nI 1) C d_AB_attack_51 (by decide) ?_
        refine g_top (show nI 1 = bI true from rfl) ?_
        exact g_zret C hrt hlk () (rfl) rfl d_AB_attack_52
      · skip
        exact absurd hs b2
    · skip
      rw [inR_nI (by omega) (by omega)] at b1; simp at b1; omega

set_option maxHeartbeats 4000000 in
set_option maxRecDepth 100000 in
theorem a_attack (l : Launch) (D : va_G) (E : Nat → ClassId) (bb : Nat) (h : Nat) (g : Nat) (li : Nat) (q : Nat) (v : Nat) (w : Nat) (t : Nat) (u : Nat) (n : Nat) (T : Nat → Nat) (U : Nat → Nat) (op : Bool) (ki : Nat) (pl : Nat) (td : Option Nat) (ga : Nat) (gb : Nat) (gc : Nat) (TS : Nat → Nat) (M : Nat → Nat) (P : Nat → Nat) (tc : Nat) (ev : Nat) (kn : Bool) (i : Nat) (j : Nat) (on : Bool) (hn : n ≤ 12) (hT : ∀ a, T a < 4096) (hU : ∀ a, U a < 4096) (hi : i < n) (hj : j < n) (hs : (T i).testBit j ≠ on) : MI l D E y_AB_attack (.code y_AB_attack k_AB_attack 4 (some .boolean)) ({ frames := 2, cells := 0, slots := 0, locals := 44 } : Room) [.ref bb, .int (nI i), .int (nI j), .int (bI on)] [(bb, .inr (0, [.ref h, .ref g, .ref li, .ref q, .ref v, .ref w])), (h, .inr (6, [.ref t, .ref u, .int (nI n)])), (t, .inl (E 0, 12, .inl (aN T))), (u, .inl (E 0, 12, .inl (aN U))), (li, .inr (2, [.int (bI op), .int (nI ki), .int (nI pl), .int (oI td)])), (g, .inr (4, [.ref ga, .ref gb, .ref gc, .int (nI tc), .int (nI ev), .int (bI kn)])), (ga, .inl (E 0, 4096, .inl (aN TS))), (gb, .inl (E 0, 4096, .inl (aN M))), (gc, .inl (E 0, 924, .inl (aN P)))] (fun (r : Int32) (_ : Unit) => r = bI true) (fun _ : Unit => [(bb, .inr (0, [.ref h, .ref g, .ref li, .ref q, .ref v, .ref w])), (h, .inr (6, [.ref t, .ref u, .int (nI n)])), (t, .inl (E 0, 12, .inl (aN (putT on T i j)))), (u, .inl (E 0, 12, .inl (aN (putT on U j i)))), (li, .inr (2, [.int (bI false), .int (nI ki), .int (nI pl), .int (oI none)])), (g, .inr (4, [.ref ga, .ref gb, .ref gc, .int (nI tc), .int (nI ev), .int (bI false)])), (ga, .inl (E 0, 4096, .inl (aN TS))), (gb, .inl (E 0, 4096, .inl (aN M))), (gc, .inl (E 0, 924, .inl (aN P)))]) := by
  refine MI.of (by decide) (Nat.le_of_ble_eq_true rfl) ?_
  intro p e s m args below meth c A C hrt hlk hnm
  refine g_lv (lv' := [(0, .ref bb), (1, .int (nI i)), (2, .int (nI j)), (3, .int (bI on))]) rfl ?_
  refine g_aload_n C d_AB_attack_0 rfl 0 rfl ?_
  refine g_get C lay_AB 0 rfl rfl 0 (by decide) m_171 rfl d_AB_attack_1 ?_
  refine g_iload_n C d_AB_attack_4 rfl 1 rfl ?_
  refine g_iV (rest := []) (wr := [(bb, .inr (0, [.ref h, .ref g, .ref li, .ref q, .ref v, .ref w])), (li, .inr (2, [.int (bI op), .int (nI ki), .int (nI pl), .int (oI td)])), (g, .inr (4, [.ref ga, .ref gb, .ref gc, .int (nI tc), .int (nI ev), .int (bI kn)])), (ga, .inl (E 0, 4096, .inl (aN TS))), (gb, .inl (E 0, 4096, .inl (aN M))), (gc, .inl (E 0, 924, .inl (aN P)))]) C (c_Web_has l D E h t u n T U (nI i) ) rd_Web_has m_219 m_220 m_221 rfl rfl (Nat.le_of_ble_eq_true rfl) (Nat.le_of_ble_eq_true rfl) (Nat.le_of_ble_eq_true rfl) (Nat.le_of_ble_eq_true rfl) rfl rfl (Nat.le_of_ble_eq_true rfl) d_AB_attack_5 [1, 2, 3] [0, 4, 5, 6, 7, 8] rfl (by decide) rfl (by decide) (by decide) (fun r5 _ (hr5 : r5 = bI (inR (nI i) n)) => ?_)
  subst hr5
  refine g_cells (ws' := [(bb, .inr (0, [.ref h, .ref g, .ref li, .ref q, .ref v, .ref w])), (h, .inr (6, [.ref t, .ref u, .int (nI n)])), (t, .inl (E 0, 12, .inl (aN T))), (u, .inl (E 0, 12, .inl (aN U))), (li, .inr (2, [.int (bI op), .int (nI ki), .int (nI pl), .int (oI td)])), (g, .inr (4, [.ref ga, .ref gb, .ref gc, .int (nI tc), .int (nI ev), .int (bI kn)])), (ga, .inl (E 0, 4096, .inl (aN TS))), (gb, .inl (E 0, 4096, .inl (aN M))), (gc, .inl (E 0, 924, .inl (aN P)))]) [0, 6, 7, 8, 1, 2, 3, 4, 5] (by decide) rfl ?_
  refine g_if_eqB (tgt := 22) C d_AB_attack_8 (by decide) (fun b0 => ?_) (fun b0 => ?_)
  · skip
    rw [inR_nI (by omega) (by omega)] at b0; simp at b0; omega
  · skip
    refine g_aload_n C d_AB_attack_11 rfl 0 rfl ?_
    refine g_get C lay_AB 0 rfl rfl 0 (by decide) m_171 rfl d_AB_attack_12 ?_
    refine g_iload_n C d_AB_attack_15 rfl 2 rfl ?_
    refine g_iV (rest := []) (wr := [(bb, .inr (0, [.ref h, .ref g, .ref li, .ref q, .ref v, .ref w])), (li, .inr (2, [.int (bI op), .int (nI ki), .int (nI pl), .int (oI td)])), (g, .inr (4, [.ref ga, .ref gb, .ref gc, .int (nI tc), .int (nI ev), .int (bI kn)])), (ga, .inl (E 0, 4096, .inl (aN TS))), (gb, .inl (E 0, 4096, .inl (aN M))), (gc, .inl (E 0, 924, .inl (aN P)))]) C (c_Web_has l D E h t u n T U (nI j) ) rd_Web_has m_219 m_220 m_221 rfl rfl (Nat.le_of_ble_eq_true rfl) (Nat.le_of_ble_eq_true rfl) (Nat.le_of_ble_eq_true rfl) (Nat.le_of_ble_eq_true rfl) rfl rfl (Nat.le_of_ble_eq_true rfl) d_AB_attack_16 [1, 2, 3] [0, 4, 5, 6, 7, 8] rfl (by decide) rfl (by decide) (by decide) (fun r16 _ (hr16 : r16 = bI (inR (nI j) n)) => ?_)
    subst hr16
    refine g_cells (ws' := [(bb, .inr (0, [.ref h, .ref g, .ref li, .ref q, .ref v, .ref w])), (h, .inr (6, [.ref t, .ref u, .int (nI n)])), (t, .inl (E 0, 12, .inl (aN T))), (u, .inl (E 0, 12, .inl (aN U))), (li, .inr (2, [.int (bI op), .int (nI ki), .int (nI pl), .int (oI td)])), (g, .inr (4, [.ref ga, .ref gb, .ref gc, .int (nI tc), .int (nI ev), .int (bI kn)])), (ga, .inl (E 0, 4096, .inl (aN TS))), (gb, .inl (E 0, 4096, .inl (aN M))), (gc, .inl (E 0, 924, .inl (aN P)))]) [0, 6, 7, 8, 1, 2, 3, 4, 5] (by decide) rfl ?_
    refine g_if_neB (tgt := 24) C d_AB_attack_19 (by decide) (fun b1 => ?_) (fun b1 => ?_)
    · skip
      refine g_aload_n C d_AB_attack_24 rfl 0 rfl ?_
      refine g_get C lay_AB 0 rfl rfl 0 (by decide) m_171 rfl d_AB_attack_25 ?_
      refine g_iload_n C d_AB_attack_28 rfl 1 rfl ?_
      refine g_iload_n C d_AB_attack_29 rfl 2 rfl ?_
      refine g_iV (rest := []) (wr := [(bb, .inr (0, [.ref h, .ref g, .ref li, .ref q, .ref v, .ref w])), (li, .inr (2, [.int (bI op), .int (nI ki), .int (nI pl), .int (oI td)])), (g, .inr (4, [.ref ga, .ref gb, .ref gc, .int (nI tc), .int (nI ev), .int (bI kn)])), (ga, .inl (E 0, 4096, .inl (aN TS))), (gb, .inl (E 0, 4096, .inl (aN M))), (gc, .inl (E 0, 924, .inl (aN P)))]) C (c_Web_leads l D E h t u n T U (nI i) (nI j) hn hT) rd_Web_leads m_223 m_224 m_225 rfl rfl (Nat.le_of_ble_eq_true rfl) (Nat.le_of_ble_eq_true rfl) (Nat.le_of_ble_eq_true rfl) (Nat.le_of_ble_eq_true rfl) rfl rfl (Nat.le_of_ble_eq_true rfl) d_AB_attack_30 [1, 2, 3] [0, 4, 5, 6, 7, 8] rfl (by decide) rfl (by decide) (by decide) (fun r30 _ (hr30 : r30 = bI (inR (nI i) n && inR (nI j) n && (T (nI i).toNatClampNeg).testBit (nI j).toNatClampNeg)) => ?_)
      subst hr30
      refine g_cells (ws' := [(bb, .inr (0, [.ref h, .ref g, .ref li, .ref q, .ref v, .ref w])), (h, .inr (6, [.ref t, .ref u, .int (nI n)])), (t, .inl (E 0, 12, .inl (aN T))), (u, .inl (E 0, 12, .inl (aN U))), (li, .inr (2, [.int (bI op), .int (nI ki), .int (nI pl), .int (oI td)])), (g, .inr (4, [.ref ga, .ref gb, .ref gc, .int (nI tc), .int (nI ev), .int (bI kn)])), (ga, .inl (E 0, 4096, .inl (aN TS))), (gb, .inl (E 0, 4096, .inl (aN M))), (gc, .inl (E 0, 924, .inl (aN P)))]) [0, 6, 7, 8, 1, 2, 3, 4, 5] (by decide) rfl ?_
      refine g_top (show bI (inR (nI i) n && inR (nI j) n && (T (nI i).toNatClampNeg).testBit (nI j).toNatClampNeg) = bI ((T i).testBit j) from congrArg bI (leads_nat hn hi hj)) ?_
      refine g_iload_n C d_AB_attack_33 rfl 3 rfl ?_
      refine g_icmp_eqB (tgt := 51) C d_AB_attack_34 (by decide) (fun b2 => ?_) (fun b2 => ?_)
      · skip
        exact absurd b2 hs
      · skip
        refine g_aload_n C d_AB_attack_37 rfl 0 rfl ?_
        refine g_get C lay_AB 0 rfl rfl 0 (by decide) m_171 rfl d_AB_attack_38 ?_
        refine g_iload_n C d_AB_attack_41 rfl 1 rfl ?_
        refine g_iload_n C d_AB_attack_42 rfl 2 rfl ?_
        refine g_iload_n C d_AB_attack_43 rfl 3 rfl ?_
        refine g_vV (rest := []) (wr := [(bb, .inr (0, [.ref h, .ref g, .ref li, .ref q, .ref v, .ref w])), (li, .inr (2, [.int (bI op), .int (nI ki), .int (nI pl), .int (oI td)])), (g, .inr (4, [.ref ga, .ref gb, .ref gc, .int (nI tc), .int (nI ev), .int (bI kn)])), (ga, .inl (E 0, 4096, .inl (aN TS))), (gb, .inl (E 0, 4096, .inl (aN M))), (gc, .inl (E 0, 924, .inl (aN P)))]) C (c_Web_put l D E h t u n T U i j on hn hT hU hi hj) rd_Web_put m_231 m_232 m_233 rfl rfl (Nat.le_of_ble_eq_true rfl) (Nat.le_of_ble_eq_true rfl) (Nat.le_of_ble_eq_true rfl) (Nat.le_of_ble_eq_true rfl) rfl rfl (Nat.le_of_ble_eq_true rfl) d_AB_attack_44 [1, 2, 3] [0, 4, 5, 6, 7, 8] rfl (by decide) rfl (by decide) (by decide) (fun _ _ => ?_)
        refine g_cells (ws' := [(bb, .inr (0, [.ref h, .ref g, .ref li, .ref q, .ref v, .ref w])), (h, .inr (6, [.ref t, .ref u, .int (nI n)])), (t, .inl (E 0, 12, .inl (aN (putT on T i j)))), (u, .inl (E 0, 12, .inl (aN (putT on U j i)))), (li, .inr (2, [.int (bI op), .int (nI ki), .int (nI pl), .int (oI td)])), (g, .inr (4, [.ref ga, .ref gb, .ref gc, .int (nI tc), .int (nI ev), .int (bI kn)])), (ga, .inl (E 0, 4096, .inl (aN TS))), (gb, .inl (E 0, 4096, .inl (aN M))), (gc, .inl (E 0, 924, .inl (aN P)))]) [0, 6, 7, 8, 1, 2, 3, 4, 5] (by decide) rfl ?_
        refine g_aload_n C d_AB_attack_47 rfl 0 rfl ?_
        refine g_vV (rest := []) (wr := [(h, .inr (6, [.ref t, .ref u, .int (nI n)])), (t, .inl (E 0, 12, .inl (aN (putT on T i j)))), (u, .inl (E 0, 12, .inl (aN (putT on U j i))))]) C (a_changed l D E bb h g li q v w op ki pl td ga gb gc TS M P tc ev kn ) rd_AB_changed m_203 m_205 m_0 rfl rfl (Nat.le_of_ble_eq_true rfl) (Nat.le_of_ble_eq_true rfl) (Nat.le_of_ble_eq_true rfl) (Nat.le_of_ble_eq_true rfl) rfl rfl (Nat.le_of_ble_eq_true rfl) d_AB_attack_48 [0, 4, 5, 6, 7, 8] [1, 2, 3] rfl (by decide) rfl (by decide) (by decide) (fun _ _ => ?_)
        refine g_cells (ws' := [(bb, .inr (0, [.ref h, .ref g, .ref li, .ref q, .ref v, .ref w])), (h, .inr (6, [.ref t, .ref u, .int (nI n)])), (t, .inl (E 0, 12, .inl (aN (putT on T i j)))), (u, .inl (E 0, 12, .inl (aN (putT on U j i)))), (li, .inr (2, [.int (bI false), .int (nI ki), .int (nI pl), .int (oI none)])), (g, .inr (4, [.ref ga, .ref gb, .ref gc, .int (nI tc), .int (nI ev), .int (bI false)])), (ga, .inl (E 0, 4096, .inl (aN TS))), (gb, .inl (E 0, 4096, .inl (aN M))), (gc, .inl (E 0, 924, .inl (aN P)))]) [3, 0, 1, 2, 4, 5, 6, 7, 8] (by decide) rfl ?_
        refine g_iconst (v := nI 1) C d_AB_attack_51 (by decide) ?_
        refine g_top (show nI 1 = bI true from rfl) ?_
        exact g_zret C hrt hlk () (rfl) rfl d_AB_attack_52
    · skip
      rw [inR_nI (by omega) (by omega)] at b1; simp at b1; omega

set_option maxHeartbeats 4000000 in
set_option maxRecDepth 100000 in
theorem a_attackBad (l : Launch) (D : va_G) (E : Nat → ClassId) (bb : Nat) (h : Nat) (g : Nat) (li : Nat) (q : Nat) (v : Nat) (w : Nat) (t : Nat) (u : Nat) (n : Nat) (T : Nat → Nat) (U : Nat → Nat) (op : Bool) (ki : Nat) (pl : Nat) (td : Option Nat) (ga : Nat) (gb : Nat) (gc : Nat) (TS : Nat → Nat) (M : Nat → Nat) (P : Nat → Nat) (tc : Nat) (ev : Nat) (kn : Bool) (x : Int32) (y : Int32) (on : Bool) (hb : (inR x n && inR y n) = false) : MI l D E y_AB_attack (.code y_AB_attack k_AB_attack 4 (some .boolean)) ({ frames := 1, cells := 0, slots := 0, locals := 21 } : Room) [.ref bb, .int x, .int y, .int (bI on)] [(bb, .inr (0, [.ref h, .ref g, .ref li, .ref q, .ref v, .ref w])), (h, .inr (6, [.ref t, .ref u, .int (nI n)])), (t, .inl (E 0, 12, .inl (aN T))), (u, .inl (E 0, 12, .inl (aN U))), (li, .inr (2, [.int (bI op), .int (nI ki), .int (nI pl), .int (oI td)])), (g, .inr (4, [.ref ga, .ref gb, .ref gc, .int (nI tc), .int (nI ev), .int (bI kn)])), (ga, .inl (E 0, 4096, .inl (aN TS))), (gb, .inl (E 0, 4096, .inl (aN M))), (gc, .inl (E 0, 924, .inl (aN P)))] (fun (r : Int32) (_ : Unit) => r = bI false) (fun _ : Unit => [(bb, .inr (0, [.ref h, .ref g, .ref li, .ref q, .ref v, .ref w])), (h, .inr (6, [.ref t, .ref u, .int (nI n)])), (t, .inl (E 0, 12, .inl (aN T))), (u, .inl (E 0, 12, .inl (aN U))), (li, .inr (2, [.int (bI op), .int (nI ki), .int (nI pl), .int (oI td)])), (g, .inr (4, [.ref ga, .ref gb, .ref gc, .int (nI tc), .int (nI ev), .int (bI kn)])), (ga, .inl (E 0, 4096, .inl (aN TS))), (gb, .inl (E 0, 4096, .inl (aN M))), (gc, .inl (E 0, 924, .inl (aN P)))]) := by
  refine MI.of (by decide) (Nat.le_of_ble_eq_true rfl) ?_
  intro p e s m args below meth c A C hrt hlk hnm
  refine g_lv (lv' := [(0, .ref bb), (1, .int x), (2, .int y), (3, .int (bI on))]) rfl ?_
  refine g_aload_n C d_AB_attack_0 rfl 0 rfl ?_
  refine g_get C lay_AB 0 rfl rfl 0 (by decide) m_171 rfl d_AB_attack_1 ?_
  refine g_iload_n C d_AB_attack_4 rfl 1 rfl ?_
  refine g_iV (rest := []) (wr := [(bb, .inr (0, [.ref h, .ref g, .ref li, .ref q, .ref v, .ref w])), (li, .inr (2, [.int (bI op), .int (nI ki), .int (nI pl), .int (oI td)])), (g, .inr (4, [.ref ga, .ref gb, .ref gc, .int (nI tc), .int (nI ev), .int (bI kn)])), (ga, .inl (E 0, 4096, .inl (aN TS))), (gb, .inl (E 0, 4096, .inl (aN M))), (gc, .inl (E 0, 924, .inl (aN P)))]) C (c_Web_has l D E h t u n T U x ) rd_Web_has m_219 m_220 m_221 rfl rfl (Nat.le_of_ble_eq_true rfl) (Nat.le_of_ble_eq_true rfl) (Nat.le_of_ble_eq_true rfl) (Nat.le_of_ble_eq_true rfl) rfl rfl (Nat.le_of_ble_eq_true rfl) d_AB_attack_5 [1, 2, 3] [0, 4, 5, 6, 7, 8] rfl (by decide) rfl (by decide) (by decide) (fun r5 _ (hr5 : r5 = bI (inR x n)) => ?_)
  subst hr5
  refine g_cells (ws' := [(bb, .inr (0, [.ref h, .ref g, .ref li, .ref q, .ref v, .ref w])), (h, .inr (6, [.ref t, .ref u, .int (nI n)])), (t, .inl (E 0, 12, .inl (aN T))), (u, .inl (E 0, 12, .inl (aN U))), (li, .inr (2, [.int (bI op), .int (nI ki), .int (nI pl), .int (oI td)])), (g, .inr (4, [.ref ga, .ref gb, .ref gc, .int (nI tc), .int (nI ev), .int (bI kn)])), (ga, .inl (E 0, 4096, .inl (aN TS))), (gb, .inl (E 0, 4096, .inl (aN M))), (gc, .inl (E 0, 924, .inl (aN P)))]) [0, 6, 7, 8, 1, 2, 3, 4, 5] (by decide) rfl ?_
  refine g_if_eqB (tgt := 22) C d_AB_attack_8 (by decide) (fun b0 => ?_) (fun b0 => ?_)
  · skip
    refine g_iconst (v := nI 0) C d_AB_attack_22 (by decide) ?_
    refine g_top (show nI 0 = bI false from rfl) ?_
    exact g_zret C hrt hlk () (rfl) rfl d_AB_attack_23
  · skip
    refine g_aload_n C d_AB_attack_11 rfl 0 rfl ?_
    refine g_get C lay_AB 0 rfl rfl 0 (by decide) m_171 rfl d_AB_attack_12 ?_
    refine g_iload_n C d_AB_attack_15 rfl 2 rfl ?_
    refine g_iV (rest := []) (wr := [(bb, .inr (0, [.ref h, .ref g, .ref li, .ref q, .ref v, .ref w])), (li, .inr (2, [.int (bI op), .int (nI ki), .int (nI pl), .int (oI td)])), (g, .inr (4, [.ref ga, .ref gb, .ref gc, .int (nI tc), .int (nI ev), .int (bI kn)])), (ga, .inl (E 0, 4096, .inl (aN TS))), (gb, .inl (E 0, 4096, .inl (aN M))), (gc, .inl (E 0, 924, .inl (aN P)))]) C (c_Web_has l D E h t u n T U y ) rd_Web_has m_219 m_220 m_221 rfl rfl (Nat.le_of_ble_eq_true rfl) (Nat.le_of_ble_eq_true rfl) (Nat.le_of_ble_eq_true rfl) (Nat.le_of_ble_eq_true rfl) rfl rfl (Nat.le_of_ble_eq_true rfl) d_AB_attack_16 [1, 2, 3] [0, 4, 5, 6, 7, 8] rfl (by decide) rfl (by decide) (by decide) (fun r16 _ (hr16 : r16 = bI (inR y n)) => ?_)
    subst hr16
    refine g_cells (ws' := [(bb, .inr (0, [.ref h, .ref g, .ref li, .ref q, .ref v, .ref w])), (h, .inr (6, [.ref t, .ref u, .int (nI n)])), (t, .inl (E 0, 12, .inl (aN T))), (u, .inl (E 0, 12, .inl (aN U))), (li, .inr (2, [.int (bI op), .int (nI ki), .int (nI pl), .int (oI td)])), (g, .inr (4, [.ref ga, .ref gb, .ref gc, .int (nI tc), .int (nI ev), .int (bI kn)])), (ga, .inl (E 0, 4096, .inl (aN TS))), (gb, .inl (E 0, 4096, .inl (aN M))), (gc, .inl (E 0, 924, .inl (aN P)))]) [0, 6, 7, 8, 1, 2, 3, 4, 5] (by decide) rfl ?_
    refine g_if_neB (tgt := 24) C d_AB_attack_19 (by decide) (fun b1 => ?_) (fun b1 => ?_)
    · skip
      rw [b0, b1] at hb; cases hb
    · skip
      refine g_iconst (v := nI 0) C d_AB_attack_22 (by decide) ?_
      refine g_top (show nI 0 = bI false from rfl) ?_
      exact g_zret C hrt hlk () (rfl) rfl d_AB_attack_23

set_option maxHeartbeats 4000000 in
set_option maxRecDepth 100000 in
theorem a_attacks (l : Launch) (D : va_G) (E : Nat → ClassId) (bb : Nat) (h : Nat) (g : Nat) (li : Nat) (q : Nat) (v : Nat) (w : Nat) (t : Nat) (u : Nat) (n : Nat) (T : Nat → Nat) (U : Nat → Nat) (x : Int32) (y : Int32) (hn : n ≤ 12) (hT : ∀ a, T a < 4096) : MI l D E y_AB_attacks (.code y_AB_attacks k_AB_attacks 3 (some .boolean)) ({ frames := 2, cells := 0, slots := 0, locals := 43 } : Room) [.ref bb, .int x, .int y] [(bb, .inr (0, [.ref h, .ref g, .ref li, .ref q, .ref v, .ref w])), (h, .inr (6, [.ref t, .ref u, .int (nI n)])), (t, .inl (E 0, 12, .inl (aN T))), (u, .inl (E 0, 12, .inl (aN U)))] (fun (r : Int32) (_ : Unit) => r = bI (inR x n && inR y n && (T x.toNatClampNeg).testBit y.toNatClampNeg)) (fun _ : Unit => [(bb, .inr (0, [.ref h, .ref g, .ref li, .ref q, .ref v, .ref w])), (h, .inr (6, [.ref t, .ref u, .int (nI n)])), (t, .inl (E 0, 12, .inl (aN T))), (u, .inl (E 0, 12, .inl (aN U)))]) := by
  refine MI.of (by decide) (Nat.le_of_ble_eq_true rfl) ?_
  intro p e s m args below meth c A C hrt hlk hnm
  refine g_lv (lv' := [(0, .ref bb), (1, .int x), (2, .int y)]) rfl ?_
  refine g_aload_n C d_AB_attacks_0 rfl 0 rfl ?_
  refine g_get C lay_AB 0 rfl rfl 0 (by decide) m_171 rfl d_AB_attacks_1 ?_
  refine g_iload_n C d_AB_attacks_4 rfl 1 rfl ?_
  refine g_iload_n C d_AB_attacks_5 rfl 2 rfl ?_
  refine g_iV (rest := []) (wr := [(bb, .inr (0, [.ref h, .ref g, .ref li, .ref q, .ref v, .ref w]))]) C (c_Web_leads l D E h t u n T U x y hn hT) rd_Web_leads m_223 m_224 m_225 rfl rfl (Nat.le_of_ble_eq_true rfl) (Nat.le_of_ble_eq_true rfl) (Nat.le_of_ble_eq_true rfl) (Nat.le_of_ble_eq_true rfl) rfl rfl (Nat.le_of_ble_eq_true rfl) d_AB_attacks_6 [1, 2, 3] [0] rfl (by decide) rfl (by decide) (by decide) (fun r6 _ (hr6 : r6 = bI (inR x n && inR y n && (T x.toNatClampNeg).testBit y.toNatClampNeg)) => ?_)
  subst hr6
  refine g_cells (ws' := [(bb, .inr (0, [.ref h, .ref g, .ref li, .ref q, .ref v, .ref w])), (h, .inr (6, [.ref t, .ref u, .int (nI n)])), (t, .inl (E 0, 12, .inl (aN T))), (u, .inl (E 0, 12, .inl (aN U)))]) [0, 1, 2, 3] (by decide) rfl ?_
  exact g_zret C hrt hlk () (rfl) rfl d_AB_attacks_9

set_option maxHeartbeats 4000000 in
set_option maxRecDepth 100000 in
theorem a_joint (l : Launch) (D : va_G) (E : Nat → ClassId) (bb : Nat) (h : Nat) (g : Nat) (li : Nat) (q : Nat) (v : Nat) (w : Nat) (t : Nat) (u : Nat) (n : Nat) (T : Nat → Nat) (U : Nat → Nat) (op : Bool) (ki : Nat) (pl : Nat) (td : Option Nat) (ga : Nat) (gb : Nat) (gc : Nat) (TS : Nat → Nat) (M : Nat → Nat) (P : Nat → Nat) (tc : Nat) (ev : Nat) (kn : Bool) (i : Nat) (j : Nat) (k : Nat) (hn : n ≤ 9) (hT : ∀ a, T a < 4096) (hU : ∀ a, U a < 4096) (hi : i < n) (hj : j < n) (hk : k < n) : MI l D E y_AB_joint (.code y_AB_joint k_AB_joint 7 (some .int)) ({ frames := 2, cells := 0, slots := 0, locals := 44 } : Room) [.ref bb, .int (nI i), .int (nI j), .int (nI k)] [(bb, .inr (0, [.ref h, .ref g, .ref li, .ref q, .ref v, .ref w])), (h, .inr (6, [.ref t, .ref u, .int (nI n)])), (t, .inl (E 0, 12, .inl (aN T))), (u, .inl (E 0, 12, .inl (aN U))), (li, .inr (2, [.int (bI op), .int (nI ki), .int (nI pl), .int (oI td)])), (g, .inr (4, [.ref ga, .ref gb, .ref gc, .int (nI tc), .int (nI ev), .int (bI kn)])), (ga, .inl (E 0, 4096, .inl (aN TS))), (gb, .inl (E 0, 4096, .inl (aN M))), (gc, .inl (E 0, 924, .inl (aN P)))] (fun (r : Int32) (_ : Unit) => r = nI n) (fun _ : Unit => [(bb, .inr (0, [.ref h, .ref g, .ref li, .ref q, .ref v, .ref w])), (h, .inr (6, [.ref t, .ref u, .int (nI (n + 1 + 1 + 1))])), (t, .inl (E 0, 12, .inl (aN (putT true (putT true (putT true (putT true (putT true T i n) j (n + 1)) n (n + 1 + 1)) (n + 1) (n + 1 + 1)) (n + 1 + 1) k)))), (u, .inl (E 0, 12, .inl (aN (putT true (putT true (putT true (putT true (putT true U n i) (n + 1) j) (n + 1 + 1) n) (n + 1 + 1) (n + 1)) k (n + 1 + 1))))), (li, .inr (2, [.int (bI false), .int (nI ki), .int (nI pl), .int (oI none)])), (g, .inr (4, [.ref ga, .ref gb, .ref gc, .int (nI tc), .int (nI ev), .int (bI false)])), (ga, .inl (E 0, 4096, .inl (aN TS))), (gb, .inl (E 0, 4096, .inl (aN M))), (gc, .inl (E 0, 924, .inl (aN P)))]) := by
  refine MI.of (by decide) (Nat.le_of_ble_eq_true rfl) ?_
  intro p e s m args below meth c A C hrt hlk hnm
  refine g_lv (lv' := [(0, .ref bb), (1, .int (nI i)), (2, .int (nI j)), (3, .int (nI k))]) rfl ?_
  refine g_aload_n C d_AB_joint_0 rfl 0 rfl ?_
  refine g_get C lay_AB 0 rfl rfl 0 (by decide) m_171 rfl d_AB_joint_1 ?_
  refine g_iload_n C d_AB_joint_4 rfl 1 rfl ?_
  refine g_iV (rest := []) (wr := [(bb, .inr (0, [.ref h, .ref g, .ref li, .ref q, .ref v, .ref w])), (li, .inr (2, [.int (bI op), .int (nI ki), .int (nI pl), .int (oI td)])), (g, .inr (4, [.ref ga, .ref gb, .ref gc, .int (nI tc), .int (nI ev), .int (bI kn)])), (ga, .inl (E 0, 4096, .inl (aN TS))), (gb, .inl (E 0, 4096, .inl (aN M))), (gc, .inl (E 0, 924, .inl (aN P)))]) C (c_Web_has l D E h t u n T U (nI i) ) rd_Web_has m_219 m_220 m_221 rfl rfl (Nat.le_of_ble_eq_true rfl) (Nat.le_of_ble_eq_true rfl) (Nat.le_of_ble_eq_true rfl) (Nat.le_of_ble_eq_true rfl) rfl rfl (Nat.le_of_ble_eq_true rfl) d_AB_joint_5 [1, 2, 3] [0, 4, 5, 6, 7, 8] rfl (by decide) rfl (by decide) (by decide) (fun r5 _ (hr5 : r5 = bI (inR (nI i) n)) => ?_)
  subst hr5
  refine g_cells (ws' := [(bb, .inr (0, [.ref h, .ref g, .ref li, .ref q, .ref v, .ref w])), (h, .inr (6, [.ref t, .ref u, .int (nI n)])), (t, .inl (E 0, 12, .inl (aN T))), (u, .inl (E 0, 12, .inl (aN U))), (li, .inr (2, [.int (bI op), .int (nI ki), .int (nI pl), .int (oI td)])), (g, .inr (4, [.ref ga, .ref gb, .ref gc, .int (nI tc), .int (nI ev), .int (bI kn)])), (ga, .inl (E 0, 4096, .inl (aN TS))), (gb, .inl (E 0, 4096, .inl (aN M))), (gc, .inl (E 0, 924, .inl (aN P)))]) [0, 6, 7, 8, 1, 2, 3, 4, 5] (by decide) rfl ?_
  refine g_if_eqB (tgt := 44) C d_AB_joint_8 (by decide) (fun b0 => ?_) (fun b0 => ?_)
  · skip
    rw [inR_nI (by omega) (by omega)] at b0; simp at b0; omega
  · skip
    refine g_aload_n C d_AB_joint_11 rfl 0 rfl ?_
    refine g_get C lay_AB 0 rfl rfl 0 (by decide) m_171 rfl d_AB_joint_12 ?_
    refine g_iload_n C d_AB_joint_15 rfl 2 rfl ?_
    refine g_iV (rest := []) (wr := [(bb, .inr (0, [.ref h, .ref g, .ref li, .ref q, .ref v, .ref w])), (li, .inr (2, [.int (bI op), .int (nI ki), .int (nI pl), .int (oI td)])), (g, .inr (4, [.ref ga, .ref gb, .ref gc, .int (nI tc), .int (nI ev), .int (bI kn)])), (ga, .inl (E 0, 4096, .inl (aN TS))), (gb, .inl (E 0, 4096, .inl (aN M))), (gc, .inl (E 0, 924, .inl (aN P)))]) C (c_Web_has l D E h t u n T U (nI j) ) rd_Web_has m_219 m_220 m_221 rfl rfl (Nat.le_of_ble_eq_true rfl) (Nat.le_of_ble_eq_true rfl) (Nat.le_of_ble_eq_true rfl) (Nat.le_of_ble_eq_true rfl) rfl rfl (Nat.le_of_ble_eq_true rfl) d_AB_joint_16 [1, 2, 3] [0, 4, 5, 6, 7, 8] rfl (by decide) rfl (by decide) (by decide) (fun r16 _ (hr16 : r16 = bI (inR (nI j) n)) => ?_)
    subst hr16
    refine g_cells (ws' := [(bb, .inr (0, [.ref h, .ref g, .ref li, .ref q, .ref v, .ref w])), (h, .inr (6, [.ref t, .ref u, .int (nI n)])), (t, .inl (E 0, 12, .inl (aN T))), (u, .inl (E 0, 12, .inl (aN U))), (li, .inr (2, [.int (bI op), .int (nI ki), .int (nI pl), .int (oI td)])), (g, .inr (4, [.ref ga, .ref gb, .ref gc, .int (nI tc), .int (nI ev), .int (bI kn)])), (ga, .inl (E 0, 4096, .inl (aN TS))), (gb, .inl (E 0, 4096, .inl (aN M))), (gc, .inl (E 0, 924, .inl (aN P)))]) [0, 6, 7, 8, 1, 2, 3, 4, 5] (by decide) rfl ?_
    refine g_if_eqB (tgt := 44) C d_AB_joint_19 (by decide) (fun b1 => ?_) (fun b1 => ?_)
    · skip
      rw [inR_nI (by omega) (by omega)] at b1; simp at b1; omega
    · skip
      refine g_aload_n C d_AB_joint_22 rfl 0 rfl ?_
      refine g_get C lay_AB 0 rfl rfl 0 (by decide) m_171 rfl d_AB_joint_23 ?_
      refine g_iload_n C d_AB_joint_26 rfl 3 rfl ?_
      refine g_iV (rest := []) (wr := [(bb, .inr (0, [.ref h, .ref g, .ref li, .ref q, .ref v, .ref w])), (li, .inr (2, [.int (bI op), .int (nI ki), .int (nI pl), .int (oI td)])), (g, .inr (4, [.ref ga, .ref gb, .ref gc, .int (nI tc), .int (nI ev), .int (bI kn)])), (ga, .inl (E 0, 4096, .inl (aN TS))), (gb, .inl (E 0, 4096, .inl (aN M))), (gc, .inl (E 0, 924, .inl (aN P)))]) C (c_Web_has l D E h t u n T U (nI k) ) rd_Web_has m_219 m_220 m_221 rfl rfl (Nat.le_of_ble_eq_true rfl) (Nat.le_of_ble_eq_true rfl) (Nat.le_of_ble_eq_true rfl) (Nat.le_of_ble_eq_true rfl) rfl rfl (Nat.le_of_ble_eq_true rfl) d_AB_joint_27 [1, 2, 3] [0, 4, 5, 6, 7, 8] rfl (by decide) rfl (by decide) (by decide) (fun r27 _ (hr27 : r27 = bI (inR (nI k) n)) => ?_)
      subst hr27
      refine g_cells (ws' := [(bb, .inr (0, [.ref h, .ref g, .ref li, .ref q, .ref v, .ref w])), (h, .inr (6, [.ref t, .ref u, .int (nI n)])), (t, .inl (E 0, 12, .inl (aN T))), (u, .inl (E 0, 12, .inl (aN U))), (li, .inr (2, [.int (bI op), .int (nI ki), .int (nI pl), .int (oI td)])), (g, .inr (4, [.ref ga, .ref gb, .ref gc, .int (nI tc), .int (nI ev), .int (bI kn)])), (ga, .inl (E 0, 4096, .inl (aN TS))), (gb, .inl (E 0, 4096, .inl (aN M))), (gc, .inl (E 0, 924, .inl (aN P)))]) [0, 6, 7, 8, 1, 2, 3, 4, 5] (by decide) rfl ?_
      refine g_if_eqB (tgt := 44) C d_AB_joint_30 (by decide) (fun b2 => ?_) (fun b2 => ?_)
      · skip
        rw [inR_nI (by omega) (by omega)] at b2; simp at b2; omega
      · skip
        refine g_aload_n C d_AB_joint_33 rfl 0 rfl ?_
        refine g_get C lay_AB 0 rfl rfl 0 (by decide) m_171 rfl d_AB_joint_34 ?_
        refine g_iconst (v := nI 3) C d_AB_joint_37 (by decide) ?_
        refine g_iV (rest := []) (wr := [(bb, .inr (0, [.ref h, .ref g, .ref li, .ref q, .ref v, .ref w])), (li, .inr (2, [.int (bI op), .int (nI ki), .int (nI pl), .int (oI td)])), (g, .inr (4, [.ref ga, .ref gb, .ref gc, .int (nI tc), .int (nI ev), .int (bI kn)])), (ga, .inl (E 0, 4096, .inl (aN TS))), (gb, .inl (E 0, 4096, .inl (aN M))), (gc, .inl (E 0, 924, .inl (aN P)))]) C (c_Web_hasRoomFor l D E h t u n T U 3 (by omega) (by omega)) rd_Web_hasRoomFor m_194 m_195 m_196 rfl rfl (Nat.le_of_ble_eq_true rfl) (Nat.le_of_ble_eq_true rfl) (Nat.le_of_ble_eq_true rfl) (Nat.le_of_ble_eq_true rfl) rfl rfl (Nat.le_of_ble_eq_true rfl) d_AB_joint_38 [1, 2, 3] [0, 4, 5, 6, 7, 8] rfl (by decide) rfl (by decide) (by decide) (fun r38 _ (hr38 : r38 = bI (decide (n + 3 ≤ 12))) => ?_)
        subst hr38
        refine g_cells (ws' := [(bb, .inr (0, [.ref h, .ref g, .ref li, .ref q, .ref v, .ref w])), (h, .inr (6, [.ref t, .ref u, .int (nI n)])), (t, .inl (E 0, 12, .inl (aN T))), (u, .inl (E 0, 12, .inl (aN U))), (li, .inr (2, [.int (bI op), .int (nI ki), .int (nI pl), .int (oI td)])), (g, .inr (4, [.ref ga, .ref gb, .ref gc, .int (nI tc), .int (nI ev), .int (bI kn)])), (ga, .inl (E 0, 4096, .inl (aN TS))), (gb, .inl (E 0, 4096, .inl (aN M))), (gc, .inl (E 0, 924, .inl (aN P)))]) [0, 6, 7, 8, 1, 2, 3, 4, 5] (by decide) rfl ?_
        refine g_if_neB (tgt := 46) C d_AB_joint_41 (by decide) (fun b3 => ?_) (fun b3 => ?_)
        · skip
          refine g_aload_n C d_AB_joint_46 rfl 0 rfl ?_
          refine g_get C lay_AB 0 rfl rfl 0 (by decide) m_171 rfl d_AB_joint_47 ?_
          refine g_iV (rest := []) (wr := [(bb, .inr (0, [.ref h, .ref g, .ref li, .ref q, .ref v, .ref w])), (li, .inr (2, [.int (bI op), .int (nI ki), .int (nI pl), .int (oI td)])), (g, .inr (4, [.ref ga, .ref gb, .ref gc, .int (nI tc), .int (nI ev), .int (bI kn)])), (ga, .inl (E 0, 4096, .inl (aN TS))), (gb, .inl (E 0, 4096, .inl (aN M))), (gc, .inl (E 0, 924, .inl (aN P)))]) C (c_Web_add l D E h t u n T U (by omega)) rd_Web_add m_198 m_199 m_200 rfl rfl (Nat.le_of_ble_eq_true rfl) (Nat.le_of_ble_eq_true rfl) (Nat.le_of_ble_eq_true rfl) (Nat.le_of_ble_eq_true rfl) rfl rfl (Nat.le_of_ble_eq_true rfl) d_AB_joint_50 [1, 2, 3] [0, 4, 5, 6, 7, 8] rfl (by decide) rfl (by decide) (by decide) (fun r50 _ (hr50 : r50 = nI n) => ?_)
          subst hr50
          refine g_cells (ws' := [(bb, .inr (0, [.ref h, .ref g, .ref li, .ref q, .ref v, .ref w])), (h, .inr (6, [.ref t, .ref u, .int (nI (n + 1))])), (t, .inl (E 0, 12, .inl (aN T))), (u, .inl (E 0, 12, .inl (aN U))), (li, .inr (2, [.int (bI op), .int (nI ki), .int (nI pl), .int (oI td)])), (g, .inr (4, [.ref ga, .ref gb, .ref gc, .int (nI tc), .int (nI ev), .int (bI kn)])), (ga, .inl (E 0, 4096, .inl (aN TS))), (gb, .inl (E 0, 4096, .inl (aN M))), (gc, .inl (E 0, 924, .inl (aN P)))]) [0, 6, 7, 8, 1, 2, 3, 4, 5] (by decide) rfl ?_
          refine g_istore (lv' := [(4, .int (nI n)), (0, .ref bb), (1, .int (nI i)), (2, .int (nI j)), (3, .int (nI k))]) C d_AB_joint_53 (by decide) rfl ?_
          refine g_aload_n C d_AB_joint_55 rfl 1 rfl ?_
          refine g_get C lay_AB 0 rfl rfl 0 (by decide) m_171 rfl d_AB_joint_56 ?_
          refine g_iV (rest := []) (wr := [(bb, .inr (0, [.ref h, .ref g, .ref li, .ref q, .ref v, .ref w])), (li, .inr (2, [.int (bI op), .int (nI ki), .int (nI pl), .int (oI td)])), (g, .inr (4, [.ref ga, .ref gb, .ref gc, .int (nI tc), .int (nI ev), .int (bI kn)])), (ga, .inl (E 0, 4096, .inl (aN TS))), (gb, .inl (E 0, 4096, .inl (aN M))), (gc, .inl (E 0, 924, .inl (aN P)))]) C (c_Web_add l D E h t u (n + 1) T U (by omega)) rd_Web_add m_198 m_199 m_200 rfl rfl (Nat.le_of_ble_eq_true rfl) (Nat.le_of_ble_eq_true rfl) (Nat.le_of_ble_eq_true rfl) (Nat.le_of_ble_eq_true rfl) rfl rfl (Nat.le_of_ble_eq_true rfl) d_AB_joint_59 [1, 2, 3] [0, 4, 5, 6, 7, 8] rfl (by decide) rfl (by decide) (by decide) (fun r59 _ (hr59 : r59 = nI (n + 1)) => ?_)
          subst hr59
          refine g_cells (ws' := [(bb, .inr (0, [.ref h, .ref g, .ref li, .ref q, .ref v, .ref w])), (h, .inr (6, [.ref t, .ref u, .int (nI ((n + 1) + 1))])), (t, .inl (E 0, 12, .inl (aN T))), (u, .inl (E 0, 12, .inl (aN U))), (li, .inr (2, [.int (bI op), .int (nI ki), .int (nI pl), .int (oI td)])), (g, .inr (4, [.ref ga, .ref gb, .ref gc, .int (nI tc), .int (nI ev), .int (bI kn)])), (ga, .inl (E 0, 4096, .inl (aN TS))), (gb, .inl (E 0, 4096, .inl (aN M))), (gc, .inl (E 0, 924, .inl (aN P)))]) [0, 6, 7, 8, 1, 2, 3, 4, 5] (by decide) rfl ?_
          refine g_istore (lv' := [(5, .int (nI (n + 1))), (4, .int (nI n)), (0, .ref bb), (1, .int (nI i)), (2, .int (nI j)), (3, .int (nI k))]) C d_AB_joint_62 (by decide) rfl ?_
          refine g_aload_n C d_AB_joint_64 rfl 2 rfl ?_
          refine g_get C lay_AB 0 rfl rfl 0 (by decide) m_171 rfl d_AB_joint_65 ?_
          refine g_iV (rest := []) (wr := [(bb, .inr (0, [.ref h, .ref g, .ref li, .ref q, .ref v, .ref w])), (li, .inr (2, [.int (bI op), .int (nI ki), .int (nI pl), .int (oI td)])), (g, .inr (4, [.ref ga, .ref gb, .ref gc, .int (nI tc), .int (nI ev), .int (bI kn)])), (ga, .inl (E 0, 4096, .inl (aN TS))), (gb, .inl (E 0, 4096, .inl (aN M))), (gc, .inl (E 0, 924, .inl (aN P)))]) C (c_Web_add l D E h t u ((n + 1) + 1) T U (by omega)) rd_Web_add m_198 m_199 m_200 rfl rfl (Nat.le_of_ble_eq_true rfl) (Nat.le_of_ble_eq_true rfl) (Nat.le_of_ble_eq_true rfl) (Nat.le_of_ble_eq_true rfl) rfl rfl (Nat.le_of_ble_eq_true rfl) d_AB_joint_68 [1, 2, 3] [0, 4, 5, 6, 7, 8] rfl (by decide) rfl (by decide) (by decide) (fun r68 _ (hr68 : r68 = nI ((n + 1) + 1)) => ?_)
          subst hr68
          refine g_cells (ws' := [(bb, .inr (0, [.ref h, .ref g, .ref li, .ref q, .ref v, .ref w])), (h, .inr (6, [.ref t, .ref u, .int (nI (((n + 1) + 1) + 1))])), (t, .inl (E 0, 12, .inl (aN T))), (u, .inl (E 0, 12, .inl (aN U))), (li, .inr (2, [.int (bI op), .int (nI ki), .int (nI pl), .int (oI td)])), (g, .inr (4, [.ref ga, .ref gb, .ref gc, .int (nI tc), .int (nI ev), .int (bI kn)])), (ga, .inl (E 0, 4096, .inl (aN TS))), (gb, .inl (E 0, 4096, .inl (aN M))), (gc, .inl (E 0, 924, .inl (aN P)))]) [0, 6, 7, 8, 1, 2, 3, 4, 5] (by decide) rfl ?_
          refine g_istore (lv' := [(6, .int (nI ((n + 1) + 1))), (5, .int (nI (n + 1))), (4, .int (nI n)), (0, .ref bb), (1, .int (nI i)), (2, .int (nI j)), (3, .int (nI k))]) C d_AB_joint_71 (by decide) rfl ?_
          refine g_aload_n C d_AB_joint_73 rfl 3 rfl ?_
          refine g_get C lay_AB 0 rfl rfl 0 (by decide) m_171 rfl d_AB_joint_74 ?_
          refine g_iload_n C d_AB_joint_77 rfl 4 rfl ?_
          refine g_iload C d_AB_joint_78 2 rfl ?_
          refine g_iconst (v := nI 1) C d_AB_joint_80 (by decide) ?_
          refine g_top (show nI 1 = bI true from rfl) ?_
          refine g_vV (rest := []) (wr := [(bb, .inr (0, [.ref h, .ref g, .ref li, .ref q, .ref v, .ref w])), (li, .inr (2, [.int (bI op), .int (nI ki), .int (nI pl), .int (oI td)])), (g, .inr (4, [.ref ga, .ref gb, .ref gc, .int (nI tc), .int (nI ev), .int (bI kn)])), (ga, .inl (E 0, 4096, .inl (aN TS))), (gb, .inl (E 0, 4096, .inl (aN M))), (gc, .inl (E 0, 924, .inl (aN P)))]) C (c_Web_put l D E h t u (((n + 1) + 1) + 1) T U i n true (by omega) hT hU (by omega) (by omega)) rd_Web_put m_231 m_232 m_233 rfl rfl (Nat.le_of_ble_eq_true rfl) (Nat.le_of_ble_eq_true rfl) (Nat.le_of_ble_eq_true rfl) (Nat.le_of_ble_eq_true rfl) rfl rfl (Nat.le_of_ble_eq_true rfl) d_AB_joint_81 [1, 2, 3] [0, 4, 5, 6, 7, 8] rfl (by decide) rfl (by decide) (by decide) (fun _ _ => ?_)
          refine g_cells (ws' := [(bb, .inr (0, [.ref h, .ref g, .ref li, .ref q, .ref v, .ref w])), (h, .inr (6, [.ref t, .ref u, .int (nI (((n + 1) + 1) + 1))])), (t, .inl (E 0, 12, .inl (aN (putT true T i n)))), (u, .inl (E 0, 12, .inl (aN (putT true U n i)))), (li, .inr (2, [.int (bI op), .int (nI ki), .int (nI pl), .int (oI td)])), (g, .inr (4, [.ref ga, .ref gb, .ref gc, .int (nI tc), .int (nI ev), .int (bI kn)])), (ga, .inl (E 0, 4096, .inl (aN TS))), (gb, .inl (E 0, 4096, .inl (aN M))), (gc, .inl (E 0, 924, .inl (aN P)))]) [0, 6, 7, 8, 1, 2, 3, 4, 5] (by decide) rfl ?_
          refine g_aload_n C d_AB_joint_84 rfl 3 rfl ?_
          refine g_get C lay_AB 0 rfl rfl 0 (by decide) m_171 rfl d_AB_joint_85 ?_
          refine g_iload_n C d_AB_joint_88 rfl 5 rfl ?_
          refine g_iload C d_AB_joint_89 1 rfl ?_
          refine g_iconst (v := nI 1) C d_AB_joint_91 (by decide) ?_
          refine g_top (show nI 1 = bI true from rfl) ?_
          refine g_vV (rest := []) (wr := [(bb, .inr (0, [.ref h, .ref g, .ref li, .ref q, .ref v, .ref w])), (li, .inr (2, [.int (bI op), .int (nI ki), .int (nI pl), .int (oI td)])), (g, .inr (4, [.ref ga, .ref gb, .ref gc, .int (nI tc), .int (nI ev), .int (bI kn)])), (ga, .inl (E 0, 4096, .inl (aN TS))), (gb, .inl (E 0, 4096, .inl (aN M))), (gc, .inl (E 0, 924, .inl (aN P)))]) C (c_Web_put l D E h t u (((n + 1) + 1) + 1) (putT true T i n) (putT true U n i) j (n + 1) true (by omega) (putT_lt (hT) (by omega)) (putT_lt (hU) (by omega)) (by omega) (by omega)) rd_Web_put m_231 m_232 m_233 rfl rfl (Nat.le_of_ble_eq_true rfl) (Nat.le_of_ble_eq_true rfl) (Nat.le_of_ble_eq_true rfl) (Nat.le_of_ble_eq_true rfl) rfl rfl (Nat.le_of_ble_eq_true rfl) d_AB_joint_92 [1, 2, 3] [0, 4, 5, 6, 7, 8] rfl (by decide) rfl (by decide) (by decide) (fun _ _ => ?_)
          refine g_cells (ws' := [(bb, .inr (0, [.ref h, .ref g, .ref li, .ref q, .ref v, .ref w])), (h, .inr (6, [.ref t, .ref u, .int (nI (((n + 1) + 1) + 1))])), (t, .inl (E 0, 12, .inl (aN (putT true (putT true T i n) j (n + 1))))), (u, .inl (E 0, 12, .inl (aN (putT true (putT true U n i) (n + 1) j)))), (li, .inr (2, [.int (bI op), .int (nI ki), .int (nI pl), .int (oI td)])), (g, .inr (4, [.ref ga, .ref gb, .ref gc, .int (nI tc), .int (nI ev), .int (bI kn)])), (ga, .inl (E 0, 4096, .inl (aN TS))), (gb, .inl (E 0, 4096, .inl (aN M))), (gc, .inl (E 0, 924, .inl (aN P)))]) [0, 6, 7, 8, 1, 2, 3, 4, 5] (by decide) rfl ?_
          refine g_aload_n C d_AB_joint_95 rfl 3 rfl ?_
          refine g_get C lay_AB 0 rfl rfl 0 (by decide) m_171 rfl d_AB_joint_96 ?_
          refine g_iload C d_AB_joint_99 2 rfl ?_
          refine g_iload C d_AB_joint_101 0 rfl ?_
          refine g_iconst (v := nI 1) C d_AB_joint_103 (by decide) ?_
          refine g_top (show nI 1 = bI true from rfl) ?_
          refine g_vV (rest := []) (wr := [(bb, .inr (0, [.ref h, .ref g, .ref li, .ref q, .ref v, .ref w])), (li, .inr (2, [.int (bI op), .int (nI ki), .int (nI pl), .int (oI td)])), (g, .inr (4, [.ref ga, .ref gb, .ref gc, .int (nI tc), .int (nI ev), .int (bI kn)])), (ga, .inl (E 0, 4096, .inl (aN TS))), (gb, .inl (E 0, 4096, .inl (aN M))), (gc, .inl (E 0, 924, .inl (aN P)))]) C (c_Web_put l D E h t u (((n + 1) + 1) + 1) (putT true (putT true T i n) j (n + 1)) (putT true (putT true U n i) (n + 1) j) n ((n + 1) + 1) true (by omega) (putT_lt (putT_lt (hT) (by omega)) (by omega)) (putT_lt (putT_lt (hU) (by omega)) (by omega)) (by omega) (by omega)) rd_Web_put m_231 m_232 m_233 rfl rfl (Nat.le_of_ble_eq_true rfl) (Nat.le_of_ble_eq_true rfl) (Nat.le_of_ble_eq_true rfl) (Nat.le_of_ble_eq_true rfl) rfl rfl (Nat.le_of_ble_eq_true rfl) d_AB_joint_104 [1, 2, 3] [0, 4, 5, 6, 7, 8] rfl (by decide) rfl (by decide) (by decide) (fun _ _ => ?_)
          refine g_cells (ws' := [(bb, .inr (0, [.ref h, .ref g, .ref li, .ref q, .ref v, .ref w])), (h, .inr (6, [.ref t, .ref u, .int (nI (((n + 1) + 1) + 1))])), (t, .inl (E 0, 12, .inl (aN (putT true (putT true (putT true T i n) j (n + 1)) n ((n + 1) + 1))))), (u, .inl (E 0, 12, .inl (aN (putT true (putT true (putT true U n i) (n + 1) j) ((n + 1) + 1) n)))), (li, .inr (2, [.int (bI op), .int (nI ki), .int (nI pl), .int (oI td)])), (g, .inr (4, [.ref ga, .ref gb, .ref gc, .int (nI tc), .int (nI ev), .int (bI kn)])), (ga, .inl (E 0, 4096, .inl (aN TS))), (gb, .inl (E 0, 4096, .inl (aN M))), (gc, .inl (E 0, 924, .inl (aN P)))]) [0, 6, 7, 8, 1, 2, 3, 4, 5] (by decide) rfl ?_
          refine g_aload_n C d_AB_joint_107 rfl 3 rfl ?_
          refine g_get C lay_AB 0 rfl rfl 0 (by decide) m_171 rfl d_AB_joint_108 ?_
          refine g_iload C d_AB_joint_111 1 rfl ?_
          refine g_iload C d_AB_joint_113 0 rfl ?_
          refine g_iconst (v := nI 1) C d_AB_joint_115 (by decide) ?_
          refine g_top (show nI 1 = bI true from rfl) ?_
          refine g_vV (rest := []) (wr := [(bb, .inr (0, [.ref h, .ref g, .ref li, .ref q, .ref v, .ref w])), (li, .inr (2, [.int (bI op), .int (nI ki), .int (nI pl), .int (oI td)])), (g, .inr (4, [.ref ga, .ref gb, .ref gc, .int (nI tc), .int (nI ev), .int (bI kn)])), (ga, .inl (E 0, 4096, .inl (aN TS))), (gb, .inl (E 0, 4096, .inl (aN M))), (gc, .inl (E 0, 924, .inl (aN P)))]) C (c_Web_put l D E h t u (((n + 1) + 1) + 1) (putT true (putT true (putT true T i n) j (n + 1)) n ((n + 1) + 1)) (putT true (putT true (putT true U n i) (n + 1) j) ((n + 1) + 1) n) (n + 1) ((n + 1) + 1) true (by omega) (putT_lt (putT_lt (putT_lt (hT) (by omega)) (by omega)) (by omega)) (putT_lt (putT_lt (putT_lt (hU) (by omega)) (by omega)) (by omega)) (by omega) (by omega)) rd_Web_put m_231 m_232 m_233 rfl rfl (Nat.le_of_ble_eq_true rfl) (Nat.le_of_ble_eq_true rfl) (Nat.le_of_ble_eq_true rfl) (Nat.le_of_ble_eq_true rfl) rfl rfl (Nat.le_of_ble_eq_true rfl) d_AB_joint_116 [1, 2, 3] [0, 4, 5, 6, 7, 8] rfl (by decide) rfl (by decide) (by decide) (fun _ _ => ?_)
          refine g_cells (ws' := [(bb, .inr (0, [.ref h, .ref g, .ref li, .ref q, .ref v, .ref w])), (h, .inr (6, [.ref t, .ref u, .int (nI (((n + 1) + 1) + 1))])), (t, .inl (E 0, 12, .inl (aN (putT true (putT true (putT true (putT true T i n) j (n + 1)) n ((n + 1) + 1)) (n + 1) ((n + 1) + 1))))), (u, .inl (E 0, 12, .inl (aN (putT true (putT true (putT true (putT true U n i) (n + 1) j) ((n + 1) + 1) n) ((n + 1) + 1) (n + 1))))), (li, .inr (2, [.int (bI op), .int (nI ki), .int (nI pl), .int (oI td)])), (g, .inr (4, [.ref ga, .ref gb, .ref gc, .int (nI tc), .int (nI ev), .int (bI kn)])), (ga, .inl (E 0, 4096, .inl (aN TS))), (gb, .inl (E 0, 4096, .inl (aN M))), (gc, .inl (E 0, 924, .inl (aN P)))]) [0, 6, 7, 8, 1, 2, 3, 4, 5] (by decide) rfl ?_
          refine g_aload_n C d_AB_joint_119 rfl 3 rfl ?_
          refine g_get C lay_AB 0 rfl rfl 0 (by decide) m_171 rfl d_AB_joint_120 ?_
          refine g_iload C d_AB_joint_123 0 rfl ?_
          refine g_iload_n C d_AB_joint_125 rfl 6 rfl ?_
          refine g_iconst (v := nI 1) C d_AB_joint_126 (by decide) ?_
          refine g_top (show nI 1 = bI true from rfl) ?_
          refine g_vV (rest := []) (wr := [(bb, .inr (0, [.ref h, .ref g, .ref li, .ref q, .ref v, .ref w])), (li, .inr (2, [.int (bI op), .int (nI ki), .int (nI pl), .int (oI td)])), (g, .inr (4, [.ref ga, .ref gb, .ref gc, .int (nI tc), .int (nI ev), .int (bI kn)])), (ga, .inl (E 0, 4096, .inl (aN TS))), (gb, .inl (E 0, 4096, .inl (aN M))), (gc, .inl (E 0, 924, .inl (aN P)))]) C (c_Web_put l D E h t u (((n + 1) + 1) + 1) (putT true (putT true (putT true (putT true T i n) j (n + 1)) n ((n + 1) + 1)) (n + 1) ((n + 1) + 1)) (putT true (putT true (putT true (putT true U n i) (n + 1) j) ((n + 1) + 1) n) ((n + 1) + 1) (n + 1)) ((n + 1) + 1) k true (by omega) (putT_lt (putT_lt (putT_lt (putT_lt (hT) (by omega)) (by omega)) (by omega)) (by omega)) (putT_lt (putT_lt (putT_lt (putT_lt (hU) (by omega)) (by omega)) (by omega)) (by omega)) (by omega) (by omega)) rd_Web_put m_231 m_232 m_233 rfl rfl (Nat.le_of_ble_eq_true rfl) (Nat.le_of_ble_eq_true rfl) (Nat.le_of_ble_eq_true rfl) (Nat.le_of_ble_eq_true rfl) rfl rfl (Nat.le_of_ble_eq_true rfl) d_AB_joint_127 [1, 2, 3] [0, 4, 5, 6, 7, 8] rfl (by decide) rfl (by decide) (by decide) (fun _ _ => ?_)
          refine g_cells (ws' := [(bb, .inr (0, [.ref h, .ref g, .ref li, .ref q, .ref v, .ref w])), (h, .inr (6, [.ref t, .ref u, .int (nI (((n + 1) + 1) + 1))])), (t, .inl (E 0, 12, .inl (aN (putT true (putT true (putT true (putT true (putT true T i n) j (n + 1)) n ((n + 1) + 1)) (n + 1) ((n + 1) + 1)) ((n + 1) + 1) k)))), (u, .inl (E 0, 12, .inl (aN (putT true (putT true (putT true (putT true (putT true U n i) (n + 1) j) ((n + 1) + 1) n) ((n + 1) + 1) (n + 1)) k ((n + 1) + 1))))), (li, .inr (2, [.int (bI op), .int (nI ki), .int (nI pl), .int (oI td)])), (g, .inr (4, [.ref ga, .ref gb, .ref gc, .int (nI tc), .int (nI ev), .int (bI kn)])), (ga, .inl (E 0, 4096, .inl (aN TS))), (gb, .inl (E 0, 4096, .inl (aN M))), (gc, .inl (E 0, 924, .inl (aN P)))]) [0, 6, 7, 8, 1, 2, 3, 4, 5] (by decide) rfl ?_
          refine g_aload_n C d_AB_joint_130 rfl 3 rfl ?_
          refine g_vV (rest := []) (wr := [(h, .inr (6, [.ref t, .ref u, .int (nI (((n + 1) + 1) + 1))])), (t, .inl (E 0, 12, .inl (aN (putT true (putT true (putT true (putT true (putT true T i n) j (n + 1)) n ((n + 1) + 1)) (n + 1) ((n + 1) + 1)) ((n + 1) + 1) k)))), (u, .inl (E 0, 12, .inl (aN (putT true (putT true (putT true (putT true (putT true U n i) (n + 1) j) ((n + 1) + 1) n) ((n + 1) + 1) (n + 1)) k ((n + 1) + 1)))))]) C (a_changed l D E bb h g li q v w op ki pl td ga gb gc TS M P tc ev kn ) rd_AB_changed m_203 m_205 m_0 rfl rfl (Nat.le_of_ble_eq_true rfl) (Nat.le_of_ble_eq_true rfl) (Nat.le_of_ble_eq_true rfl) (Nat.le_of_ble_eq_true rfl) rfl rfl (Nat.le_of_ble_eq_true rfl) d_AB_joint_131 [0, 4, 5, 6, 7, 8] [1, 2, 3] rfl (by decide) rfl (by decide) (by decide) (fun _ _ => ?_)
          refine g_cells (ws' := [(bb, .inr (0, [.ref h, .ref g, .ref li, .ref q, .ref v, .ref w])), (h, .inr (6, [.ref t, .ref u, .int (nI (((n + 1) + 1) + 1))])), (t, .inl (E 0, 12, .inl (aN (putT true (putT true (putT true (putT true (putT true T i n) j (n + 1)) n ((n + 1) + 1)) (n + 1) ((n + 1) + 1)) ((n + 1) + 1) k)))), (u, .inl (E 0, 12, .inl (aN (putT true (putT true (putT true (putT true (putT true U n i) (n + 1) j) ((n + 1) + 1) n) ((n + 1) + 1) (n + 1)) k ((n + 1) + 1))))), (li, .inr (2, [.int (bI false), .int (nI ki), .int (nI pl), .int (oI none)])), (g, .inr (4, [.ref ga, .ref gb, .ref gc, .int (nI tc), .int (nI ev), .int (bI false)])), (ga, .inl (E 0, 4096, .inl (aN TS))), (gb, .inl (E 0, 4096, .inl (aN M))), (gc, .inl (E 0, 924, .inl (aN P)))]) [3, 0, 1, 2, 4, 5, 6, 7, 8] (by decide) rfl ?_
          refine g_iload C d_AB_joint_134 2 rfl ?_
          exact g_iret C hrt hlk () (rfl) rfl d_AB_joint_136
        · skip
          simp at b3; omega

set_option maxHeartbeats 4000000 in
set_option maxRecDepth 100000 in
theorem a_jointBad (l : Launch) (D : va_G) (E : Nat → ClassId) (bb : Nat) (h : Nat) (g : Nat) (li : Nat) (q : Nat) (v : Nat) (w : Nat) (t : Nat) (u : Nat) (n : Nat) (T : Nat → Nat) (U : Nat → Nat) (op : Bool) (ki : Nat) (pl : Nat) (td : Option Nat) (ga : Nat) (gb : Nat) (gc : Nat) (TS : Nat → Nat) (M : Nat → Nat) (P : Nat → Nat) (tc : Nat) (ev : Nat) (kn : Bool) (x : Int32) (y : Int32) (f : Int32) (hn : n ≤ 12) (hb : (inR x n && inR y n && inR f n && decide (n ≤ 9)) = false) : MI l D E y_AB_joint (.code y_AB_joint k_AB_joint 7 (some .int)) ({ frames := 1, cells := 0, slots := 0, locals := 21 } : Room) [.ref bb, .int x, .int y, .int f] [(bb, .inr (0, [.ref h, .ref g, .ref li, .ref q, .ref v, .ref w])), (h, .inr (6, [.ref t, .ref u, .int (nI n)])), (t, .inl (E 0, 12, .inl (aN T))), (u, .inl (E 0, 12, .inl (aN U))), (li, .inr (2, [.int (bI op), .int (nI ki), .int (nI pl), .int (oI td)])), (g, .inr (4, [.ref ga, .ref gb, .ref gc, .int (nI tc), .int (nI ev), .int (bI kn)])), (ga, .inl (E 0, 4096, .inl (aN TS))), (gb, .inl (E 0, 4096, .inl (aN M))), (gc, .inl (E 0, 924, .inl (aN P)))] (fun (r : Int32) (_ : Unit) => r = (-1)) (fun _ : Unit => [(bb, .inr (0, [.ref h, .ref g, .ref li, .ref q, .ref v, .ref w])), (h, .inr (6, [.ref t, .ref u, .int (nI n)])), (t, .inl (E 0, 12, .inl (aN T))), (u, .inl (E 0, 12, .inl (aN U))), (li, .inr (2, [.int (bI op), .int (nI ki), .int (nI pl), .int (oI td)])), (g, .inr (4, [.ref ga, .ref gb, .ref gc, .int (nI tc), .int (nI ev), .int (bI kn)])), (ga, .inl (E 0, 4096, .inl (aN TS))), (gb, .inl (E 0, 4096, .inl (aN M))), (gc, .inl (E 0, 924, .inl (aN P)))]) := by
  refine MI.of (by decide) (Nat.le_of_ble_eq_true rfl) ?_
  intro p e s m args below meth c A C hrt hlk hnm
  refine g_lv (lv' := [(0, .ref bb), (1, .int x), (2, .int y), (3, .int f)]) rfl ?_
  refine g_aload_n C d_AB_joint_0 rfl 0 rfl ?_
  refine g_get C lay_AB 0 rfl rfl 0 (by decide) m_171 rfl d_AB_joint_1 ?_
  refine g_iload_n C d_AB_joint_4 rfl 1 rfl ?_
  refine g_iV (rest := []) (wr := [(bb, .inr (0, [.ref h, .ref g, .ref li, .ref q, .ref v, .ref w])), (li, .inr (2, [.int (bI op), .int (nI ki), .int (nI pl), .int (oI td)])), (g, .inr (4, [.ref ga, .ref gb, .ref gc, .int (nI tc), .int (nI ev), .int (bI kn)])), (ga, .inl (E 0, 4096, .inl (aN TS))), (gb, .inl (E 0, 4096, .inl (aN M))), (gc, .inl (E 0, 924, .inl (aN P)))]) C (c_Web_has l D E h t u n T U x ) rd_Web_has m_219 m_220 m_221 rfl rfl (Nat.le_of_ble_eq_true rfl) (Nat.le_of_ble_eq_true rfl) (Nat.le_of_ble_eq_true rfl) (Nat.le_of_ble_eq_true rfl) rfl rfl (Nat.le_of_ble_eq_true rfl) d_AB_joint_5 [1, 2, 3] [0, 4, 5, 6, 7, 8] rfl (by decide) rfl (by decide) (by decide) (fun r5 _ (hr5 : r5 = bI (inR x n)) => ?_)
  subst hr5
  refine g_cells (ws' := [(bb, .inr (0, [.ref h, .ref g, .ref li, .ref q, .ref v, .ref w])), (h, .inr (6, [.ref t, .ref u, .int (nI n)])), (t, .inl (E 0, 12, .inl (aN T))), (u, .inl (E 0, 12, .inl (aN U))), (li, .inr (2, [.int (bI op), .int (nI ki), .int (nI pl), .int (oI td)])), (g, .inr (4, [.ref ga, .ref gb, .ref gc, .int (nI tc), .int (nI ev), .int (bI kn)])), (ga, .inl (E 0, 4096, .inl (aN TS))), (gb, .inl (E 0, 4096, .inl (aN M))), (gc, .inl (E 0, 924, .inl (aN P)))]) [0, 6, 7, 8, 1, 2, 3, 4, 5] (by decide) rfl ?_
  refine g_if_eqB (tgt := 44) C d_AB_joint_8 (by decide) (fun b0 => ?_) (fun b0 => ?_)
  · skip
    refine g_iconst (v := (-1)) C d_AB_joint_44 (by decide) ?_
    exact g_iret C hrt hlk () (rfl) rfl d_AB_joint_45
  · skip
    refine g_aload_n C d_AB_joint_11 rfl 0 rfl ?_
    refine g_get C lay_AB 0 rfl rfl 0 (by decide) m_171 rfl d_AB_joint_12 ?_
    refine g_iload_n C d_AB_joint_15 rfl 2 rfl ?_
    refine g_iV (rest := []) (wr := [(bb, .inr (0, [.ref h, .ref g, .ref li, .ref q, .ref v, .ref w])), (li, .inr (2, [.int (bI op), .int (nI ki), .int (nI pl), .int (oI td)])), (g, .inr (4, [.ref ga, .ref gb, .ref gc, .int (nI tc), .int (nI ev), .int (bI kn)])), (ga, .inl (E 0, 4096, .inl (aN TS))), (gb, .inl (E 0, 4096, .inl (aN M))), (gc, .inl (E 0, 924, .inl (aN P)))]) C (c_Web_has l D E h t u n T U y ) rd_Web_has m_219 m_220 m_221 rfl rfl (Nat.le_of_ble_eq_true rfl) (Nat.le_of_ble_eq_true rfl) (Nat.le_of_ble_eq_true rfl) (Nat.le_of_ble_eq_true rfl) rfl rfl (Nat.le_of_ble_eq_true rfl) d_AB_joint_16 [1, 2, 3] [0, 4, 5, 6, 7, 8] rfl (by decide) rfl (by decide) (by decide) (fun r16 _ (hr16 : r16 = bI (inR y n)) => ?_)
    subst hr16
    refine g_cells (ws' := [(bb, .inr (0, [.ref h, .ref g, .ref li, .ref q, .ref v, .ref w])), (h, .inr (6, [.ref t, .ref u, .int (nI n)])), (t, .inl (E 0, 12, .inl (aN T))), (u, .inl (E 0, 12, .inl (aN U))), (li, .inr (2, [.int (bI op), .int (nI ki), .int (nI pl), .int (oI td)])), (g, .inr (4, [.ref ga, .ref gb, .ref gc, .int (nI tc), .int (nI ev), .int (bI kn)])), (ga, .inl (E 0, 4096, .inl (aN TS))), (gb, .inl (E 0, 4096, .inl (aN M))), (gc, .inl (E 0, 924, .inl (aN P)))]) [0, 6, 7, 8, 1, 2, 3, 4, 5] (by decide) rfl ?_
    refine g_if_eqB (tgt := 44) C d_AB_joint_19 (by decide) (fun b1 => ?_) (fun b1 => ?_)
    · skip
      refine g_iconst (v := (-1)) C d_AB_joint_44 (by decide) ?_
      exact g_iret C hrt hlk () (rfl) rfl d_AB_joint_45
    · skip
      refine g_aload_n C d_AB_joint_22 rfl 0 rfl ?_
      refine g_get C lay_AB 0 rfl rfl 0 (by decide) m_171 rfl d_AB_joint_23 ?_
      refine g_iload_n C d_AB_joint_26 rfl 3 rfl ?_
      refine g_iV (rest := []) (wr := [(bb, .inr (0, [.ref h, .ref g, .ref li, .ref q, .ref v, .ref w])), (li, .inr (2, [.int (bI op), .int (nI ki), .int (nI pl), .int (oI td)])), (g, .inr (4, [.ref ga, .ref gb, .ref gc, .int (nI tc), .int (nI ev), .int (bI kn)])), (ga, .inl (E 0, 4096, .inl (aN TS))), (gb, .inl (E 0, 4096, .inl (aN M))), (gc, .inl (E 0, 924, .inl (aN P)))]) C (c_Web_has l D E h t u n T U f ) rd_Web_has m_219 m_220 m_221 rfl rfl (Nat.le_of_ble_eq_true rfl) (Nat.le_of_ble_eq_true rfl) (Nat.le_of_ble_eq_true rfl) (Nat.le_of_ble_eq_true rfl) rfl rfl (Nat.le_of_ble_eq_true rfl) d_AB_joint_27 [1, 2, 3] [0, 4, 5, 6, 7, 8] rfl (by decide) rfl (by decide) (by decide) (fun r27 _ (hr27 : r27 = bI (inR f n)) => ?_)
      subst hr27
      refine g_cells (ws' := [(bb, .inr (0, [.ref h, .ref g, .ref li, .ref q, .ref v, .ref w])), (h, .inr (6, [.ref t, .ref u, .int (nI n)])), (t, .inl (E 0, 12, .inl (aN T))), (u, .inl (E 0, 12, .inl (aN U))), (li, .inr (2, [.int (bI op), .int (nI ki), .int (nI pl), .int (oI td)])), (g, .inr (4, [.ref ga, .ref gb, .ref gc, .int (nI tc), .int (nI ev), .int (bI kn)])), (ga, .inl (E 0, 4096, .inl (aN TS))), (gb, .inl (E 0, 4096, .inl (aN M))), (gc, .inl (E 0, 924, .inl (aN P)))]) [0, 6, 7, 8, 1, 2, 3, 4, 5] (by decide) rfl ?_
      refine g_if_eqB (tgt := 44) C d_AB_joint_30 (by decide) (fun b2 => ?_) (fun b2 => ?_)
      · skip
        refine g_iconst (v := (-1)) C d_AB_joint_44 (by decide) ?_
        exact g_iret C hrt hlk () (rfl) rfl d_AB_joint_45
      · skip
        refine g_aload_n C d_AB_joint_33 rfl 0 rfl ?_
        refine g_get C lay_AB 0 rfl rfl 0 (by decide) m_171 rfl d_AB_joint_34 ?_
        refine g_iconst (v := nI 3) C d_AB_joint_37 (by decide) ?_
        refine g_iV (rest := []) (wr := [(bb, .inr (0, [.ref h, .ref g, .ref li, .ref q, .ref v, .ref w])), (li, .inr (2, [.int (bI op), .int (nI ki), .int (nI pl), .int (oI td)])), (g, .inr (4, [.ref ga, .ref gb, .ref gc, .int (nI tc), .int (nI ev), .int (bI kn)])), (ga, .inl (E 0, 4096, .inl (aN TS))), (gb, .inl (E 0, 4096, .inl (aN M))), (gc, .inl (E 0, 924, .inl (aN P)))]) C (c_Web_hasRoomFor l D E h t u n T U 3 (by omega) (by omega)) rd_Web_hasRoomFor m_194 m_195 m_196 rfl rfl (Nat.le_of_ble_eq_true rfl) (Nat.le_of_ble_eq_true rfl) (Nat.le_of_ble_eq_true rfl) (Nat.le_of_ble_eq_true rfl) rfl rfl (Nat.le_of_ble_eq_true rfl) d_AB_joint_38 [1, 2, 3] [0, 4, 5, 6, 7, 8] rfl (by decide) rfl (by decide) (by decide) (fun r38 _ (hr38 : r38 = bI (decide (n + 3 ≤ 12))) => ?_)
        subst hr38
        refine g_cells (ws' := [(bb, .inr (0, [.ref h, .ref g, .ref li, .ref q, .ref v, .ref w])), (h, .inr (6, [.ref t, .ref u, .int (nI n)])), (t, .inl (E 0, 12, .inl (aN T))), (u, .inl (E 0, 12, .inl (aN U))), (li, .inr (2, [.int (bI op), .int (nI ki), .int (nI pl), .int (oI td)])), (g, .inr (4, [.ref ga, .ref gb, .ref gc, .int (nI tc), .int (nI ev), .int (bI kn)])), (ga, .inl (E 0, 4096, .inl (aN TS))), (gb, .inl (E 0, 4096, .inl (aN M))), (gc, .inl (E 0, 924, .inl (aN P)))]) [0, 6, 7, 8, 1, 2, 3, 4, 5] (by decide) rfl ?_
        refine g_if_neB (tgt := 46) C d_AB_joint_41 (by decide) (fun b3 => ?_) (fun b3 => ?_)
        · skip
          rw [b0, b1, b2] at hb; simp at hb b3; omega
        · skip
          refine g_iconst (v := (-1)) C d_AB_joint_44 (by decide) ?_
          exact g_iret C hrt hlk () (rfl) rfl d_AB_joint_45

set_option maxHeartbeats 4000000 in
set_option maxRecDepth 100000 in
theorem a_support (l : Launch) (D : va_G) (E : Nat → ClassId) (bb : Nat) (h : Nat) (g : Nat) (li : Nat) (q : Nat) (v : Nat) (w : Nat) (t : Nat) (u : Nat) (n : Nat) (T : Nat → Nat) (U : Nat → Nat) (op : Bool) (ki : Nat) (pl : Nat) (td : Option Nat) (ga : Nat) (gb : Nat) (gc : Nat) (TS : Nat → Nat) (M : Nat → Nat) (P : Nat → Nat) (tc : Nat) (ev : Nat) (kn : Bool) (i : Nat) (j : Nat) (hn : n < 12) (hT : ∀ a, T a < 4096) (hU : ∀ a, U a < 4096) (hi : i < n) (hj : j < n) : MI l D E y_AB_support (.code y_AB_support k_AB_support 4 (some .int)) ({ frames := 2, cells := 0, slots := 0, locals := 44 } : Room) [.ref bb, .int (nI i), .int (nI j)] [(bb, .inr (0, [.ref h, .ref g, .ref li, .ref q, .ref v, .ref w])), (h, .inr (6, [.ref t, .ref u, .int (nI n)])), (t, .inl (E 0, 12, .inl (aN T))), (u, .inl (E 0, 12, .inl (aN U))), (li, .inr (2, [.int (bI op), .int (nI ki), .int (nI pl), .int (oI td)])), (g, .inr (4, [.ref ga, .ref gb, .ref gc, .int (nI tc), .int (nI ev), .int (bI kn)])), (ga, .inl (E 0, 4096, .inl (aN TS))), (gb, .inl (E 0, 4096, .inl (aN M))), (gc, .inl (E 0, 924, .inl (aN P)))] (fun (r : Int32) (_ : Unit) => r = nI n) (fun _ : Unit => [(bb, .inr (0, [.ref h, .ref g, .ref li, .ref q, .ref v, .ref w])), (h, .inr (6, [.ref t, .ref u, .int (nI (n + 1))])), (t, .inl (E 0, 12, .inl (aN (putT true (putT true T i n) n j)))), (u, .inl (E 0, 12, .inl (aN (putT true (putT true U n i) j n)))), (li, .inr (2, [.int (bI false), .int (nI ki), .int (nI pl), .int (oI none)])), (g, .inr (4, [.ref ga, .ref gb, .ref gc, .int (nI tc), .int (nI ev), .int (bI false)])), (ga, .inl (E 0, 4096, .inl (aN TS))), (gb, .inl (E 0, 4096, .inl (aN M))), (gc, .inl (E 0, 924, .inl (aN P)))]) := by
  refine MI.of (by decide) (Nat.le_of_ble_eq_true rfl) ?_
  intro p e s m args below meth c A C hrt hlk hnm
  refine g_lv (lv' := [(0, .ref bb), (1, .int (nI i)), (2, .int (nI j))]) rfl ?_
  refine g_aload_n C d_AB_support_0 rfl 0 rfl ?_
  refine g_get C lay_AB 0 rfl rfl 0 (by decide) m_171 rfl d_AB_support_1 ?_
  refine g_iload_n C d_AB_support_4 rfl 1 rfl ?_
  refine g_iV (rest := []) (wr := [(bb, .inr (0, [.ref h, .ref g, .ref li, .ref q, .ref v, .ref w])), (li, .inr (2, [.int (bI op), .int (nI ki), .int (nI pl), .int (oI td)])), (g, .inr (4, [.ref ga, .ref gb, .ref gc, .int (nI tc), .int (nI ev), .int (bI kn)])), (ga, .inl (E 0, 4096, .inl (aN TS))), (gb, .inl (E 0, 4096, .inl (aN M))), (gc, .inl (E 0, 924, .inl (aN P)))]) C (c_Web_has l D E h t u n T U (nI i) ) rd_Web_has m_219 m_220 m_221 rfl rfl (Nat.le_of_ble_eq_true rfl) (Nat.le_of_ble_eq_true rfl) (Nat.le_of_ble_eq_true rfl) (Nat.le_of_ble_eq_true rfl) rfl rfl (Nat.le_of_ble_eq_true rfl) d_AB_support_5 [1, 2, 3] [0, 4, 5, 6, 7, 8] rfl (by decide) rfl (by decide) (by decide) (fun r5 _ (hr5 : r5 = bI (inR (nI i) n)) => ?_)
  subst hr5
  refine g_cells (ws' := [(bb, .inr (0, [.ref h, .ref g, .ref li, .ref q, .ref v, .ref w])), (h, .inr (6, [.ref t, .ref u, .int (nI n)])), (t, .inl (E 0, 12, .inl (aN T))), (u, .inl (E 0, 12, .inl (aN U))), (li, .inr (2, [.int (bI op), .int (nI ki), .int (nI pl), .int (oI td)])), (g, .inr (4, [.ref ga, .ref gb, .ref gc, .int (nI tc), .int (nI ev), .int (bI kn)])), (ga, .inl (E 0, 4096, .inl (aN TS))), (gb, .inl (E 0, 4096, .inl (aN M))), (gc, .inl (E 0, 924, .inl (aN P)))]) [0, 6, 7, 8, 1, 2, 3, 4, 5] (by decide) rfl ?_
  refine g_if_eqB (tgt := 33) C d_AB_support_8 (by decide) (fun b0 => ?_) (fun b0 => ?_)
  · skip
    rw [inR_nI (by omega) (by omega)] at b0; simp at b0; omega
  · skip
    refine g_aload_n C d_AB_support_11 rfl 0 rfl ?_
    refine g_get C lay_AB 0 rfl rfl 0 (by decide) m_171 rfl d_AB_support_12 ?_
    refine g_iload_n C d_AB_support_15 rfl 2 rfl ?_
    refine g_iV (rest := []) (wr := [(bb, .inr (0, [.ref h, .ref g, .ref li, .ref q, .ref v, .ref w])), (li, .inr (2, [.int (bI op), .int (nI ki), .int (nI pl), .int (oI td)])), (g, .inr (4, [.ref ga, .ref gb, .ref gc, .int (nI tc), .int (nI ev), .int (bI kn)])), (ga, .inl (E 0, 4096, .inl (aN TS))), (gb, .inl (E 0, 4096, .inl (aN M))), (gc, .inl (E 0, 924, .inl (aN P)))]) C (c_Web_has l D E h t u n T U (nI j) ) rd_Web_has m_219 m_220 m_221 rfl rfl (Nat.le_of_ble_eq_true rfl) (Nat.le_of_ble_eq_true rfl) (Nat.le_of_ble_eq_true rfl) (Nat.le_of_ble_eq_true rfl) rfl rfl (Nat.le_of_ble_eq_true rfl) d_AB_support_16 [1, 2, 3] [0, 4, 5, 6, 7, 8] rfl (by decide) rfl (by decide) (by decide) (fun r16 _ (hr16 : r16 = bI (inR (nI j) n)) => ?_)
    subst hr16
    refine g_cells (ws' := [(bb, .inr (0, [.ref h, .ref g, .ref li, .ref q, .ref v, .ref w])), (h, .inr (6, [.ref t, .ref u, .int (nI n)])), (t, .inl (E 0, 12, .inl (aN T))), (u, .inl (E 0, 12, .inl (aN U))), (li, .inr (2, [.int (bI op), .int (nI ki), .int (nI pl), .int (oI td)])), (g, .inr (4, [.ref ga, .ref gb, .ref gc, .int (nI tc), .int (nI ev), .int (bI kn)])), (ga, .inl (E 0, 4096, .inl (aN TS))), (gb, .inl (E 0, 4096, .inl (aN M))), (gc, .inl (E 0, 924, .inl (aN P)))]) [0, 6, 7, 8, 1, 2, 3, 4, 5] (by decide) rfl ?_
    refine g_if_eqB (tgt := 33) C d_AB_support_19 (by decide) (fun b1 => ?_) (fun b1 => ?_)
    · skip
      rw [inR_nI (by omega) (by omega)] at b1; simp at b1; omega
    · skip
      refine g_aload_n C d_AB_support_22 rfl 0 rfl ?_
      refine g_get C lay_AB 0 rfl rfl 0 (by decide) m_171 rfl d_AB_support_23 ?_
      refine g_iconst (v := nI 1) C d_AB_support_26 (by decide) ?_
      refine g_iV (rest := []) (wr := [(bb, .inr (0, [.ref h, .ref g, .ref li, .ref q, .ref v, .ref w])), (li, .inr (2, [.int (bI op), .int (nI ki), .int (nI pl), .int (oI td)])), (g, .inr (4, [.ref ga, .ref gb, .ref gc, .int (nI tc), .int (nI ev), .int (bI kn)])), (ga, .inl (E 0, 4096, .inl (aN TS))), (gb, .inl (E 0, 4096, .inl (aN M))), (gc, .inl (E 0, 924, .inl (aN P)))]) C (c_Web_hasRoomFor l D E h t u n T U 1 (by omega) (by omega)) rd_Web_hasRoomFor m_194 m_195 m_196 rfl rfl (Nat.le_of_ble_eq_true rfl) (Nat.le_of_ble_eq_true rfl) (Nat.le_of_ble_eq_true rfl) (Nat.le_of_ble_eq_true rfl) rfl rfl (Nat.le_of_ble_eq_true rfl) d_AB_support_27 [1, 2, 3] [0, 4, 5, 6, 7, 8] rfl (by decide) rfl (by decide) (by decide) (fun r27 _ (hr27 : r27 = bI (decide (n + 1 ≤ 12))) => ?_)
      subst hr27
      refine g_cells (ws' := [(bb, .inr (0, [.ref h, .ref g, .ref li, .ref q, .ref v, .ref w])), (h, .inr (6, [.ref t, .ref u, .int (nI n)])), (t, .inl (E 0, 12, .inl (aN T))), (u, .inl (E 0, 12, .inl (aN U))), (li, .inr (2, [.int (bI op), .int (nI ki), .int (nI pl), .int (oI td)])), (g, .inr (4, [.ref ga, .ref gb, .ref gc, .int (nI tc), .int (nI ev), .int (bI kn)])), (ga, .inl (E 0, 4096, .inl (aN TS))), (gb, .inl (E 0, 4096, .inl (aN M))), (gc, .inl (E 0, 924, .inl (aN P)))]) [0, 6, 7, 8, 1, 2, 3, 4, 5] (by decide) rfl ?_
      refine g_if_neB (tgt := 35) C d_AB_support_30 (by decide) (fun b2 => ?_) (fun b2 => ?_)
      · skip
        refine g_aload_n C d_AB_support_35 rfl 0 rfl ?_
        refine g_get C lay_AB 0 rfl rfl 0 (by decide) m_171 rfl d_AB_support_36 ?_
        refine g_iV (rest := []) (wr := [(bb, .inr (0, [.ref h, .ref g, .ref li, .ref q, .ref v, .ref w])), (li, .inr (2, [.int (bI op), .int (nI ki), .int (nI pl), .int (oI td)])), (g, .inr (4, [.ref ga, .ref gb, .ref gc, .int (nI tc), .int (nI ev), .int (bI kn)])), (ga, .inl (E 0, 4096, .inl (aN TS))), (gb, .inl (E 0, 4096, .inl (aN M))), (gc, .inl (E 0, 924, .inl (aN P)))]) C (c_Web_add l D E h t u n T U (by omega)) rd_Web_add m_198 m_199 m_200 rfl rfl (Nat.le_of_ble_eq_true rfl) (Nat.le_of_ble_eq_true rfl) (Nat.le_of_ble_eq_true rfl) (Nat.le_of_ble_eq_true rfl) rfl rfl (Nat.le_of_ble_eq_true rfl) d_AB_support_39 [1, 2, 3] [0, 4, 5, 6, 7, 8] rfl (by decide) rfl (by decide) (by decide) (fun r39 _ (hr39 : r39 = nI n) => ?_)
        subst hr39
        refine g_cells (ws' := [(bb, .inr (0, [.ref h, .ref g, .ref li, .ref q, .ref v, .ref w])), (h, .inr (6, [.ref t, .ref u, .int (nI (n + 1))])), (t, .inl (E 0, 12, .inl (aN T))), (u, .inl (E 0, 12, .inl (aN U))), (li, .inr (2, [.int (bI op), .int (nI ki), .int (nI pl), .int (oI td)])), (g, .inr (4, [.ref ga, .ref gb, .ref gc, .int (nI tc), .int (nI ev), .int (bI kn)])), (ga, .inl (E 0, 4096, .inl (aN TS))), (gb, .inl (E 0, 4096, .inl (aN M))), (gc, .inl (E 0, 924, .inl (aN P)))]) [0, 6, 7, 8, 1, 2, 3, 4, 5] (by decide) rfl ?_
        refine g_istore_n (lv' := [(3, .int (nI n)), (0, .ref bb), (1, .int (nI i)), (2, .int (nI j))]) C d_AB_support_42 rfl (by decide) rfl ?_
        refine g_aload_n C d_AB_support_43 rfl 1 rfl ?_
        refine g_get C lay_AB 0 rfl rfl 0 (by decide) m_171 rfl d_AB_support_44 ?_
        refine g_iload_n C d_AB_support_47 rfl 2 rfl ?_
        refine g_iload_n C d_AB_support_48 rfl 0 rfl ?_
        refine g_iconst (v := nI 1) C d_AB_support_49 (by decide) ?_
        refine g_top (show nI 1 = bI true from rfl) ?_
        refine g_vV (rest := []) (wr := [(bb, .inr (0, [.ref h, .ref g, .ref li, .ref q, .ref v, .ref w])), (li, .inr (2, [.int (bI op), .int (nI ki), .int (nI pl), .int (oI td)])), (g, .inr (4, [.ref ga, .ref gb, .ref gc, .int (nI tc), .int (nI ev), .int (bI kn)])), (ga, .inl (E 0, 4096, .inl (aN TS))), (gb, .inl (E 0, 4096, .inl (aN M))), (gc, .inl (E 0, 924, .inl (aN P)))]) C (c_Web_put l D E h t u (n + 1) T U i n true (by omega) hT hU (by omega) (by omega)) rd_Web_put m_231 m_232 m_233 rfl rfl (Nat.le_of_ble_eq_true rfl) (Nat.le_of_ble_eq_true rfl) (Nat.le_of_ble_eq_true rfl) (Nat.le_of_ble_eq_true rfl) rfl rfl (Nat.le_of_ble_eq_true rfl) d_AB_support_50 [1, 2, 3] [0, 4, 5, 6, 7, 8] rfl (by decide) rfl (by decide) (by decide) (fun _ _ => ?_)
        refine g_cells (ws' := [(bb, .inr (0, [.ref h, .ref g, .ref li, .ref q, .ref v, .ref w])), (h, .inr (6, [.ref t, .ref u, .int (nI (n + 1))])), (t, .inl (E 0, 12, .inl (aN (putT true T i n)))), (u, .inl (E 0, 12, .inl (aN (putT true U n i)))), (li, .inr (2, [.int (bI op), .int (nI ki), .int (nI pl), .int (oI td)])), (g, .inr (4, [.ref ga, .ref gb, .ref gc, .int (nI tc), .int (nI ev), .int (bI kn)])), (ga, .inl (E 0, 4096, .inl (aN TS))), (gb, .inl (E 0, 4096, .inl (aN M))), (gc, .inl (E 0, 924, .inl (aN P)))]) [0, 6, 7, 8, 1, 2, 3, 4, 5] (by decide) rfl ?_
        refine g_aload_n C d_AB_support_53 rfl 1 rfl ?_
        refine g_get C lay_AB 0 rfl rfl 0 (by decide) m_171 rfl d_AB_support_54 ?_
        refine g_iload_n C d_AB_support_57 rfl 0 rfl ?_
        refine g_iload_n C d_AB_support_58 rfl 3 rfl ?_
        refine g_iconst (v := nI 1) C d_AB_support_59 (by decide) ?_
        refine g_top (show nI 1 = bI true from rfl) ?_
        refine g_vV (rest := []) (wr := [(bb, .inr (0, [.ref h, .ref g, .ref li, .ref q, .ref v, .ref w])), (li, .inr (2, [.int (bI op), .int (nI ki), .int (nI pl), .int (oI td)])), (g, .inr (4, [.ref ga, .ref gb, .ref gc, .int (nI tc), .int (nI ev), .int (bI kn)])), (ga, .inl (E 0, 4096, .inl (aN TS))), (gb, .inl (E 0, 4096, .inl (aN M))), (gc, .inl (E 0, 924, .inl (aN P)))]) C (c_Web_put l D E h t u (n + 1) (putT true T i n) (putT true U n i) n j true (by omega) (putT_lt (hT) (by omega)) (putT_lt (hU) (by omega)) (by omega) (by omega)) rd_Web_put m_231 m_232 m_233 rfl rfl (Nat.le_of_ble_eq_true rfl) (Nat.le_of_ble_eq_true rfl) (Nat.le_of_ble_eq_true rfl) (Nat.le_of_ble_eq_true rfl) rfl rfl (Nat.le_of_ble_eq_true rfl) d_AB_support_60 [1, 2, 3] [0, 4, 5, 6, 7, 8] rfl (by decide) rfl (by decide) (by decide) (fun _ _ => ?_)
        refine g_cells (ws' := [(bb, .inr (0, [.ref h, .ref g, .ref li, .ref q, .ref v, .ref w])), (h, .inr (6, [.ref t, .ref u, .int (nI (n + 1))])), (t, .inl (E 0, 12, .inl (aN (putT true (putT true T i n) n j)))), (u, .inl (E 0, 12, .inl (aN (putT true (putT true U n i) j n)))), (li, .inr (2, [.int (bI op), .int (nI ki), .int (nI pl), .int (oI td)])), (g, .inr (4, [.ref ga, .ref gb, .ref gc, .int (nI tc), .int (nI ev), .int (bI kn)])), (ga, .inl (E 0, 4096, .inl (aN TS))), (gb, .inl (E 0, 4096, .inl (aN M))), (gc, .inl (E 0, 924, .inl (aN P)))]) [0, 6, 7, 8, 1, 2, 3, 4, 5] (by decide) rfl ?_
        refine g_aload_n C d_AB_support_63 rfl 1 rfl ?_
        refine g_vV (rest := []) (wr := [(h, .inr (6, [.ref t, .ref u, .int (nI (n + 1))])), (t, .inl (E 0, 12, .inl (aN (putT true (putT true T i n) n j)))), (u, .inl (E 0, 12, .inl (aN (putT true (putT true U n i) j n))))]) C (a_changed l D E bb h g li q v w op ki pl td ga gb gc TS M P tc ev kn ) rd_AB_changed m_203 m_205 m_0 rfl rfl (Nat.le_of_ble_eq_true rfl) (Nat.le_of_ble_eq_true rfl) (Nat.le_of_ble_eq_true rfl) (Nat.le_of_ble_eq_true rfl) rfl rfl (Nat.le_of_ble_eq_true rfl) d_AB_support_64 [0, 4, 5, 6, 7, 8] [1, 2, 3] rfl (by decide) rfl (by decide) (by decide) (fun _ _ => ?_)
        refine g_cells (ws' := [(bb, .inr (0, [.ref h, .ref g, .ref li, .ref q, .ref v, .ref w])), (h, .inr (6, [.ref t, .ref u, .int (nI (n + 1))])), (t, .inl (E 0, 12, .inl (aN (putT true (putT true T i n) n j)))), (u, .inl (E 0, 12, .inl (aN (putT true (putT true U n i) j n)))), (li, .inr (2, [.int (bI false), .int (nI ki), .int (nI pl), .int (oI none)])), (g, .inr (4, [.ref ga, .ref gb, .ref gc, .int (nI tc), .int (nI ev), .int (bI false)])), (ga, .inl (E 0, 4096, .inl (aN TS))), (gb, .inl (E 0, 4096, .inl (aN M))), (gc, .inl (E 0, 924, .inl (aN P)))]) [3, 0, 1, 2, 4, 5, 6, 7, 8] (by decide) rfl ?_
        refine g_iload_n C d_AB_support_67 rfl 0 rfl ?_
        exact g_iret C hrt hlk () (rfl) rfl d_AB_support_68
      · skip
        simp at b2; omega

set_option maxHeartbeats 4000000 in
set_option maxRecDepth 100000 in
theorem a_supportBad (l : Launch) (D : va_G) (E : Nat → ClassId) (bb : Nat) (h : Nat) (g : Nat) (li : Nat) (q : Nat) (v : Nat) (w : Nat) (t : Nat) (u : Nat) (n : Nat) (T : Nat → Nat) (U : Nat → Nat) (op : Bool) (ki : Nat) (pl : Nat) (td : Option Nat) (ga : Nat) (gb : Nat) (gc : Nat) (TS : Nat → Nat) (M : Nat → Nat) (P : Nat → Nat) (tc : Nat) (ev : Nat) (kn : Bool) (x : Int32) (y : Int32) (hn : n ≤ 12) (hb : (inR x n && inR y n && decide (n < 12)) = false) : MI l D E y_AB_support (.code y_AB_support k_AB_support 4 (some .int)) ({ frames := 1, cells := 0, slots := 0, locals := 21 } : Room) [.ref bb, .int x, .int y] [(bb, .inr (0, [.ref h, .ref g, .ref li, .ref q, .ref v, .ref w])), (h, .inr (6, [.ref t, .ref u, .int (nI n)])), (t, .inl (E 0, 12, .inl (aN T))), (u, .inl (E 0, 12, .inl (aN U))), (li, .inr (2, [.int (bI op), .int (nI ki), .int (nI pl), .int (oI td)])), (g, .inr (4, [.ref ga, .ref gb, .ref gc, .int (nI tc), .int (nI ev), .int (bI kn)])), (ga, .inl (E 0, 4096, .inl (aN TS))), (gb, .inl (E 0, 4096, .inl (aN M))), (gc, .inl (E 0, 924, .inl (aN P)))] (fun (r : Int32) (_ : Unit) => r = (-1)) (fun _ : Unit => [(bb, .inr (0, [.ref h, .ref g, .ref li, .ref q, .ref v, .ref w])), (h, .inr (6, [.ref t, .ref u, .int (nI n)])), (t, .inl (E 0, 12, .inl (aN T))), (u, .inl (E 0, 12, .inl (aN U))), (li, .inr (2, [.int (bI op), .int (nI ki), .int (nI pl), .int (oI td)])), (g, .inr (4, [.ref ga, .ref gb, .ref gc, .int (nI tc), .int (nI ev), .int (bI kn)])), (ga, .inl (E 0, 4096, .inl (aN TS))), (gb, .inl (E 0, 4096, .inl (aN M))), (gc, .inl (E 0, 924, .inl (aN P)))]) := by
  refine MI.of (by decide) (Nat.le_of_ble_eq_true rfl) ?_
  intro p e s m args below meth c A C hrt hlk hnm
  refine g_lv (lv' := [(0, .ref bb), (1, .int x), (2, .int y)]) rfl ?_
  refine g_aload_n C d_AB_support_0 rfl 0 rfl ?_
  refine g_get C lay_AB 0 rfl rfl 0 (by decide) m_171 rfl d_AB_support_1 ?_
  refine g_iload_n C d_AB_support_4 rfl 1 rfl ?_
  refine g_iV (rest := []) (wr := [(bb, .inr (0, [.ref h, .ref g, .ref li, .ref q, .ref v, .ref w])), (li, .inr (2, [.int (bI op), .int (nI ki), .int (nI pl), .int (oI td)])), (g, .inr (4, [.ref ga, .ref gb, .ref gc, .int (nI tc), .int (nI ev), .int (bI kn)])), (ga, .inl (E 0, 4096, .inl (aN TS))), (gb, .inl (E 0, 4096, .inl (aN M))), (gc, .inl (E 0, 924, .inl (aN P)))]) C (c_Web_has l D E h t u n T U x ) rd_Web_has m_219 m_220 m_221 rfl rfl (Nat.le_of_ble_eq_true rfl) (Nat.le_of_ble_eq_true rfl) (Nat.le_of_ble_eq_true rfl) (Nat.le_of_ble_eq_true rfl) rfl rfl (Nat.le_of_ble_eq_true rfl) d_AB_support_5 [1, 2, 3] [0, 4, 5, 6, 7, 8] rfl (by decide) rfl (by decide) (by decide) (fun r5 _ (hr5 : r5 = bI (inR x n)) => ?_)
  subst hr5
  refine g_cells (ws' := [(bb, .inr (0, [.ref h, .ref g, .ref li, .ref q, .ref v, .ref w])), (h, .inr (6, [.ref t, .ref u, .int (nI n)])), (t, .inl (E 0, 12, .inl (aN T))), (u, .inl (E 0, 12, .inl (aN U))), (li, .inr (2, [.int (bI op), .int (nI ki), .int (nI pl), .int (oI td)])), (g, .inr (4, [.ref ga, .ref gb, .ref gc, .int (nI tc), .int (nI ev), .int (bI kn)])), (ga, .inl (E 0, 4096, .inl (aN TS))), (gb, .inl (E 0, 4096, .inl (aN M))), (gc, .inl (E 0, 924, .inl (aN P)))]) [0, 6, 7, 8, 1, 2, 3, 4, 5] (by decide) rfl ?_
  refine g_if_eqB (tgt := 33) C d_AB_support_8 (by decide) (fun b0 => ?_) (fun b0 => ?_)
  · skip
    refine g_iconst (v := (-1)) C d_AB_support_33 (by decide) ?_
    exact g_iret C hrt hlk () (rfl) rfl d_AB_support_34
  · skip
    refine g_aload_n C d_AB_support_11 rfl 0 rfl ?_
    refine g_get C lay_AB 0 rfl rfl 0 (by decide) m_171 rfl d_AB_support_12 ?_
    refine g_iload_n C d_AB_support_15 rfl 2 rfl ?_
    refine g_iV (rest := []) (wr := [(bb, .inr (0, [.ref h, .ref g, .ref li, .ref q, .ref v, .ref w])), (li, .inr (2, [.int (bI op), .int (nI ki), .int (nI pl), .int (oI td)])), (g, .inr (4, [.ref ga, .ref gb, .ref gc, .int (nI tc), .int (nI ev), .int (bI kn)])), (ga, .inl (E 0, 4096, .inl (aN TS))), (gb, .inl (E 0, 4096, .inl (aN M))), (gc, .inl (E 0, 924, .inl (aN P)))]) C (c_Web_has l D E h t u n T U y ) rd_Web_has m_219 m_220 m_221 rfl rfl (Nat.le_of_ble_eq_true rfl) (Nat.le_of_ble_eq_true rfl) (Nat.le_of_ble_eq_true rfl) (Nat.le_of_ble_eq_true rfl) rfl rfl (Nat.le_of_ble_eq_true rfl) d_AB_support_16 [1, 2, 3] [0, 4, 5, 6, 7, 8] rfl (by decide) rfl (by decide) (by decide) (fun r16 _ (hr16 : r16 = bI (inR y n)) => ?_)
    subst hr16
    refine g_cells (ws' := [(bb, .inr (0, [.ref h, .ref g, .ref li, .ref q, .ref v, .ref w])), (h, .inr (6, [.ref t, .ref u, .int (nI n)])), (t, .inl (E 0, 12, .inl (aN T))), (u, .inl (E 0, 12, .inl (aN U))), (li, .inr (2, [.int (bI op), .int (nI ki), .int (nI pl), .int (oI td)])), (g, .inr (4, [.ref ga, .ref gb, .ref gc, .int (nI tc), .int (nI ev), .int (bI kn)])), (ga, .inl (E 0, 4096, .inl (aN TS))), (gb, .inl (E 0, 4096, .inl (aN M))), (gc, .inl (E 0, 924, .inl (aN P)))]) [0, 6, 7, 8, 1, 2, 3, 4, 5] (by decide) rfl ?_
    refine g_if_eqB (tgt := 33) C d_AB_support_19 (by decide) (fun b1 => ?_) (fun b1 => ?_)
    · skip
      refine g_iconst (v := (-1)) C d_AB_support_33 (by decide) ?_
      exact g_iret C hrt hlk () (rfl) rfl d_AB_support_34
    · skip
      refine g_aload_n C d_AB_support_22 rfl 0 rfl ?_
      refine g_get C lay_AB 0 rfl rfl 0 (by decide) m_171 rfl d_AB_support_23 ?_
      refine g_iconst (v := nI 1) C d_AB_support_26 (by decide) ?_
      refine g_iV (rest := []) (wr := [(bb, .inr (0, [.ref h, .ref g, .ref li, .ref q, .ref v, .ref w])), (li, .inr (2, [.int (bI op), .int (nI ki), .int (nI pl), .int (oI td)])), (g, .inr (4, [.ref ga, .ref gb, .ref gc, .int (nI tc), .int (nI ev), .int (bI kn)])), (ga, .inl (E 0, 4096, .inl (aN TS))), (gb, .inl (E 0, 4096, .inl (aN M))), (gc, .inl (E 0, 924, .inl (aN P)))]) C (c_Web_hasRoomFor l D E h t u n T U 1 (by omega) (by omega)) rd_Web_hasRoomFor m_194 m_195 m_196 rfl rfl (Nat.le_of_ble_eq_true rfl) (Nat.le_of_ble_eq_true rfl) (Nat.le_of_ble_eq_true rfl) (Nat.le_of_ble_eq_true rfl) rfl rfl (Nat.le_of_ble_eq_true rfl) d_AB_support_27 [1, 2, 3] [0, 4, 5, 6, 7, 8] rfl (by decide) rfl (by decide) (by decide) (fun r27 _ (hr27 : r27 = bI (decide (n + 1 ≤ 12))) => ?_)
      subst hr27
      refine g_cells (ws' := [(bb, .inr (0, [.ref h, .ref g, .ref li, .ref q, .ref v, .ref w])), (h, .inr (6, [.ref t, .ref u, .int (nI n)])), (t, .inl (E 0, 12, .inl (aN T))), (u, .inl (E 0, 12, .inl (aN U))), (li, .inr (2, [.int (bI op), .int (nI ki), .int (nI pl), .int (oI td)])), (g, .inr (4, [.ref ga, .ref gb, .ref gc, .int (nI tc), .int (nI ev), .int (bI kn)])), (ga, .inl (E 0, 4096, .inl (aN TS))), (gb, .inl (E 0, 4096, .inl (aN M))), (gc, .inl (E 0, 924, .inl (aN P)))]) [0, 6, 7, 8, 1, 2, 3, 4, 5] (by decide) rfl ?_
      refine g_if_neB (tgt := 35) C d_AB_support_30 (by decide) (fun b2 => ?_) (fun b2 => ?_)
      · skip
        rw [b0, b1] at hb; simp at hb b2; omega
      · skip
        refine g_iconst (v := (-1)) C d_AB_support_33 (by decide) ?_
        exact g_iret C hrt hlk () (rfl) rfl d_AB_support_34

set_option maxHeartbeats 4000000 in
set_option maxRecDepth 100000 in
theorem a_arguments (l : Launch) (D : va_G) (E : Nat → ClassId) (bb : Nat) (h : Nat) (g : Nat) (li : Nat) (q : Nat) (v : Nat) (w : Nat) (t : Nat) (u : Nat) (n : Nat) (T : Nat → Nat) (U : Nat → Nat)  : MI l D E y_AB_arguments (.code y_AB_arguments k_AB_arguments 1 (some .int)) ({ frames := 1, cells := 0, slots := 0, locals := 20 } : Room) [.ref bb] [(bb, .inr (0, [.ref h, .ref g, .ref li, .ref q, .ref v, .ref w])), (h, .inr (6, [.ref t, .ref u, .int (nI n)])), (t, .inl (E 0, 12, .inl (aN T))), (u, .inl (E 0, 12, .inl (aN U)))] (fun (r : Int32) (_ : Unit) => r = nI n) (fun _ : Unit => [(bb, .inr (0, [.ref h, .ref g, .ref li, .ref q, .ref v, .ref w])), (h, .inr (6, [.ref t, .ref u, .int (nI n)])), (t, .inl (E 0, 12, .inl (aN T))), (u, .inl (E 0, 12, .inl (aN U)))]) := by
  refine MI.of (by decide) (Nat.le_of_ble_eq_true rfl) ?_
  intro p e s m args below meth c A C hrt hlk hnm
  refine g_lv (lv' := [(0, .ref bb)]) rfl ?_
  refine g_aload_n C d_AB_arguments_0 rfl 0 rfl ?_
  refine g_get C lay_AB 0 rfl rfl 0 (by decide) m_171 rfl d_AB_arguments_1 ?_
  refine g_iV (rest := []) (wr := [(bb, .inr (0, [.ref h, .ref g, .ref li, .ref q, .ref v, .ref w]))]) C (c_Web_size l D E h t u n T U ) rd_Web_size m_251 m_252 m_253 rfl rfl (Nat.le_of_ble_eq_true rfl) (Nat.le_of_ble_eq_true rfl) (Nat.le_of_ble_eq_true rfl) (Nat.le_of_ble_eq_true rfl) rfl rfl (Nat.le_of_ble_eq_true rfl) d_AB_arguments_4 [1, 2, 3] [0] rfl (by decide) rfl (by decide) (by decide) (fun r4 _ (hr4 : r4 = nI n) => ?_)
  subst hr4
  refine g_cells (ws' := [(bb, .inr (0, [.ref h, .ref g, .ref li, .ref q, .ref v, .ref w])), (h, .inr (6, [.ref t, .ref u, .int (nI n)])), (t, .inl (E 0, 12, .inl (aN T))), (u, .inl (E 0, 12, .inl (aN U)))]) [0, 1, 2, 3] (by decide) rfl ?_
  exact g_iret C hrt hlk () (rfl) rfl d_AB_arguments_7

set_option maxHeartbeats 4000000 in
set_option maxRecDepth 100000 in
theorem a_isFree (l : Launch) (D : va_G) (E : Nat → ClassId) (bb : Nat) (h : Nat) (g : Nat) (li : Nat) (q : Nat) (v : Nat) (w : Nat) (t : Nat) (u : Nat) (n : Nat) (T : Nat → Nat) (U : Nat → Nat) (k : Nat) (hn : n ≤ 12) (hT : ∀ a, T a < 4096) (h2n : k < 2 ^ n) : MI l D E y_AB_isFree (.code y_AB_isFree k_AB_isFree 2 (some .boolean)) ({ frames := 2, cells := 0, slots := 0, locals := 44 } : Room) [.ref bb, .int (nI k)] [(bb, .inr (0, [.ref h, .ref g, .ref li, .ref q, .ref v, .ref w])), (h, .inr (6, [.ref t, .ref u, .int (nI n)])), (t, .inl (E 0, 12, .inl (aN T))), (u, .inl (E 0, 12, .inl (aN U)))] (fun (r : Int32) (_ : Unit) => r = bI (tgU T k n &&& k == 0)) (fun _ : Unit => [(bb, .inr (0, [.ref h, .ref g, .ref li, .ref q, .ref v, .ref w])), (h, .inr (6, [.ref t, .ref u, .int (nI n)])), (t, .inl (E 0, 12, .inl (aN T))), (u, .inl (E 0, 12, .inl (aN U)))]) := by
  refine MI.of (by decide) (Nat.le_of_ble_eq_true rfl) ?_
  intro p e s m args below meth c A C hrt hlk hnm
  refine g_lv (lv' := [(0, .ref bb), (1, .int (nI k))]) rfl ?_
  refine g_aload_n C d_AB_isFree_0 rfl 0 rfl ?_
  refine g_get C lay_AB 0 rfl rfl 0 (by decide) m_171 rfl d_AB_isFree_1 ?_
  refine g_iload_n C d_AB_isFree_4 rfl 1 rfl ?_
  refine g_iV (rest := []) (wr := [(bb, .inr (0, [.ref h, .ref g, .ref li, .ref q, .ref v, .ref w]))]) C (c_Web_hasSet l D E h t u n T U (nI k) (by omega)) rd_Web_hasSet m_259 m_260 m_261 rfl rfl (Nat.le_of_ble_eq_true rfl) (Nat.le_of_ble_eq_true rfl) (Nat.le_of_ble_eq_true rfl) (Nat.le_of_ble_eq_true rfl) rfl rfl (Nat.le_of_ble_eq_true rfl) d_AB_isFree_5 [1, 2, 3] [0] rfl (by decide) rfl (by decide) (by decide) (fun r5 _ (hr5 : r5 = bI (decide ((nI k) &&& (nI (2 ^ n - 1) ^^^ -1) = 0))) => ?_)
  subst hr5
  refine g_cells (ws' := [(bb, .inr (0, [.ref h, .ref g, .ref li, .ref q, .ref v, .ref w])), (h, .inr (6, [.ref t, .ref u, .int (nI n)])), (t, .inl (E 0, 12, .inl (aN T))), (u, .inl (E 0, 12, .inl (aN U)))]) [0, 1, 2, 3] (by decide) rfl ?_
  refine g_if_eqB (tgt := 28) C d_AB_isFree_8 (by decide) (fun b0 => ?_) (fun b0 => ?_)
  · skip
    exact absurd b0 (fun q => set_yes h2n q)
  · skip
    refine g_aload_n C d_AB_isFree_11 rfl 0 rfl ?_
    refine g_get C lay_AB 0 rfl rfl 0 (by decide) m_171 rfl d_AB_isFree_12 ?_
    refine g_iload_n C d_AB_isFree_15 rfl 1 rfl ?_
    refine g_iV (rest := []) (wr := [(bb, .inr (0, [.ref h, .ref g, .ref li, .ref q, .ref v, .ref w]))]) C (c_Web_targetsOf l D E h t u n T U k hn (show k < 2 ^ 31 by have := p12_le hn; omega) hT) rd_Web_targetsOf m_270 m_271 m_272 rfl rfl (Nat.le_of_ble_eq_true rfl) (Nat.le_of_ble_eq_true rfl) (Nat.le_of_ble_eq_true rfl) (Nat.le_of_ble_eq_true rfl) rfl rfl (Nat.le_of_ble_eq_true rfl) d_AB_isFree_16 [1, 2, 3] [0] rfl (by decide) rfl (by decide) (by decide) (fun r16 _ (hr16 : r16 = nI (tgU T k n)) => ?_)
    subst hr16
    refine g_cells (ws' := [(bb, .inr (0, [.ref h, .ref g, .ref li, .ref q, .ref v, .ref w])), (h, .inr (6, [.ref t, .ref u, .int (nI n)])), (t, .inl (E 0, 12, .inl (aN T))), (u, .inl (E 0, 12, .inl (aN U)))]) [0, 1, 2, 3] (by decide) rfl ?_
    refine g_iload_n C d_AB_isFree_19 rfl 1 rfl ?_
    refine g_iandN C d_AB_isFree_20 ?_
    refine g_if_neN (tgt := 28) C (and_lt (show k < 2 ^ 31 by have := p12_le hn; omega)) d_AB_isFree_21 (by decide) (fun b1 => ?_) (fun b1 => ?_)
    · skip
      refine g_iconst (v := nI 0) C d_AB_isFree_28 (by decide) ?_
      refine g_top (show nI 0 = bI false from rfl) ?_
      exact g_zret C hrt hlk () (congrArg bI (by simp [b1])) rfl d_AB_isFree_29
    · skip
      refine g_iconst (v := nI 1) C d_AB_isFree_24 (by decide) ?_
      refine g_goto (tgt := 29) C d_AB_isFree_25 (by decide) ?_
      refine g_top (show nI 1 = bI true from rfl) ?_
      exact g_zret C hrt hlk () (congrArg bI (by simp [b1])) rfl d_AB_isFree_29

set_option maxHeartbeats 4000000 in
set_option maxRecDepth 100000 in
theorem a_isFreeBad (l : Launch) (D : va_G) (E : Nat → ClassId) (bb : Nat) (h : Nat) (g : Nat) (li : Nat) (q : Nat) (v : Nat) (w : Nat) (t : Nat) (u : Nat) (n : Nat) (T : Nat → Nat) (U : Nat → Nat) (x : Int32) (hn : n ≤ 12) (hb : inR x (2 ^ n) = false) : MI l D E y_AB_isFree (.code y_AB_isFree k_AB_isFree 2 (some .boolean)) ({ frames := 2, cells := 0, slots := 0, locals := 42 } : Room) [.ref bb, .int x] [(bb, .inr (0, [.ref h, .ref g, .ref li, .ref q, .ref v, .ref w])), (h, .inr (6, [.ref t, .ref u, .int (nI n)])), (t, .inl (E 0, 12, .inl (aN T))), (u, .inl (E 0, 12, .inl (aN U)))] (fun (r : Int32) (_ : Unit) => r = bI false) (fun _ : Unit => [(bb, .inr (0, [.ref h, .ref g, .ref li, .ref q, .ref v, .ref w])), (h, .inr (6, [.ref t, .ref u, .int (nI n)])), (t, .inl (E 0, 12, .inl (aN T))), (u, .inl (E 0, 12, .inl (aN U)))]) := by
  refine MI.of (by decide) (Nat.le_of_ble_eq_true rfl) ?_
  intro p e s m args below meth c A C hrt hlk hnm
  refine g_lv (lv' := [(0, .ref bb), (1, .int x)]) rfl ?_
  refine g_aload_n C d_AB_isFree_0 rfl 0 rfl ?_
  refine g_get C lay_AB 0 rfl rfl 0 (by decide) m_171 rfl d_AB_isFree_1 ?_
  refine g_iload_n C d_AB_isFree_4 rfl 1 rfl ?_
  refine g_iV (rest := []) (wr := [(bb, .inr (0, [.ref h, .ref g, .ref li, .ref q, .ref v, .ref w]))]) C (c_Web_hasSet l D E h t u n T U x (by omega)) rd_Web_hasSet m_259 m_260 m_261 rfl rfl (Nat.le_of_ble_eq_true rfl) (Nat.le_of_ble_eq_true rfl) (Nat.le_of_ble_eq_true rfl) (Nat.le_of_ble_eq_true rfl) rfl rfl (Nat.le_of_ble_eq_true rfl) d_AB_isFree_5 [1, 2, 3] [0] rfl (by decide) rfl (by decide) (by decide) (fun r5 _ (hr5 : r5 = bI (decide (x &&& (nI (2 ^ n - 1) ^^^ -1) = 0))) => ?_)
  subst hr5
  refine g_cells (ws' := [(bb, .inr (0, [.ref h, .ref g, .ref li, .ref q, .ref v, .ref w])), (h, .inr (6, [.ref t, .ref u, .int (nI n)])), (t, .inl (E 0, 12, .inl (aN T))), (u, .inl (E 0, 12, .inl (aN U)))]) [0, 1, 2, 3] (by decide) rfl ?_
  refine g_if_eqB (tgt := 28) C d_AB_isFree_8 (by decide) (fun b0 => ?_) (fun b0 => ?_)
  · skip
    refine g_iconst (v := nI 0) C d_AB_isFree_28 (by decide) ?_
    refine g_top (show nI 0 = bI false from rfl) ?_
    exact g_zret C hrt hlk () (rfl) rfl d_AB_isFree_29
  · skip
    exact absurd b0 (fun q => set_no hn hb q)

set_option maxHeartbeats 4000000 in
set_option maxRecDepth 100000 in
theorem a_is (l : Launch) (D : va_G) (E : Nat → ClassId) (bb : Nat) (h : Nat) (g : Nat) (li : Nat) (q : Nat) (v : Nat) (w : Nat) (t : Nat) (u : Nat) (n : Nat) (T : Nat → Nat) (U : Nat → Nat) (ga : Nat) (gb : Nat) (gc : Nat) (TS : Nat → Nat) (M : Nat → Nat) (P : Nat → Nat) (tc : Nat) (ev : Nat) (kn : Bool) (j : Nat) (k : Nat) (hn : n ≤ 12) (hT : ∀ a, T a < 4096) (hTS : ∀ a, TS a < 4096) (hj : j < 5) (h2n : k < 2 ^ n) : MI l D E y_AB_is (.code y_AB_is k_AB_is 3 (some .boolean)) ({ frames := 5, cells := 0, slots := 0, locals := 108 } : Room) [.ref bb, .int (nI j), .int (nI k)] [(bb, .inr (0, [.ref h, .ref g, .ref li, .ref q, .ref v, .ref w])), (h, .inr (6, [.ref t, .ref u, .int (nI n)])), (t, .inl (E 0, 12, .inl (aN T))), (u, .inl (E 0, 12, .inl (aN U))), (g, .inr (4, [.ref ga, .ref gb, .ref gc, .int (nI tc), .int (nI ev), .int (bI kn)])), (ga, .inl (E 0, 4096, .inl (aN TS))), (gb, .inl (E 0, 4096, .inl (aN M))), (gc, .inl (E 0, 924, .inl (aN P)))] (fun (r : Int32) (_ : Unit) => r = bI ((lnM kn T n TS M P k).testBit j)) (fun _ : Unit => [(bb, .inr (0, [.ref h, .ref g, .ref li, .ref q, .ref v, .ref w])), (h, .inr (6, [.ref t, .ref u, .int (nI n)])), (t, .inl (E 0, 12, .inl (aN T))), (u, .inl (E 0, 12, .inl (aN U))), (g, .inr (4, [.ref ga, .ref gb, .ref gc, .int (nI (lnC kn T n TS M P tc)), .int (nI (lnEv kn n ev)), .int (bI true)])), (ga, .inl (E 0, 4096, .inl (aN (lnTS kn T n TS)))), (gb, .inl (E 0, 4096, .inl (aN (lnM kn T n TS M P)))), (gc, .inl (E 0, 924, .inl (aN (lnP kn T n TS M P))))]) := by
  refine MI.of (by decide) (Nat.le_of_ble_eq_true rfl) ?_
  intro p e s m args below meth c A C hrt hlk hnm
  refine g_lv (lv' := [(0, .ref bb), (1, .int (nI j)), (2, .int (nI k))]) rfl ?_
  refine g_iload_n C d_AB_is_0 rfl 1 rfl ?_
  refine g_iS (rest := []) (wr := [(bb, .inr (0, [.ref h, .ref g, .ref li, .ref q, .ref v, .ref w])), (h, .inr (6, [.ref t, .ref u, .int (nI n)])), (t, .inl (E 0, 12, .inl (aN T))), (u, .inl (E 0, 12, .inl (aN U))), (g, .inr (4, [.ref ga, .ref gb, .ref gc, .int (nI tc), .int (nI ev), .int (bI kn)])), (ga, .inl (E 0, 4096, .inl (aN TS))), (gb, .inl (E 0, 4096, .inl (aN M))), (gc, .inl (E 0, 924, .inl (aN P)))]) C (c_isKind l D E (nI j) ) rd_AB_isKind m_278 m_279 (Nat.le_of_ble_eq_true rfl) (Nat.le_of_ble_eq_true rfl) (Nat.le_of_ble_eq_true rfl) (Nat.le_of_ble_eq_true rfl) rfl rfl (Nat.le_of_ble_eq_true rfl) d_AB_is_1 [] [0, 1, 2, 3, 4, 5, 6, 7] rfl (by decide) rfl (by decide) (by decide) (fun r1 _ (hr1 : r1 = bI (inR (nI j) 5)) => ?_)
  subst hr1
  refine g_cells (ws' := [(bb, .inr (0, [.ref h, .ref g, .ref li, .ref q, .ref v, .ref w])), (h, .inr (6, [.ref t, .ref u, .int (nI n)])), (t, .inl (E 0, 12, .inl (aN T))), (u, .inl (E 0, 12, .inl (aN U))), (g, .inr (4, [.ref ga, .ref gb, .ref gc, .int (nI tc), .int (nI ev), .int (bI kn)])), (ga, .inl (E 0, 4096, .inl (aN TS))), (gb, .inl (E 0, 4096, .inl (aN M))), (gc, .inl (E 0, 924, .inl (aN P)))]) [0, 1, 2, 3, 4, 5, 6, 7] (by decide) rfl ?_
  refine g_if_eqB (tgt := 18) C d_AB_is_4 (by decide) (fun b0 => ?_) (fun b0 => ?_)
  · skip
    rw [inR_nI (by omega) (by decide)] at b0; simp at b0; omega
  · skip
    refine g_aload_n C d_AB_is_7 rfl 0 rfl ?_
    refine g_get C lay_AB 0 rfl rfl 0 (by decide) m_171 rfl d_AB_is_8 ?_
    refine g_iload_n C d_AB_is_11 rfl 2 rfl ?_
    refine g_iV (rest := []) (wr := [(bb, .inr (0, [.ref h, .ref g, .ref li, .ref q, .ref v, .ref w])), (g, .inr (4, [.ref ga, .ref gb, .ref gc, .int (nI tc), .int (nI ev), .int (bI kn)])), (ga, .inl (E 0, 4096, .inl (aN TS))), (gb, .inl (E 0, 4096, .inl (aN M))), (gc, .inl (E 0, 924, .inl (aN P)))]) C (c_Web_hasSet l D E h t u n T U (nI k) (by omega)) rd_Web_hasSet m_259 m_260 m_261 rfl rfl (Nat.le_of_ble_eq_true rfl) (Nat.le_of_ble_eq_true rfl) (Nat.le_of_ble_eq_true rfl) (Nat.le_of_ble_eq_true rfl) rfl rfl (Nat.le_of_ble_eq_true rfl) d_AB_is_12 [1, 2, 3] [0, 4, 5, 6, 7] rfl (by decide) rfl (by decide) (by decide) (fun r12 _ (hr12 : r12 = bI (decide ((nI k) &&& (nI (2 ^ n - 1) ^^^ -1) = 0))) => ?_)
    subst hr12
    refine g_cells (ws' := [(bb, .inr (0, [.ref h, .ref g, .ref li, .ref q, .ref v, .ref w])), (h, .inr (6, [.ref t, .ref u, .int (nI n)])), (t, .inl (E 0, 12, .inl (aN T))), (u, .inl (E 0, 12, .inl (aN U))), (g, .inr (4, [.ref ga, .ref gb, .ref gc, .int (nI tc), .int (nI ev), .int (bI kn)])), (ga, .inl (E 0, 4096, .inl (aN TS))), (gb, .inl (E 0, 4096, .inl (aN M))), (gc, .inl (E 0, 924, .inl (aN P)))]) [0, 5, 6, 7, 1, 2, 3, 4] (by decide) rfl ?_
    refine g_if_neB (tgt := 20) C d_AB_is_15 (by decide) (fun b1 => ?_) (fun b1 => ?_)
    · skip
      refine g_aload_n C d_AB_is_20 rfl 0 rfl ?_
      refine g_get C lay_AB 0 rfl rfl 1 (by decide) m_172 rfl d_AB_is_21 ?_
      refine g_aload_n C d_AB_is_24 rfl 0 rfl ?_
      refine g_get C lay_AB 0 rfl rfl 0 (by decide) m_171 rfl d_AB_is_25 ?_
      refine g_vV (rest := []) (wr := [(bb, .inr (0, [.ref h, .ref g, .ref li, .ref q, .ref v, .ref w]))]) C (c_Se_learn l D E g ga gb gc TS M P tc ev kn h t u n T U hn hT hTS (by omega)) rd_Senses_learn m_281 m_282 m_283 rfl rfl (Nat.le_of_ble_eq_true rfl) (Nat.le_of_ble_eq_true rfl) (Nat.le_of_ble_eq_true rfl) (Nat.le_of_ble_eq_true rfl) rfl rfl (Nat.le_of_ble_eq_true rfl) d_AB_is_28 [4, 5, 6, 7, 1, 2, 3] [0] rfl (by decide) rfl (by decide) (by decide) (fun _ _ => ?_)
      refine g_cells (ws' := [(bb, .inr (0, [.ref h, .ref g, .ref li, .ref q, .ref v, .ref w])), (h, .inr (6, [.ref t, .ref u, .int (nI n)])), (t, .inl (E 0, 12, .inl (aN T))), (u, .inl (E 0, 12, .inl (aN U))), (g, .inr (4, [.ref ga, .ref gb, .ref gc, .int (nI (lnC kn T n TS M P tc)), .int (nI (lnEv kn n ev)), .int (bI true)])), (ga, .inl (E 0, 4096, .inl (aN (lnTS kn T n TS)))), (gb, .inl (E 0, 4096, .inl (aN (lnM kn T n TS M P)))), (gc, .inl (E 0, 924, .inl (aN (lnP kn T n TS M P))))]) [0, 5, 6, 7, 1, 2, 3, 4] (by decide) rfl ?_
      refine g_aload_n C d_AB_is_31 rfl 0 rfl ?_
      refine g_get C lay_AB 0 rfl rfl 1 (by decide) m_172 rfl d_AB_is_32 ?_
      refine g_iload_n C d_AB_is_35 rfl 1 rfl ?_
      refine g_iload_n C d_AB_is_36 rfl 2 rfl ?_
      refine g_iV (rest := []) (wr := [(bb, .inr (0, [.ref h, .ref g, .ref li, .ref q, .ref v, .ref w])), (h, .inr (6, [.ref t, .ref u, .int (nI n)])), (t, .inl (E 0, 12, .inl (aN T))), (u, .inl (E 0, 12, .inl (aN U)))]) C (c_Se_isOf l D E g ga gb gc (lnTS kn T n TS) (lnM kn T n TS M P) (lnP kn T n TS M P) (lnC kn T n TS M P tc) (lnEv kn n ev) true j k (by omega) (by have := p12_le hn; omega)) rd_Senses_isOf m_335 m_336 m_337 rfl rfl (Nat.le_of_ble_eq_true rfl) (Nat.le_of_ble_eq_true rfl) (Nat.le_of_ble_eq_true rfl) (Nat.le_of_ble_eq_true rfl) rfl rfl (Nat.le_of_ble_eq_true rfl) d_AB_is_37 [4, 5, 6, 7] [0, 1, 2, 3] rfl (by decide) rfl (by decide) (by decide) (fun r37 _ (hr37 : r37 = bI (((lnM kn T n TS M P) k).testBit j)) => ?_)
      subst hr37
      refine g_cells (ws' := [(bb, .inr (0, [.ref h, .ref g, .ref li, .ref q, .ref v, .ref w])), (h, .inr (6, [.ref t, .ref u, .int (nI n)])), (t, .inl (E 0, 12, .inl (aN T))), (u, .inl (E 0, 12, .inl (aN U))), (g, .inr (4, [.ref ga, .ref gb, .ref gc, .int (nI (lnC kn T n TS M P tc)), .int (nI (lnEv kn n ev)), .int (bI true)])), (ga, .inl (E 0, 4096, .inl (aN (lnTS kn T n TS)))), (gb, .inl (E 0, 4096, .inl (aN (lnM kn T n TS M P)))), (gc, .inl (E 0, 924, .inl (aN (lnP kn T n TS M P))))]) [0, 1, 2, 3, 4, 5, 6, 7] (by decide) rfl ?_
      exact g_zret C hrt hlk () (rfl) rfl d_AB_is_40
    · skip
      exact absurd b1 (fun q => set_yes h2n q)

set_option maxHeartbeats 4000000 in
set_option maxRecDepth 100000 in
theorem a_isBad (l : Launch) (D : va_G) (E : Nat → ClassId) (bb : Nat) (h : Nat) (g : Nat) (li : Nat) (q : Nat) (v : Nat) (w : Nat) (t : Nat) (u : Nat) (n : Nat) (T : Nat → Nat) (U : Nat → Nat) (ga : Nat) (gb : Nat) (gc : Nat) (TS : Nat → Nat) (M : Nat → Nat) (P : Nat → Nat) (tc : Nat) (ev : Nat) (kn : Bool) (x : Int32) (y : Int32) (hn : n ≤ 12) (hb : (inR x 5 && inR y (2 ^ n)) = false) : MI l D E y_AB_is (.code y_AB_is k_AB_is 3 (some .boolean)) ({ frames := 2, cells := 0, slots := 0, locals := 42 } : Room) [.ref bb, .int x, .int y] [(bb, .inr (0, [.ref h, .ref g, .ref li, .ref q, .ref v, .ref w])), (h, .inr (6, [.ref t, .ref u, .int (nI n)])), (t, .inl (E 0, 12, .inl (aN T))), (u, .inl (E 0, 12, .inl (aN U))), (g, .inr (4, [.ref ga, .ref gb, .ref gc, .int (nI tc), .int (nI ev), .int (bI kn)])), (ga, .inl (E 0, 4096, .inl (aN TS))), (gb, .inl (E 0, 4096, .inl (aN M))), (gc, .inl (E 0, 924, .inl (aN P)))] (fun (r : Int32) (_ : Unit) => r = bI false) (fun _ : Unit => [(bb, .inr (0, [.ref h, .ref g, .ref li, .ref q, .ref v, .ref w])), (h, .inr (6, [.ref t, .ref u, .int (nI n)])), (t, .inl (E 0, 12, .inl (aN T))), (u, .inl (E 0, 12, .inl (aN U))), (g, .inr (4, [.ref ga, .ref gb, .ref gc, .int (nI tc), .int (nI ev), .int (bI kn)])), (ga, .inl (E 0, 4096, .inl (aN TS))), (gb, .inl (E 0, 4096, .inl (aN M))), (gc, .inl (E 0, 924, .inl (aN P)))]) := by
  refine MI.of (by decide) (Nat.le_of_ble_eq_true rfl) ?_
  intro p e s m args below meth c A C hrt hlk hnm
  refine g_lv (lv' := [(0, .ref bb), (1, .int x), (2, .int y)]) rfl ?_
  refine g_iload_n C d_AB_is_0 rfl 1 rfl ?_
  refine g_iS (rest := []) (wr := [(bb, .inr (0, [.ref h, .ref g, .ref li, .ref q, .ref v, .ref w])), (h, .inr (6, [.ref t, .ref u, .int (nI n)])), (t, .inl (E 0, 12, .inl (aN T))), (u, .inl (E 0, 12, .inl (aN U))), (g, .inr (4, [.ref ga, .ref gb, .ref gc, .int (nI tc), .int (nI ev), .int (bI kn)])), (ga, .inl (E 0, 4096, .inl (aN TS))), (gb, .inl (E 0, 4096, .inl (aN M))), (gc, .inl (E 0, 924, .inl (aN P)))]) C (c_isKind l D E x ) rd_AB_isKind m_278 m_279 (Nat.le_of_ble_eq_true rfl) (Nat.le_of_ble_eq_true rfl) (Nat.le_of_ble_eq_true rfl) (Nat.le_of_ble_eq_true rfl) rfl rfl (Nat.le_of_ble_eq_true rfl) d_AB_is_1 [] [0, 1, 2, 3, 4, 5, 6, 7] rfl (by decide) rfl (by decide) (by decide) (fun r1 _ (hr1 : r1 = bI (inR x 5)) => ?_)
  subst hr1
  refine g_cells (ws' := [(bb, .inr (0, [.ref h, .ref g, .ref li, .ref q, .ref v, .ref w])), (h, .inr (6, [.ref t, .ref u, .int (nI n)])), (t, .inl (E 0, 12, .inl (aN T))), (u, .inl (E 0, 12, .inl (aN U))), (g, .inr (4, [.ref ga, .ref gb, .ref gc, .int (nI tc), .int (nI ev), .int (bI kn)])), (ga, .inl (E 0, 4096, .inl (aN TS))), (gb, .inl (E 0, 4096, .inl (aN M))), (gc, .inl (E 0, 924, .inl (aN P)))]) [0, 1, 2, 3, 4, 5, 6, 7] (by decide) rfl ?_
  refine g_if_eqB (tgt := 18) C d_AB_is_4 (by decide) (fun b0 => ?_) (fun b0 => ?_)
  · skip
    refine g_iconst (v := nI 0) C d_AB_is_18 (by decide) ?_
    refine g_top (show nI 0 = bI false from rfl) ?_
    exact g_zret C hrt hlk () (rfl) rfl d_AB_is_19
  · skip
    refine g_aload_n C d_AB_is_7 rfl 0 rfl ?_
    refine g_get C lay_AB 0 rfl rfl 0 (by decide) m_171 rfl d_AB_is_8 ?_
    refine g_iload_n C d_AB_is_11 rfl 2 rfl ?_
    refine g_iV (rest := []) (wr := [(bb, .inr (0, [.ref h, .ref g, .ref li, .ref q, .ref v, .ref w])), (g, .inr (4, [.ref ga, .ref gb, .ref gc, .int (nI tc), .int (nI ev), .int (bI kn)])), (ga, .inl (E 0, 4096, .inl (aN TS))), (gb, .inl (E 0, 4096, .inl (aN M))), (gc, .inl (E 0, 924, .inl (aN P)))]) C (c_Web_hasSet l D E h t u n T U y (by omega)) rd_Web_hasSet m_259 m_260 m_261 rfl rfl (Nat.le_of_ble_eq_true rfl) (Nat.le_of_ble_eq_true rfl) (Nat.le_of_ble_eq_true rfl) (Nat.le_of_ble_eq_true rfl) rfl rfl (Nat.le_of_ble_eq_true rfl) d_AB_is_12 [1, 2, 3] [0, 4, 5, 6, 7] rfl (by decide) rfl (by decide) (by decide) (fun r12 _ (hr12 : r12 = bI (decide (y &&& (nI (2 ^ n - 1) ^^^ -1) = 0))) => ?_)
    subst hr12
    refine g_cells (ws' := [(bb, .inr (0, [.ref h, .ref g, .ref li, .ref q, .ref v, .ref w])), (h, .inr (6, [.ref t, .ref u, .int (nI n)])), (t, .inl (E 0, 12, .inl (aN T))), (u, .inl (E 0, 12, .inl (aN U))), (g, .inr (4, [.ref ga, .ref gb, .ref gc, .int (nI tc), .int (nI ev), .int (bI kn)])), (ga, .inl (E 0, 4096, .inl (aN TS))), (gb, .inl (E 0, 4096, .inl (aN M))), (gc, .inl (E 0, 924, .inl (aN P)))]) [0, 5, 6, 7, 1, 2, 3, 4] (by decide) rfl ?_
    refine g_if_neB (tgt := 20) C d_AB_is_15 (by decide) (fun b1 => ?_) (fun b1 => ?_)
    · skip
      exact absurd b1 (fun q => set_no hn (by rw [b0] at hb; exact hb) q)
    · skip
      refine g_iconst (v := nI 0) C d_AB_is_18 (by decide) ?_
      refine g_top (show nI 0 = bI false from rfl) ?_
      exact g_zret C hrt hlk () (rfl) rfl d_AB_is_19

set_option maxHeartbeats 4000000 in
set_option maxRecDepth 100000 in
theorem a_attackedBy (l : Launch) (D : va_G) (E : Nat → ClassId) (bb : Nat) (h : Nat) (g : Nat) (li : Nat) (q : Nat) (v : Nat) (w : Nat) (t : Nat) (u : Nat) (n : Nat) (T : Nat → Nat) (U : Nat → Nat) (k : Nat) (hn : n ≤ 12) (hT : ∀ a, T a < 4096) (h2n : k < 2 ^ n) : MI l D E y_AB_attackedBy (.code y_AB_attackedBy k_AB_attackedBy 2 (some .int)) ({ frames := 2, cells := 0, slots := 0, locals := 44 } : Room) [.ref bb, .int (nI k)] [(bb, .inr (0, [.ref h, .ref g, .ref li, .ref q, .ref v, .ref w])), (h, .inr (6, [.ref t, .ref u, .int (nI n)])), (t, .inl (E 0, 12, .inl (aN T))), (u, .inl (E 0, 12, .inl (aN U)))] (fun (r : Int32) (_ : Unit) => r = nI (tgU T k n)) (fun _ : Unit => [(bb, .inr (0, [.ref h, .ref g, .ref li, .ref q, .ref v, .ref w])), (h, .inr (6, [.ref t, .ref u, .int (nI n)])), (t, .inl (E 0, 12, .inl (aN T))), (u, .inl (E 0, 12, .inl (aN U)))]) := by
  refine MI.of (by decide) (Nat.le_of_ble_eq_true rfl) ?_
  intro p e s m args below meth c A C hrt hlk hnm
  refine g_lv (lv' := [(0, .ref bb), (1, .int (nI k))]) rfl ?_
  refine g_aload_n C d_AB_attackedBy_0 rfl 0 rfl ?_
  refine g_get C lay_AB 0 rfl rfl 0 (by decide) m_171 rfl d_AB_attackedBy_1 ?_
  refine g_iload_n C d_AB_attackedBy_4 rfl 1 rfl ?_
  refine g_iV (rest := []) (wr := [(bb, .inr (0, [.ref h, .ref g, .ref li, .ref q, .ref v, .ref w]))]) C (c_Web_hasSet l D E h t u n T U (nI k) (by omega)) rd_Web_hasSet m_259 m_260 m_261 rfl rfl (Nat.le_of_ble_eq_true rfl) (Nat.le_of_ble_eq_true rfl) (Nat.le_of_ble_eq_true rfl) (Nat.le_of_ble_eq_true rfl) rfl rfl (Nat.le_of_ble_eq_true rfl) d_AB_attackedBy_5 [1, 2, 3] [0] rfl (by decide) rfl (by decide) (by decide) (fun r5 _ (hr5 : r5 = bI (decide ((nI k) &&& (nI (2 ^ n - 1) ^^^ -1) = 0))) => ?_)
  subst hr5
  refine g_cells (ws' := [(bb, .inr (0, [.ref h, .ref g, .ref li, .ref q, .ref v, .ref w])), (h, .inr (6, [.ref t, .ref u, .int (nI n)])), (t, .inl (E 0, 12, .inl (aN T))), (u, .inl (E 0, 12, .inl (aN U)))]) [0, 1, 2, 3] (by decide) rfl ?_
  refine g_if_eqB (tgt := 22) C d_AB_attackedBy_8 (by decide) (fun b0 => ?_) (fun b0 => ?_)
  · skip
    exact absurd b0 (fun q => set_yes h2n q)
  · skip
    refine g_aload_n C d_AB_attackedBy_11 rfl 0 rfl ?_
    refine g_get C lay_AB 0 rfl rfl 0 (by decide) m_171 rfl d_AB_attackedBy_12 ?_
    refine g_iload_n C d_AB_attackedBy_15 rfl 1 rfl ?_
    refine g_iV (rest := []) (wr := [(bb, .inr (0, [.ref h, .ref g, .ref li, .ref q, .ref v, .ref w]))]) C (c_Web_targetsOf l D E h t u n T U k hn (show k < 2 ^ 31 by have := p12_le hn; omega) hT) rd_Web_targetsOf m_270 m_271 m_272 rfl rfl (Nat.le_of_ble_eq_true rfl) (Nat.le_of_ble_eq_true rfl) (Nat.le_of_ble_eq_true rfl) (Nat.le_of_ble_eq_true rfl) rfl rfl (Nat.le_of_ble_eq_true rfl) d_AB_attackedBy_16 [1, 2, 3] [0] rfl (by decide) rfl (by decide) (by decide) (fun r16 _ (hr16 : r16 = nI (tgU T k n)) => ?_)
    subst hr16
    refine g_cells (ws' := [(bb, .inr (0, [.ref h, .ref g, .ref li, .ref q, .ref v, .ref w])), (h, .inr (6, [.ref t, .ref u, .int (nI n)])), (t, .inl (E 0, 12, .inl (aN T))), (u, .inl (E 0, 12, .inl (aN U)))]) [0, 1, 2, 3] (by decide) rfl ?_
    refine g_goto (tgt := 23) C d_AB_attackedBy_19 (by decide) ?_
    exact g_iret C hrt hlk () (rfl) rfl d_AB_attackedBy_23

set_option maxHeartbeats 4000000 in
set_option maxRecDepth 100000 in
theorem a_attackedByBad (l : Launch) (D : va_G) (E : Nat → ClassId) (bb : Nat) (h : Nat) (g : Nat) (li : Nat) (q : Nat) (v : Nat) (w : Nat) (t : Nat) (u : Nat) (n : Nat) (T : Nat → Nat) (U : Nat → Nat) (x : Int32) (hn : n ≤ 12) (hb : inR x (2 ^ n) = false) : MI l D E y_AB_attackedBy (.code y_AB_attackedBy k_AB_attackedBy 2 (some .int)) ({ frames := 2, cells := 0, slots := 0, locals := 42 } : Room) [.ref bb, .int x] [(bb, .inr (0, [.ref h, .ref g, .ref li, .ref q, .ref v, .ref w])), (h, .inr (6, [.ref t, .ref u, .int (nI n)])), (t, .inl (E 0, 12, .inl (aN T))), (u, .inl (E 0, 12, .inl (aN U)))] (fun (r : Int32) (_ : Unit) => r = (-1)) (fun _ : Unit => [(bb, .inr (0, [.ref h, .ref g, .ref li, .ref q, .ref v, .ref w])), (h, .inr (6, [.ref t, .ref u, .int (nI n)])), (t, .inl (E 0, 12, .inl (aN T))), (u, .inl (E 0, 12, .inl (aN U)))]) := by
  refine MI.of (by decide) (Nat.le_of_ble_eq_true rfl) ?_
  intro p e s m args below meth c A C hrt hlk hnm
  refine g_lv (lv' := [(0, .ref bb), (1, .int x)]) rfl ?_
  refine g_aload_n C d_AB_attackedBy_0 rfl 0 rfl ?_
  refine g_get C lay_AB 0 rfl rfl 0 (by decide) m_171 rfl d_AB_attackedBy_1 ?_
  refine g_iload_n C d_AB_attackedBy_4 rfl 1 rfl ?_
  refine g_iV (rest := []) (wr := [(bb, .inr (0, [.ref h, .ref g, .ref li, .ref q, .ref v, .ref w]))]) C (c_Web_hasSet l D E h t u n T U x (by omega)) rd_Web_hasSet m_259 m_260 m_261 rfl rfl (Nat.le_of_ble_eq_true rfl) (Nat.le_of_ble_eq_true rfl) (Nat.le_of_ble_eq_true rfl) (Nat.le_of_ble_eq_true rfl) rfl rfl (Nat.le_of_ble_eq_true rfl) d_AB_attackedBy_5 [1, 2, 3] [0] rfl (by decide) rfl (by decide) (by decide) (fun r5 _ (hr5 : r5 = bI (decide (x &&& (nI (2 ^ n - 1) ^^^ -1) = 0))) => ?_)
  subst hr5
  refine g_cells (ws' := [(bb, .inr (0, [.ref h, .ref g, .ref li, .ref q, .ref v, .ref w])), (h, .inr (6, [.ref t, .ref u, .int (nI n)])), (t, .inl (E 0, 12, .inl (aN T))), (u, .inl (E 0, 12, .inl (aN U)))]) [0, 1, 2, 3] (by decide) rfl ?_
  refine g_if_eqB (tgt := 22) C d_AB_attackedBy_8 (by decide) (fun b0 => ?_) (fun b0 => ?_)
  · skip
    refine g_iconst (v := (-1)) C d_AB_attackedBy_22 (by decide) ?_
    exact g_iret C hrt hlk () (rfl) rfl d_AB_attackedBy_23
  · skip
    exact absurd b0 (fun q => set_no hn hb q)

set_option maxHeartbeats 4000000 in
set_option maxRecDepth 100000 in
theorem a_defendedBy (l : Launch) (D : va_G) (E : Nat → ClassId) (bb : Nat) (h : Nat) (g : Nat) (li : Nat) (q : Nat) (v : Nat) (w : Nat) (t : Nat) (u : Nat) (n : Nat) (T : Nat → Nat) (U : Nat → Nat) (k : Nat) (hn : n ≤ 12) (hT : ∀ a, T a < 4096) (h2n : k < 2 ^ n) : MI l D E y_AB_defendedBy (.code y_AB_defendedBy k_AB_defendedBy 2 (some .int)) ({ frames := 3, cells := 0, slots := 0, locals := 66 } : Room) [.ref bb, .int (nI k)] [(bb, .inr (0, [.ref h, .ref g, .ref li, .ref q, .ref v, .ref w])), (h, .inr (6, [.ref t, .ref u, .int (nI n)])), (t, .inl (E 0, 12, .inl (aN T))), (u, .inl (E 0, 12, .inl (aN U)))] (fun (r : Int32) (_ : Unit) => r = nI (dfd T n k)) (fun _ : Unit => [(bb, .inr (0, [.ref h, .ref g, .ref li, .ref q, .ref v, .ref w])), (h, .inr (6, [.ref t, .ref u, .int (nI n)])), (t, .inl (E 0, 12, .inl (aN T))), (u, .inl (E 0, 12, .inl (aN U)))]) := by
  refine MI.of (by decide) (Nat.le_of_ble_eq_true rfl) ?_
  intro p e s m args below meth c A C hrt hlk hnm
  refine g_lv (lv' := [(0, .ref bb), (1, .int (nI k))]) rfl ?_
  refine g_aload_n C d_AB_defendedBy_0 rfl 0 rfl ?_
  refine g_get C lay_AB 0 rfl rfl 0 (by decide) m_171 rfl d_AB_defendedBy_1 ?_
  refine g_iload_n C d_AB_defendedBy_4 rfl 1 rfl ?_
  refine g_iV (rest := []) (wr := [(bb, .inr (0, [.ref h, .ref g, .ref li, .ref q, .ref v, .ref w]))]) C (c_Web_hasSet l D E h t u n T U (nI k) (by omega)) rd_Web_hasSet m_259 m_260 m_261 rfl rfl (Nat.le_of_ble_eq_true rfl) (Nat.le_of_ble_eq_true rfl) (Nat.le_of_ble_eq_true rfl) (Nat.le_of_ble_eq_true rfl) rfl rfl (Nat.le_of_ble_eq_true rfl) d_AB_defendedBy_5 [1, 2, 3] [0] rfl (by decide) rfl (by decide) (by decide) (fun r5 _ (hr5 : r5 = bI (decide ((nI k) &&& (nI (2 ^ n - 1) ^^^ -1) = 0))) => ?_)
  subst hr5
  refine g_cells (ws' := [(bb, .inr (0, [.ref h, .ref g, .ref li, .ref q, .ref v, .ref w])), (h, .inr (6, [.ref t, .ref u, .int (nI n)])), (t, .inl (E 0, 12, .inl (aN T))), (u, .inl (E 0, 12, .inl (aN U)))]) [0, 1, 2, 3] (by decide) rfl ?_
  refine g_if_eqB (tgt := 22) C d_AB_defendedBy_8 (by decide) (fun b0 => ?_) (fun b0 => ?_)
  · skip
    exact absurd b0 (fun q => set_yes h2n q)
  · skip
    refine g_aload_n C d_AB_defendedBy_11 rfl 0 rfl ?_
    refine g_get C lay_AB 0 rfl rfl 0 (by decide) m_171 rfl d_AB_defendedBy_12 ?_
    refine g_iload_n C d_AB_defendedBy_15 rfl 1 rfl ?_
    refine g_iV (rest := []) (wr := [(bb, .inr (0, [.ref h, .ref g, .ref li, .ref q, .ref v, .ref w]))]) C (c_Web_defendedOf l D E h t u n T U k hn (show k < 2 ^ 31 by have := p12_le hn; omega) hT) rd_Web_defendedOf m_347 m_348 m_349 rfl rfl (Nat.le_of_ble_eq_true rfl) (Nat.le_of_ble_eq_true rfl) (Nat.le_of_ble_eq_true rfl) (Nat.le_of_ble_eq_true rfl) rfl rfl (Nat.le_of_ble_eq_true rfl) d_AB_defendedBy_16 [1, 2, 3] [0] rfl (by decide) rfl (by decide) (by decide) (fun r16 _ (hr16 : r16 = nI (dif (2 ^ n - 1) (tgU T (dif (2 ^ n - 1) (tgU T k n)) n))) => ?_)
    subst hr16
    refine g_cells (ws' := [(bb, .inr (0, [.ref h, .ref g, .ref li, .ref q, .ref v, .ref w])), (h, .inr (6, [.ref t, .ref u, .int (nI n)])), (t, .inl (E 0, 12, .inl (aN T))), (u, .inl (E 0, 12, .inl (aN U)))]) [0, 1, 2, 3] (by decide) rfl ?_
    refine g_goto (tgt := 23) C d_AB_defendedBy_19 (by decide) ?_
    exact g_iret C hrt hlk () (rfl) rfl d_AB_defendedBy_23

set_option maxHeartbeats 4000000 in
set_option maxRecDepth 100000 in
theorem a_defendedByBad (l : Launch) (D : va_G) (E : Nat → ClassId) (bb : Nat) (h : Nat) (g : Nat) (li : Nat) (q : Nat) (v : Nat) (w : Nat) (t : Nat) (u : Nat) (n : Nat) (T : Nat → Nat) (U : Nat → Nat) (x : Int32) (hn : n ≤ 12) (hb : inR x (2 ^ n) = false) : MI l D E y_AB_defendedBy (.code y_AB_defendedBy k_AB_defendedBy 2 (some .int)) ({ frames := 2, cells := 0, slots := 0, locals := 42 } : Room) [.ref bb, .int x] [(bb, .inr (0, [.ref h, .ref g, .ref li, .ref q, .ref v, .ref w])), (h, .inr (6, [.ref t, .ref u, .int (nI n)])), (t, .inl (E 0, 12, .inl (aN T))), (u, .inl (E 0, 12, .inl (aN U)))] (fun (r : Int32) (_ : Unit) => r = (-1)) (fun _ : Unit => [(bb, .inr (0, [.ref h, .ref g, .ref li, .ref q, .ref v, .ref w])), (h, .inr (6, [.ref t, .ref u, .int (nI n)])), (t, .inl (E 0, 12, .inl (aN T))), (u, .inl (E 0, 12, .inl (aN U)))]) := by
  refine MI.of (by decide) (Nat.le_of_ble_eq_true rfl) ?_
  intro p e s m args below meth c A C hrt hlk hnm
  refine g_lv (lv' := [(0, .ref bb), (1, .int x)]) rfl ?_
  refine g_aload_n C d_AB_defendedBy_0 rfl 0 rfl ?_
  refine g_get C lay_AB 0 rfl rfl 0 (by decide) m_171 rfl d_AB_defendedBy_1 ?_
  refine g_iload_n C d_AB_defendedBy_4 rfl 1 rfl ?_
  refine g_iV (rest := []) (wr := [(bb, .inr (0, [.ref h, .ref g, .ref li, .ref q, .ref v, .ref w]))]) C (c_Web_hasSet l D E h t u n T U x (by omega)) rd_Web_hasSet m_259 m_260 m_261 rfl rfl (Nat.le_of_ble_eq_true rfl) (Nat.le_of_ble_eq_true rfl) (Nat.le_of_ble_eq_true rfl) (Nat.le_of_ble_eq_true rfl) rfl rfl (Nat.le_of_ble_eq_true rfl) d_AB_defendedBy_5 [1, 2, 3] [0] rfl (by decide) rfl (by decide) (by decide) (fun r5 _ (hr5 : r5 = bI (decide (x &&& (nI (2 ^ n - 1) ^^^ -1) = 0))) => ?_)
  subst hr5
  refine g_cells (ws' := [(bb, .inr (0, [.ref h, .ref g, .ref li, .ref q, .ref v, .ref w])), (h, .inr (6, [.ref t, .ref u, .int (nI n)])), (t, .inl (E 0, 12, .inl (aN T))), (u, .inl (E 0, 12, .inl (aN U)))]) [0, 1, 2, 3] (by decide) rfl ?_
  refine g_if_eqB (tgt := 22) C d_AB_defendedBy_8 (by decide) (fun b0 => ?_) (fun b0 => ?_)
  · skip
    refine g_iconst (v := (-1)) C d_AB_defendedBy_22 (by decide) ?_
    exact g_iret C hrt hlk () (rfl) rfl d_AB_defendedBy_23
  · skip
    exact absurd b0 (fun q => set_no hn hb q)

set_option maxHeartbeats 4000000 in
set_option maxRecDepth 100000 in
theorem a_grounded (l : Launch) (D : va_G) (E : Nat → ClassId) (bb : Nat) (h : Nat) (g : Nat) (li : Nat) (q : Nat) (v : Nat) (w : Nat) (t : Nat) (u : Nat) (n : Nat) (T : Nat → Nat) (U : Nat → Nat) (qa : Nat) (R : Nat → Nat) (al : Nat) (hn : n ≤ 12) (hT : ∀ a, T a < 4096) : MI l D E y_AB_grounded (.code y_AB_grounded k_AB_grounded 1 (some .int)) ({ frames := 4, cells := 0, slots := 0, locals := 89 } : Room) [.ref bb] [(bb, .inr (0, [.ref h, .ref g, .ref li, .ref q, .ref v, .ref w])), (h, .inr (6, [.ref t, .ref u, .int (nI n)])), (t, .inl (E 0, 12, .inl (aN T))), (u, .inl (E 0, 12, .inl (aN U))), (q, .inr (1, [.ref qa, .int (nI al)])), (qa, .inl (E 0, 12, .inl (aN R)))] (fun (r : Int32) (_ : Unit) => r = nI (gdA T n 12)) (fun _ : Unit => [(bb, .inr (0, [.ref h, .ref g, .ref li, .ref q, .ref v, .ref w])), (h, .inr (6, [.ref t, .ref u, .int (nI n)])), (t, .inl (E 0, 12, .inl (aN T))), (u, .inl (E 0, 12, .inl (aN U))), (q, .inr (1, [.ref qa, .int (nI (gdA T n 12))])), (qa, .inl (E 0, 12, .inl (aN (gdR T n (ovw R (fun _ => 0) 12) 12))))]) := by
  refine MI.of (by decide) (Nat.le_of_ble_eq_true rfl) ?_
  intro p e s m args below meth c A C hrt hlk hnm
  refine g_lv (lv' := [(0, .ref bb)]) rfl ?_
  refine g_aload_n C d_AB_grounded_0 rfl 0 rfl ?_
  refine g_get C lay_AB 0 rfl rfl 3 (by decide) m_174 rfl d_AB_grounded_1 ?_
  refine g_aload_n C d_AB_grounded_4 rfl 0 rfl ?_
  refine g_get C lay_AB 0 rfl rfl 0 (by decide) m_171 rfl d_AB_grounded_5 ?_
  refine g_vV (rest := []) (wr := [(bb, .inr (0, [.ref h, .ref g, .ref li, .ref q, .ref v, .ref w]))]) C (c_Gr_settle l D E q qa R al h t u n T U hn hT) rd_Grounds_settle m_356 m_357 m_358 rfl rfl (Nat.le_of_ble_eq_true rfl) (Nat.le_of_ble_eq_true rfl) (Nat.le_of_ble_eq_true rfl) (Nat.le_of_ble_eq_true rfl) rfl rfl (Nat.le_of_ble_eq_true rfl) d_AB_grounded_8 [4, 5, 1, 2, 3] [0] rfl (by decide) rfl (by decide) (by decide) (fun _ _ => ?_)
  refine g_cells (ws' := [(bb, .inr (0, [.ref h, .ref g, .ref li, .ref q, .ref v, .ref w])), (h, .inr (6, [.ref t, .ref u, .int (nI n)])), (t, .inl (E 0, 12, .inl (aN T))), (u, .inl (E 0, 12, .inl (aN U))), (q, .inr (1, [.ref qa, .int (nI (gdA T n 12))])), (qa, .inl (E 0, 12, .inl (aN (gdR T n (ovw R (fun _ => 0) 12) 12))))]) [0, 3, 4, 5, 1, 2] (by decide) rfl ?_
  refine g_aload_n C d_AB_grounded_11 rfl 0 rfl ?_
  refine g_get C lay_AB 0 rfl rfl 3 (by decide) m_174 rfl d_AB_grounded_12 ?_
  refine g_iV (rest := []) (wr := [(bb, .inr (0, [.ref h, .ref g, .ref li, .ref q, .ref v, .ref w])), (h, .inr (6, [.ref t, .ref u, .int (nI n)])), (t, .inl (E 0, 12, .inl (aN T))), (u, .inl (E 0, 12, .inl (aN U)))]) C (c_Gr_all l D E q qa (gdR T n (ovw R (fun _ => 0) 12) 12) (gdA T n 12) ) rd_Grounds_all m_366 m_367 m_368 rfl rfl (Nat.le_of_ble_eq_true rfl) (Nat.le_of_ble_eq_true rfl) (Nat.le_of_ble_eq_true rfl) (Nat.le_of_ble_eq_true rfl) rfl rfl (Nat.le_of_ble_eq_true rfl) d_AB_grounded_15 [4, 5] [0, 1, 2, 3] rfl (by decide) rfl (by decide) (by decide) (fun r15 _ (hr15 : r15 = nI (gdA T n 12)) => ?_)
  subst hr15
  refine g_cells (ws' := [(bb, .inr (0, [.ref h, .ref g, .ref li, .ref q, .ref v, .ref w])), (h, .inr (6, [.ref t, .ref u, .int (nI n)])), (t, .inl (E 0, 12, .inl (aN T))), (u, .inl (E 0, 12, .inl (aN U))), (q, .inr (1, [.ref qa, .int (nI (gdA T n 12))])), (qa, .inl (E 0, 12, .inl (aN (gdR T n (ovw R (fun _ => 0) 12) 12))))]) [0, 1, 2, 3, 4, 5] (by decide) rfl ?_
  exact g_iret C hrt hlk () (rfl) rfl d_AB_grounded_18

set_option maxHeartbeats 4000000 in
set_option maxRecDepth 100000 in
theorem a_round (l : Launch) (D : va_G) (E : Nat → ClassId) (bb : Nat) (h : Nat) (g : Nat) (li : Nat) (q : Nat) (v : Nat) (w : Nat) (t : Nat) (u : Nat) (n : Nat) (T : Nat → Nat) (U : Nat → Nat) (qa : Nat) (R : Nat → Nat) (al : Nat) (i : Nat) (hn : n ≤ 12) (hT : ∀ a, T a < 4096) (hi : i < n) : MI l D E y_AB_round (.code y_AB_round k_AB_round 2 (some .int)) ({ frames := 4, cells := 0, slots := 0, locals := 89 } : Room) [.ref bb, .int (nI i)] [(bb, .inr (0, [.ref h, .ref g, .ref li, .ref q, .ref v, .ref w])), (h, .inr (6, [.ref t, .ref u, .int (nI n)])), (t, .inl (E 0, 12, .inl (aN T))), (u, .inl (E 0, 12, .inl (aN U))), (q, .inr (1, [.ref qa, .int (nI al)])), (qa, .inl (E 0, 12, .inl (aN R)))] (fun (r : Int32) (_ : Unit) => r = nI (gdR T n (ovw R (fun _ => 0) 12) 12 i)) (fun _ : Unit => [(bb, .inr (0, [.ref h, .ref g, .ref li, .ref q, .ref v, .ref w])), (h, .inr (6, [.ref t, .ref u, .int (nI n)])), (t, .inl (E 0, 12, .inl (aN T))), (u, .inl (E 0, 12, .inl (aN U))), (q, .inr (1, [.ref qa, .int (nI (gdA T n 12))])), (qa, .inl (E 0, 12, .inl (aN (gdR T n (ovw R (fun _ => 0) 12) 12))))]) := by
  refine MI.of (by decide) (Nat.le_of_ble_eq_true rfl) ?_
  intro p e s m args below meth c A C hrt hlk hnm
  refine g_lv (lv' := [(0, .ref bb), (1, .int (nI i))]) rfl ?_
  refine g_aload_n C d_AB_round_0 rfl 0 rfl ?_
  refine g_get C lay_AB 0 rfl rfl 0 (by decide) m_171 rfl d_AB_round_1 ?_
  refine g_iload_n C d_AB_round_4 rfl 1 rfl ?_
  refine g_iV (rest := []) (wr := [(bb, .inr (0, [.ref h, .ref g, .ref li, .ref q, .ref v, .ref w])), (q, .inr (1, [.ref qa, .int (nI al)])), (qa, .inl (E 0, 12, .inl (aN R)))]) C (c_Web_has l D E h t u n T U (nI i) ) rd_Web_has m_219 m_220 m_221 rfl rfl (Nat.le_of_ble_eq_true rfl) (Nat.le_of_ble_eq_true rfl) (Nat.le_of_ble_eq_true rfl) (Nat.le_of_ble_eq_true rfl) rfl rfl (Nat.le_of_ble_eq_true rfl) d_AB_round_5 [1, 2, 3] [0, 4, 5] rfl (by decide) rfl (by decide) (by decide) (fun r5 _ (hr5 : r5 = bI (inR (nI i) n)) => ?_)
  subst hr5
  refine g_cells (ws' := [(bb, .inr (0, [.ref h, .ref g, .ref li, .ref q, .ref v, .ref w])), (h, .inr (6, [.ref t, .ref u, .int (nI n)])), (t, .inl (E 0, 12, .inl (aN T))), (u, .inl (E 0, 12, .inl (aN U))), (q, .inr (1, [.ref qa, .int (nI al)])), (qa, .inl (E 0, 12, .inl (aN R)))]) [0, 3, 4, 5, 1, 2] (by decide) rfl ?_
  refine g_if_neB (tgt := 13) C d_AB_round_8 (by decide) (fun b0 => ?_) (fun b0 => ?_)
  · skip
    refine g_aload_n C d_AB_round_13 rfl 0 rfl ?_
    refine g_get C lay_AB 0 rfl rfl 3 (by decide) m_174 rfl d_AB_round_14 ?_
    refine g_aload_n C d_AB_round_17 rfl 0 rfl ?_
    refine g_get C lay_AB 0 rfl rfl 0 (by decide) m_171 rfl d_AB_round_18 ?_
    refine g_vV (rest := []) (wr := [(bb, .inr (0, [.ref h, .ref g, .ref li, .ref q, .ref v, .ref w]))]) C (c_Gr_settle l D E q qa R al h t u n T U hn hT) rd_Grounds_settle m_356 m_357 m_358 rfl rfl (Nat.le_of_ble_eq_true rfl) (Nat.le_of_ble_eq_true rfl) (Nat.le_of_ble_eq_true rfl) (Nat.le_of_ble_eq_true rfl) rfl rfl (Nat.le_of_ble_eq_true rfl) d_AB_round_21 [4, 5, 1, 2, 3] [0] rfl (by decide) rfl (by decide) (by decide) (fun _ _ => ?_)
    refine g_cells (ws' := [(bb, .inr (0, [.ref h, .ref g, .ref li, .ref q, .ref v, .ref w])), (h, .inr (6, [.ref t, .ref u, .int (nI n)])), (t, .inl (E 0, 12, .inl (aN T))), (u, .inl (E 0, 12, .inl (aN U))), (q, .inr (1, [.ref qa, .int (nI (gdA T n 12))])), (qa, .inl (E 0, 12, .inl (aN (gdR T n (ovw R (fun _ => 0) 12) 12))))]) [0, 3, 4, 5, 1, 2] (by decide) rfl ?_
    refine g_aload_n C d_AB_round_24 rfl 0 rfl ?_
    refine g_get C lay_AB 0 rfl rfl 3 (by decide) m_174 rfl d_AB_round_25 ?_
    refine g_iload_n C d_AB_round_28 rfl 1 rfl ?_
    refine g_iV (rest := []) (wr := [(bb, .inr (0, [.ref h, .ref g, .ref li, .ref q, .ref v, .ref w])), (h, .inr (6, [.ref t, .ref u, .int (nI n)])), (t, .inl (E 0, 12, .inl (aN T))), (u, .inl (E 0, 12, .inl (aN U)))]) C (c_Gr_roundOf l D E q qa (gdR T n (ovw R (fun _ => 0) 12) 12) (gdA T n 12) i (by omega)) rd_Grounds_roundOf m_374 m_375 m_376 rfl rfl (Nat.le_of_ble_eq_true rfl) (Nat.le_of_ble_eq_true rfl) (Nat.le_of_ble_eq_true rfl) (Nat.le_of_ble_eq_true rfl) rfl rfl (Nat.le_of_ble_eq_true rfl) d_AB_round_29 [4, 5] [0, 1, 2, 3] rfl (by decide) rfl (by decide) (by decide) (fun r29 _ (hr29 : r29 = nI ((gdR T n (ovw R (fun _ => 0) 12) 12) i)) => ?_)
    subst hr29
    refine g_cells (ws' := [(bb, .inr (0, [.ref h, .ref g, .ref li, .ref q, .ref v, .ref w])), (h, .inr (6, [.ref t, .ref u, .int (nI n)])), (t, .inl (E 0, 12, .inl (aN T))), (u, .inl (E 0, 12, .inl (aN U))), (q, .inr (1, [.ref qa, .int (nI (gdA T n 12))])), (qa, .inl (E 0, 12, .inl (aN (gdR T n (ovw R (fun _ => 0) 12) 12))))]) [0, 1, 2, 3, 4, 5] (by decide) rfl ?_
    exact g_iret C hrt hlk () (rfl) rfl d_AB_round_32
  · skip
    rw [inR_nI (by omega) (by omega)] at b0; simp at b0; omega

set_option maxHeartbeats 4000000 in
set_option maxRecDepth 100000 in
theorem a_roundBad (l : Launch) (D : va_G) (E : Nat → ClassId) (bb : Nat) (h : Nat) (g : Nat) (li : Nat) (q : Nat) (v : Nat) (w : Nat) (t : Nat) (u : Nat) (n : Nat) (T : Nat → Nat) (U : Nat → Nat) (qa : Nat) (R : Nat → Nat) (al : Nat) (x : Int32) (hb : inR x n = false) : MI l D E y_AB_round (.code y_AB_round k_AB_round 2 (some .int)) ({ frames := 1, cells := 0, slots := 0, locals := 21 } : Room) [.ref bb, .int x] [(bb, .inr (0, [.ref h, .ref g, .ref li, .ref q, .ref v, .ref w])), (h, .inr (6, [.ref t, .ref u, .int (nI n)])), (t, .inl (E 0, 12, .inl (aN T))), (u, .inl (E 0, 12, .inl (aN U))), (q, .inr (1, [.ref qa, .int (nI al)])), (qa, .inl (E 0, 12, .inl (aN R)))] (fun (r : Int32) (_ : Unit) => r = nI 0) (fun _ : Unit => [(bb, .inr (0, [.ref h, .ref g, .ref li, .ref q, .ref v, .ref w])), (h, .inr (6, [.ref t, .ref u, .int (nI n)])), (t, .inl (E 0, 12, .inl (aN T))), (u, .inl (E 0, 12, .inl (aN U))), (q, .inr (1, [.ref qa, .int (nI al)])), (qa, .inl (E 0, 12, .inl (aN R)))]) := by
  refine MI.of (by decide) (Nat.le_of_ble_eq_true rfl) ?_
  intro p e s m args below meth c A C hrt hlk hnm
  refine g_lv (lv' := [(0, .ref bb), (1, .int x)]) rfl ?_
  refine g_aload_n C d_AB_round_0 rfl 0 rfl ?_
  refine g_get C lay_AB 0 rfl rfl 0 (by decide) m_171 rfl d_AB_round_1 ?_
  refine g_iload_n C d_AB_round_4 rfl 1 rfl ?_
  refine g_iV (rest := []) (wr := [(bb, .inr (0, [.ref h, .ref g, .ref li, .ref q, .ref v, .ref w])), (q, .inr (1, [.ref qa, .int (nI al)])), (qa, .inl (E 0, 12, .inl (aN R)))]) C (c_Web_has l D E h t u n T U x ) rd_Web_has m_219 m_220 m_221 rfl rfl (Nat.le_of_ble_eq_true rfl) (Nat.le_of_ble_eq_true rfl) (Nat.le_of_ble_eq_true rfl) (Nat.le_of_ble_eq_true rfl) rfl rfl (Nat.le_of_ble_eq_true rfl) d_AB_round_5 [1, 2, 3] [0, 4, 5] rfl (by decide) rfl (by decide) (by decide) (fun r5 _ (hr5 : r5 = bI (inR x n)) => ?_)
  subst hr5
  refine g_cells (ws' := [(bb, .inr (0, [.ref h, .ref g, .ref li, .ref q, .ref v, .ref w])), (h, .inr (6, [.ref t, .ref u, .int (nI n)])), (t, .inl (E 0, 12, .inl (aN T))), (u, .inl (E 0, 12, .inl (aN U))), (q, .inr (1, [.ref qa, .int (nI al)])), (qa, .inl (E 0, 12, .inl (aN R)))]) [0, 3, 4, 5, 1, 2] (by decide) rfl ?_
  refine g_if_neB (tgt := 13) C d_AB_round_8 (by decide) (fun b0 => ?_) (fun b0 => ?_)
  · skip
    rw [hb] at b0; cases b0
  · skip
    refine g_iconst (v := nI 0) C d_AB_round_11 (by decide) ?_
    exact g_iret C hrt hlk () (rfl) rfl d_AB_round_12

set_option maxHeartbeats 4000000 in
set_option maxRecDepth 100000 in
theorem a_ideal (l : Launch) (D : va_G) (E : Nat → ClassId) (bb : Nat) (h : Nat) (g : Nat) (li : Nat) (q : Nat) (v : Nat) (w : Nat) (t : Nat) (u : Nat) (n : Nat) (T : Nat → Nat) (U : Nat → Nat) (ga : Nat) (gb : Nat) (gc : Nat) (TS : Nat → Nat) (M : Nat → Nat) (P : Nat → Nat) (tc : Nat) (ev : Nat) (kn : Bool) (hn : n ≤ 12) (hT : ∀ a, T a < 4096) (hTS : ∀ a, TS a < 4096) (hev : ev < 4096) : MI l D E y_AB_ideal (.code y_AB_ideal k_AB_ideal 1 (some .int)) ({ frames := 5, cells := 0, slots := 0, locals := 108 } : Room) [.ref bb] [(bb, .inr (0, [.ref h, .ref g, .ref li, .ref q, .ref v, .ref w])), (h, .inr (6, [.ref t, .ref u, .int (nI n)])), (t, .inl (E 0, 12, .inl (aN T))), (u, .inl (E 0, 12, .inl (aN U))), (g, .inr (4, [.ref ga, .ref gb, .ref gc, .int (nI tc), .int (nI ev), .int (bI kn)])), (ga, .inl (E 0, 4096, .inl (aN TS))), (gb, .inl (E 0, 4096, .inl (aN M))), (gc, .inl (E 0, 924, .inl (aN P)))] (fun (r : Int32) (_ : Unit) => r = nI (joiM (lnM kn T n TS M P) 4 (metM (lnM kn T n TS M P) 1 (lnEv kn n ev) (lnEv kn n ev + 1)) (lnEv kn n ev + 1))) (fun _ : Unit => [(bb, .inr (0, [.ref h, .ref g, .ref li, .ref q, .ref v, .ref w])), (h, .inr (6, [.ref t, .ref u, .int (nI n)])), (t, .inl (E 0, 12, .inl (aN T))), (u, .inl (E 0, 12, .inl (aN U))), (g, .inr (4, [.ref ga, .ref gb, .ref gc, .int (nI (lnC kn T n TS M P tc)), .int (nI (lnEv kn n ev)), .int (bI true)])), (ga, .inl (E 0, 4096, .inl (aN (lnTS kn T n TS)))), (gb, .inl (E 0, 4096, .inl (aN (lnM kn T n TS M P)))), (gc, .inl (E 0, 924, .inl (aN (lnP kn T n TS M P))))]) := by
  refine MI.of (by decide) (Nat.le_of_ble_eq_true rfl) ?_
  intro p e s m args below meth c A C hrt hlk hnm
  refine g_lv (lv' := [(0, .ref bb)]) rfl ?_
  refine g_aload_n C d_AB_ideal_0 rfl 0 rfl ?_
  refine g_get C lay_AB 0 rfl rfl 1 (by decide) m_172 rfl d_AB_ideal_1 ?_
  refine g_aload_n C d_AB_ideal_4 rfl 0 rfl ?_
  refine g_get C lay_AB 0 rfl rfl 0 (by decide) m_171 rfl d_AB_ideal_5 ?_
  refine g_vV (rest := []) (wr := [(bb, .inr (0, [.ref h, .ref g, .ref li, .ref q, .ref v, .ref w]))]) C (c_Se_learn l D E g ga gb gc TS M P tc ev kn h t u n T U hn hT hTS (by omega)) rd_Senses_learn m_281 m_282 m_283 rfl rfl (Nat.le_of_ble_eq_true rfl) (Nat.le_of_ble_eq_true rfl) (Nat.le_of_ble_eq_true rfl) (Nat.le_of_ble_eq_true rfl) rfl rfl (Nat.le_of_ble_eq_true rfl) d_AB_ideal_8 [4, 5, 6, 7, 1, 2, 3] [0] rfl (by decide) rfl (by decide) (by decide) (fun _ _ => ?_)
  refine g_cells (ws' := [(bb, .inr (0, [.ref h, .ref g, .ref li, .ref q, .ref v, .ref w])), (h, .inr (6, [.ref t, .ref u, .int (nI n)])), (t, .inl (E 0, 12, .inl (aN T))), (u, .inl (E 0, 12, .inl (aN U))), (g, .inr (4, [.ref ga, .ref gb, .ref gc, .int (nI (lnC kn T n TS M P tc)), .int (nI (lnEv kn n ev)), .int (bI true)])), (ga, .inl (E 0, 4096, .inl (aN (lnTS kn T n TS)))), (gb, .inl (E 0, 4096, .inl (aN (lnM kn T n TS M P)))), (gc, .inl (E 0, 924, .inl (aN (lnP kn T n TS M P))))]) [0, 5, 6, 7, 1, 2, 3, 4] (by decide) rfl ?_
  refine g_aload_n C d_AB_ideal_11 rfl 0 rfl ?_
  refine g_get C lay_AB 0 rfl rfl 1 (by decide) m_172 rfl d_AB_ideal_12 ?_
  refine g_iconst (v := nI 4) C d_AB_ideal_15 (by decide) ?_
  refine g_aload_n C d_AB_ideal_16 rfl 0 rfl ?_
  refine g_get C lay_AB 0 rfl rfl 1 (by decide) m_172 rfl d_AB_ideal_17 ?_
  refine g_iconst (v := nI 1) C d_AB_ideal_20 (by decide) ?_
  refine g_iV (rest := [.int (nI 4), .ref g]) (wr := [(bb, .inr (0, [.ref h, .ref g, .ref li, .ref q, .ref v, .ref w])), (h, .inr (6, [.ref t, .ref u, .int (nI n)])), (t, .inl (E 0, 12, .inl (aN T))), (u, .inl (E 0, 12, .inl (aN U)))]) C (c_Se_meet l D E g ga gb gc (lnTS kn T n TS) (lnM kn T n TS M P) (lnP kn T n TS M P) (lnC kn T n TS M P tc) (lnEv kn n ev) true 1 (lnEv_lt hn hev) (by decide)) rd_Senses_meet m_382 m_383 m_384 rfl rfl (Nat.le_of_ble_eq_true rfl) (Nat.le_of_ble_eq_true rfl) (Nat.le_of_ble_eq_true rfl) (Nat.le_of_ble_eq_true rfl) rfl rfl (Nat.le_of_ble_eq_true rfl) d_AB_ideal_21 [4, 5, 6, 7] [0, 1, 2, 3] rfl (by decide) rfl (by decide) (by decide) (fun r21 _ (hr21 : r21 = nI (metM (lnM kn T n TS M P) 1 (lnEv kn n ev) ((lnEv kn n ev) + 1))) => ?_)
  subst hr21
  refine g_cells (ws' := [(bb, .inr (0, [.ref h, .ref g, .ref li, .ref q, .ref v, .ref w])), (h, .inr (6, [.ref t, .ref u, .int (nI n)])), (t, .inl (E 0, 12, .inl (aN T))), (u, .inl (E 0, 12, .inl (aN U))), (g, .inr (4, [.ref ga, .ref gb, .ref gc, .int (nI (lnC kn T n TS M P tc)), .int (nI (lnEv kn n ev)), .int (bI true)])), (ga, .inl (E 0, 4096, .inl (aN (lnTS kn T n TS)))), (gb, .inl (E 0, 4096, .inl (aN (lnM kn T n TS M P)))), (gc, .inl (E 0, 924, .inl (aN (lnP kn T n TS M P))))]) [0, 1, 2, 3, 4, 5, 6, 7] (by decide) rfl ?_
  refine g_iV (rest := []) (wr := [(bb, .inr (0, [.ref h, .ref g, .ref li, .ref q, .ref v, .ref w])), (h, .inr (6, [.ref t, .ref u, .int (nI n)])), (t, .inl (E 0, 12, .inl (aN T))), (u, .inl (E 0, 12, .inl (aN U)))]) C (c_Se_joinWithin l D E g ga gb gc (lnTS kn T n TS) (lnM kn T n TS M P) (lnP kn T n TS M P) (lnC kn T n TS M P tc) (lnEv kn n ev) true 4 (metM (lnM kn T n TS M P) 1 (lnEv kn n ev) ((lnEv kn n ev) + 1)) (lnEv_lt hn hev) (by decide)) rd_Senses_joinWithin m_387 m_388 m_389 rfl rfl (Nat.le_of_ble_eq_true rfl) (Nat.le_of_ble_eq_true rfl) (Nat.le_of_ble_eq_true rfl) (Nat.le_of_ble_eq_true rfl) rfl rfl (Nat.le_of_ble_eq_true rfl) d_AB_ideal_24 [4, 5, 6, 7] [0, 1, 2, 3] rfl (by decide) rfl (by decide) (by decide) (fun r24 _ (hr24 : r24 = nI (joiM (lnM kn T n TS M P) 4 (metM (lnM kn T n TS M P) 1 (lnEv kn n ev) ((lnEv kn n ev) + 1)) ((lnEv kn n ev) + 1))) => ?_)
  subst hr24
  refine g_cells (ws' := [(bb, .inr (0, [.ref h, .ref g, .ref li, .ref q, .ref v, .ref w])), (h, .inr (6, [.ref t, .ref u, .int (nI n)])), (t, .inl (E 0, 12, .inl (aN T))), (u, .inl (E 0, 12, .inl (aN U))), (g, .inr (4, [.ref ga, .ref gb, .ref gc, .int (nI (lnC kn T n TS M P tc)), .int (nI (lnEv kn n ev)), .int (bI true)])), (ga, .inl (E 0, 4096, .inl (aN (lnTS kn T n TS)))), (gb, .inl (E 0, 4096, .inl (aN (lnM kn T n TS M P)))), (gc, .inl (E 0, 924, .inl (aN (lnP kn T n TS M P))))]) [0, 1, 2, 3, 4, 5, 6, 7] (by decide) rfl ?_
  exact g_iret C hrt hlk () (rfl) rfl d_AB_ideal_27

set_option maxHeartbeats 4000000 in
set_option maxRecDepth 100000 in
theorem a_move (l : Launch) (D : va_G) (E : Nat → ClassId) (bb : Nat) (h : Nat) (g : Nat) (li : Nat) (q : Nat) (v : Nat) (w : Nat) (va : Nat) (vb : Nat) (vc : Nat) (Sa : Nat → Nat) (An : Nat → Int32) (Sd : Nat → Nat) (z : Nat) (tl : Bool) (x : Int32) (y : Int32) (hz : z ≤ 500) : MI l D E y_AB_move (.code y_AB_move k_AB_move 3 (some .int)) ({ frames := 1, cells := 0, slots := 0, locals := 22 } : Room) [.ref bb, .int x, .int y] [(bb, .inr (0, [.ref h, .ref g, .ref li, .ref q, .ref v, .ref w])), (v, .inr (5, [.ref va, .ref vb, .ref vc, .int (nI z), .int (bI tl)])), (va, .inl (E 0, 500, .inl (aN Sa))), (vb, .inl (E 0, 500, .inl An)), (vc, .inl (E 0, 500, .inl (aN Sd)))] (fun (r : Int32) (_ : Unit) => r = tellF z Sa An Sd x y) (fun _ : Unit => [(bb, .inr (0, [.ref h, .ref g, .ref li, .ref q, .ref v, .ref w])), (v, .inr (5, [.ref va, .ref vb, .ref vc, .int (nI z), .int (bI tl)])), (va, .inl (E 0, 500, .inl (aN Sa))), (vb, .inl (E 0, 500, .inl An)), (vc, .inl (E 0, 500, .inl (aN Sd)))]) := by
  refine MI.of (by decide) (Nat.le_of_ble_eq_true rfl) ?_
  intro p e s m args below meth c A C hrt hlk hnm
  refine g_lv (lv' := [(0, .ref bb), (1, .int x), (2, .int y)]) rfl ?_
  refine g_aload_n C d_AB_move_0 rfl 0 rfl ?_
  refine g_get C lay_AB 0 rfl rfl 4 (by decide) m_175 rfl d_AB_move_1 ?_
  refine g_iload_n C d_AB_move_4 rfl 1 rfl ?_
  refine g_iload_n C d_AB_move_5 rfl 2 rfl ?_
  refine g_iV (rest := []) (wr := [(bb, .inr (0, [.ref h, .ref g, .ref li, .ref q, .ref v, .ref w]))]) C (c_Tk_tell l D E v va vb vc Sa An Sd z tl x y (by omega)) rd_Talk_tell m_395 m_396 m_397 rfl rfl (Nat.le_of_ble_eq_true rfl) (Nat.le_of_ble_eq_true rfl) (Nat.le_of_ble_eq_true rfl) (Nat.le_of_ble_eq_true rfl) rfl rfl (Nat.le_of_ble_eq_true rfl) d_AB_move_6 [1, 2, 3, 4] [0] rfl (by decide) rfl (by decide) (by decide) (fun r6 _ (hr6 : r6 = tellF z Sa An Sd x y) => ?_)
  subst hr6
  refine g_cells (ws' := [(bb, .inr (0, [.ref h, .ref g, .ref li, .ref q, .ref v, .ref w])), (v, .inr (5, [.ref va, .ref vb, .ref vc, .int (nI z), .int (bI tl)])), (va, .inl (E 0, 500, .inl (aN Sa))), (vb, .inl (E 0, 500, .inl An)), (vc, .inl (E 0, 500, .inl (aN Sd)))]) [0, 1, 2, 3, 4] (by decide) rfl ?_
  exact g_iret C hrt hlk () (rfl) rfl d_AB_move_9

set_option maxHeartbeats 4000000 in
set_option maxRecDepth 100000 in
theorem a_circle (l : Launch) (D : va_G) (E : Nat → ClassId) (bb : Nat) (h : Nat) (g : Nat) (li : Nat) (q : Nat) (v : Nat) (w : Nat) (t : Nat) (u : Nat) (n : Nat) (T : Nat → Nat) (U : Nat → Nat) (wa : Nat) (wb : Nat) (X : Nat → Nat) (Y : Nat → Nat) (rz : Nat) (i : Nat) (hn : n ≤ 12) (hT : ∀ a, T a < 4096) (hU : ∀ a, U a < 4096) (hi : i < n) : MI l D E y_AB_circle (.code y_AB_circle k_AB_circle 2 (some .int)) ({ frames := 5, cells := 0, slots := 0, locals := 115 } : Room) [.ref bb, .int (nI i)] [(bb, .inr (0, [.ref h, .ref g, .ref li, .ref q, .ref v, .ref w])), (h, .inr (6, [.ref t, .ref u, .int (nI n)])), (t, .inl (E 0, 12, .inl (aN T))), (u, .inl (E 0, 12, .inl (aN U))), (w, .inr (3, [.ref wa, .ref wb, .int (nI rz)])), (wa, .inl (E 0, 12, .inl (aN X))), (wb, .inl (E 0, 12, .inl (aN Y)))] (fun (r : Int32) (_ : Unit) => r = nI ((fnd (rcX T n X) U n Y n).1 i)) (fun _ : Unit => [(bb, .inr (0, [.ref h, .ref g, .ref li, .ref q, .ref v, .ref w])), (h, .inr (6, [.ref t, .ref u, .int (nI n)])), (t, .inl (E 0, 12, .inl (aN T))), (u, .inl (E 0, 12, .inl (aN U))), (w, .inr (3, [.ref wa, .ref wb, .int (nI ((fnd (rcX T n X) U n Y n).2.1))])), (wa, .inl (E 0, 12, .inl (aN (rcX T n X)))), (wb, .inl (E 0, 12, .inl (aN ((fnd (rcX T n X) U n Y n).1))))]) := by
  refine MI.of (by decide) (Nat.le_of_ble_eq_true rfl) ?_
  intro p e s m args below meth c A C hrt hlk hnm
  refine g_lv (lv' := [(0, .ref bb), (1, .int (nI i))]) rfl ?_
  refine g_aload_n C d_AB_circle_0 rfl 0 rfl ?_
  refine g_get C lay_AB 0 rfl rfl 0 (by decide) m_171 rfl d_AB_circle_1 ?_
  refine g_iload_n C d_AB_circle_4 rfl 1 rfl ?_
  refine g_iV (rest := []) (wr := [(bb, .inr (0, [.ref h, .ref g, .ref li, .ref q, .ref v, .ref w])), (w, .inr (3, [.ref wa, .ref wb, .int (nI rz)])), (wa, .inl (E 0, 12, .inl (aN X))), (wb, .inl (E 0, 12, .inl (aN Y)))]) C (c_Web_has l D E h t u n T U (nI i) ) rd_Web_has m_219 m_220 m_221 rfl rfl (Nat.le_of_ble_eq_true rfl) (Nat.le_of_ble_eq_true rfl) (Nat.le_of_ble_eq_true rfl) (Nat.le_of_ble_eq_true rfl) rfl rfl (Nat.le_of_ble_eq_true rfl) d_AB_circle_5 [1, 2, 3] [0, 4, 5, 6] rfl (by decide) rfl (by decide) (by decide) (fun r5 _ (hr5 : r5 = bI (inR (nI i) n)) => ?_)
  subst hr5
  refine g_cells (ws' := [(bb, .inr (0, [.ref h, .ref g, .ref li, .ref q, .ref v, .ref w])), (h, .inr (6, [.ref t, .ref u, .int (nI n)])), (t, .inl (E 0, 12, .inl (aN T))), (u, .inl (E 0, 12, .inl (aN U))), (w, .inr (3, [.ref wa, .ref wb, .int (nI rz)])), (wa, .inl (E 0, 12, .inl (aN X))), (wb, .inl (E 0, 12, .inl (aN Y)))]) [0, 4, 5, 6, 1, 2, 3] (by decide) rfl ?_
  refine g_if_neB (tgt := 13) C d_AB_circle_8 (by decide) (fun b0 => ?_) (fun b0 => ?_)
  · skip
    refine g_aload_n C d_AB_circle_13 rfl 0 rfl ?_
    refine g_get C lay_AB 0 rfl rfl 5 (by decide) m_176 rfl d_AB_circle_14 ?_
    refine g_aload_n C d_AB_circle_17 rfl 0 rfl ?_
    refine g_get C lay_AB 0 rfl rfl 0 (by decide) m_171 rfl d_AB_circle_18 ?_
    refine g_vV (rest := []) (wr := [(bb, .inr (0, [.ref h, .ref g, .ref li, .ref q, .ref v, .ref w]))]) C (c_Ri_find l D E w wa wb X Y rz h t u n T U hn hT hU) rd_Rings_find m_403 m_404 m_405 rfl rfl (Nat.le_of_ble_eq_true rfl) (Nat.le_of_ble_eq_true rfl) (Nat.le_of_ble_eq_true rfl) (Nat.le_of_ble_eq_true rfl) rfl rfl (Nat.le_of_ble_eq_true rfl) d_AB_circle_21 [4, 5, 6, 1, 2, 3] [0] rfl (by decide) rfl (by decide) (by decide) (fun _ _ => ?_)
    refine g_cells (ws' := [(bb, .inr (0, [.ref h, .ref g, .ref li, .ref q, .ref v, .ref w])), (h, .inr (6, [.ref t, .ref u, .int (nI n)])), (t, .inl (E 0, 12, .inl (aN T))), (u, .inl (E 0, 12, .inl (aN U))), (w, .inr (3, [.ref wa, .ref wb, .int (nI ((fnd (rcX T n X) U n Y n).2.1))])), (wa, .inl (E 0, 12, .inl (aN (rcX T n X)))), (wb, .inl (E 0, 12, .inl (aN ((fnd (rcX T n X) U n Y n).1))))]) [0, 4, 5, 6, 1, 2, 3] (by decide) rfl ?_
    refine g_aload_n C d_AB_circle_24 rfl 0 rfl ?_
    refine g_get C lay_AB 0 rfl rfl 5 (by decide) m_176 rfl d_AB_circle_25 ?_
    refine g_iload_n C d_AB_circle_28 rfl 1 rfl ?_
    refine g_iV (rest := []) (wr := [(bb, .inr (0, [.ref h, .ref g, .ref li, .ref q, .ref v, .ref w])), (h, .inr (6, [.ref t, .ref u, .int (nI n)])), (t, .inl (E 0, 12, .inl (aN T))), (u, .inl (E 0, 12, .inl (aN U)))]) C (c_Ri_ringOf l D E w wa wb (rcX T n X) ((fnd (rcX T n X) U n Y n).1) ((fnd (rcX T n X) U n Y n).2.1) i (by omega)) rd_Rings_ringOf m_435 m_436 m_437 rfl rfl (Nat.le_of_ble_eq_true rfl) (Nat.le_of_ble_eq_true rfl) (Nat.le_of_ble_eq_true rfl) (Nat.le_of_ble_eq_true rfl) rfl rfl (Nat.le_of_ble_eq_true rfl) d_AB_circle_29 [4, 5, 6] [0, 1, 2, 3] rfl (by decide) rfl (by decide) (by decide) (fun r29 _ (hr29 : r29 = nI (((fnd (rcX T n X) U n Y n).1) i)) => ?_)
    subst hr29
    refine g_cells (ws' := [(bb, .inr (0, [.ref h, .ref g, .ref li, .ref q, .ref v, .ref w])), (h, .inr (6, [.ref t, .ref u, .int (nI n)])), (t, .inl (E 0, 12, .inl (aN T))), (u, .inl (E 0, 12, .inl (aN U))), (w, .inr (3, [.ref wa, .ref wb, .int (nI ((fnd (rcX T n X) U n Y n).2.1))])), (wa, .inl (E 0, 12, .inl (aN (rcX T n X)))), (wb, .inl (E 0, 12, .inl (aN ((fnd (rcX T n X) U n Y n).1))))]) [0, 1, 2, 3, 4, 5, 6] (by decide) rfl ?_
    exact g_iret C hrt hlk () (rfl) rfl d_AB_circle_32
  · skip
    rw [inR_nI (by omega) (by omega)] at b0; simp at b0; omega

set_option maxHeartbeats 4000000 in
set_option maxRecDepth 100000 in
theorem a_circleBad (l : Launch) (D : va_G) (E : Nat → ClassId) (bb : Nat) (h : Nat) (g : Nat) (li : Nat) (q : Nat) (v : Nat) (w : Nat) (t : Nat) (u : Nat) (n : Nat) (T : Nat → Nat) (U : Nat → Nat) (wa : Nat) (wb : Nat) (X : Nat → Nat) (Y : Nat → Nat) (rz : Nat) (x : Int32) (hb : inR x n = false) : MI l D E y_AB_circle (.code y_AB_circle k_AB_circle 2 (some .int)) ({ frames := 1, cells := 0, slots := 0, locals := 21 } : Room) [.ref bb, .int x] [(bb, .inr (0, [.ref h, .ref g, .ref li, .ref q, .ref v, .ref w])), (h, .inr (6, [.ref t, .ref u, .int (nI n)])), (t, .inl (E 0, 12, .inl (aN T))), (u, .inl (E 0, 12, .inl (aN U))), (w, .inr (3, [.ref wa, .ref wb, .int (nI rz)])), (wa, .inl (E 0, 12, .inl (aN X))), (wb, .inl (E 0, 12, .inl (aN Y)))] (fun (r : Int32) (_ : Unit) => r = (-1)) (fun _ : Unit => [(bb, .inr (0, [.ref h, .ref g, .ref li, .ref q, .ref v, .ref w])), (h, .inr (6, [.ref t, .ref u, .int (nI n)])), (t, .inl (E 0, 12, .inl (aN T))), (u, .inl (E 0, 12, .inl (aN U))), (w, .inr (3, [.ref wa, .ref wb, .int (nI rz)])), (wa, .inl (E 0, 12, .inl (aN X))), (wb, .inl (E 0, 12, .inl (aN Y)))]) := by
  refine MI.of (by decide) (Nat.le_of_ble_eq_true rfl) ?_
  intro p e s m args below meth c A C hrt hlk hnm
  refine g_lv (lv' := [(0, .ref bb), (1, .int x)]) rfl ?_
  refine g_aload_n C d_AB_circle_0 rfl 0 rfl ?_
  refine g_get C lay_AB 0 rfl rfl 0 (by decide) m_171 rfl d_AB_circle_1 ?_
  refine g_iload_n C d_AB_circle_4 rfl 1 rfl ?_
  refine g_iV (rest := []) (wr := [(bb, .inr (0, [.ref h, .ref g, .ref li, .ref q, .ref v, .ref w])), (w, .inr (3, [.ref wa, .ref wb, .int (nI rz)])), (wa, .inl (E 0, 12, .inl (aN X))), (wb, .inl (E 0, 12, .inl (aN Y)))]) C (c_Web_has l D E h t u n T U x ) rd_Web_has m_219 m_220 m_221 rfl rfl (Nat.le_of_ble_eq_true rfl) (Nat.le_of_ble_eq_true rfl) (Nat.le_of_ble_eq_true rfl) (Nat.le_of_ble_eq_true rfl) rfl rfl (Nat.le_of_ble_eq_true rfl) d_AB_circle_5 [1, 2, 3] [0, 4, 5, 6] rfl (by decide) rfl (by decide) (by decide) (fun r5 _ (hr5 : r5 = bI (inR x n)) => ?_)
  subst hr5
  refine g_cells (ws' := [(bb, .inr (0, [.ref h, .ref g, .ref li, .ref q, .ref v, .ref w])), (h, .inr (6, [.ref t, .ref u, .int (nI n)])), (t, .inl (E 0, 12, .inl (aN T))), (u, .inl (E 0, 12, .inl (aN U))), (w, .inr (3, [.ref wa, .ref wb, .int (nI rz)])), (wa, .inl (E 0, 12, .inl (aN X))), (wb, .inl (E 0, 12, .inl (aN Y)))]) [0, 4, 5, 6, 1, 2, 3] (by decide) rfl ?_
  refine g_if_neB (tgt := 13) C d_AB_circle_8 (by decide) (fun b0 => ?_) (fun b0 => ?_)
  · skip
    rw [hb] at b0; cases b0
  · skip
    refine g_iconst (v := (-1)) C d_AB_circle_11 (by decide) ?_
    exact g_iret C hrt hlk () (rfl) rfl d_AB_circle_12

set_option maxHeartbeats 4000000 in
set_option maxRecDepth 100000 in
theorem a_circles (l : Launch) (D : va_G) (E : Nat → ClassId) (bb : Nat) (h : Nat) (g : Nat) (li : Nat) (q : Nat) (v : Nat) (w : Nat) (t : Nat) (u : Nat) (n : Nat) (T : Nat → Nat) (U : Nat → Nat) (wa : Nat) (wb : Nat) (X : Nat → Nat) (Y : Nat → Nat) (rz : Nat) (hn : n ≤ 12) (hT : ∀ a, T a < 4096) (hU : ∀ a, U a < 4096) : MI l D E y_AB_circles (.code y_AB_circles k_AB_circles 1 (some .int)) ({ frames := 5, cells := 0, slots := 0, locals := 115 } : Room) [.ref bb] [(bb, .inr (0, [.ref h, .ref g, .ref li, .ref q, .ref v, .ref w])), (h, .inr (6, [.ref t, .ref u, .int (nI n)])), (t, .inl (E 0, 12, .inl (aN T))), (u, .inl (E 0, 12, .inl (aN U))), (w, .inr (3, [.ref wa, .ref wb, .int (nI rz)])), (wa, .inl (E 0, 12, .inl (aN X))), (wb, .inl (E 0, 12, .inl (aN Y)))] (fun (r : Int32) (_ : Unit) => r = nI ((fnd (rcX T n X) U n Y n).2.1)) (fun _ : Unit => [(bb, .inr (0, [.ref h, .ref g, .ref li, .ref q, .ref v, .ref w])), (h, .inr (6, [.ref t, .ref u, .int (nI n)])), (t, .inl (E 0, 12, .inl (aN T))), (u, .inl (E 0, 12, .inl (aN U))), (w, .inr (3, [.ref wa, .ref wb, .int (nI ((fnd (rcX T n X) U n Y n).2.1))])), (wa, .inl (E 0, 12, .inl (aN (rcX T n X)))), (wb, .inl (E 0, 12, .inl (aN ((fnd (rcX T n X) U n Y n).1))))]) := by
  refine MI.of (by decide) (Nat.le_of_ble_eq_true rfl) ?_
  intro p e s m args below meth c A C hrt hlk hnm
  refine g_lv (lv' := [(0, .ref bb)]) rfl ?_
  refine g_aload_n C d_AB_circles_0 rfl 0 rfl ?_
  refine g_get C lay_AB 0 rfl rfl 5 (by decide) m_176 rfl d_AB_circles_1 ?_
  refine g_aload_n C d_AB_circles_4 rfl 0 rfl ?_
  refine g_get C lay_AB 0 rfl rfl 0 (by decide) m_171 rfl d_AB_circles_5 ?_
  refine g_vV (rest := []) (wr := [(bb, .inr (0, [.ref h, .ref g, .ref li, .ref q, .ref v, .ref w]))]) C (c_Ri_find l D E w wa wb X Y rz h t u n T U hn hT hU) rd_Rings_find m_403 m_404 m_405 rfl rfl (Nat.le_of_ble_eq_true rfl) (Nat.le_of_ble_eq_true rfl) (Nat.le_of_ble_eq_true rfl) (Nat.le_of_ble_eq_true rfl) rfl rfl (Nat.le_of_ble_eq_true rfl) d_AB_circles_8 [4, 5, 6, 1, 2, 3] [0] rfl (by decide) rfl (by decide) (by decide) (fun _ _ => ?_)
  refine g_cells (ws' := [(bb, .inr (0, [.ref h, .ref g, .ref li, .ref q, .ref v, .ref w])), (h, .inr (6, [.ref t, .ref u, .int (nI n)])), (t, .inl (E 0, 12, .inl (aN T))), (u, .inl (E 0, 12, .inl (aN U))), (w, .inr (3, [.ref wa, .ref wb, .int (nI ((fnd (rcX T n X) U n Y n).2.1))])), (wa, .inl (E 0, 12, .inl (aN (rcX T n X)))), (wb, .inl (E 0, 12, .inl (aN ((fnd (rcX T n X) U n Y n).1))))]) [0, 4, 5, 6, 1, 2, 3] (by decide) rfl ?_
  refine g_aload_n C d_AB_circles_11 rfl 0 rfl ?_
  refine g_get C lay_AB 0 rfl rfl 5 (by decide) m_176 rfl d_AB_circles_12 ?_
  refine g_iV (rest := []) (wr := [(bb, .inr (0, [.ref h, .ref g, .ref li, .ref q, .ref v, .ref w])), (h, .inr (6, [.ref t, .ref u, .int (nI n)])), (t, .inl (E 0, 12, .inl (aN T))), (u, .inl (E 0, 12, .inl (aN U)))]) C (c_Ri_size l D E w wa wb (rcX T n X) ((fnd (rcX T n X) U n Y n).1) ((fnd (rcX T n X) U n Y n).2.1) ) rd_Rings_size m_443 m_444 m_445 rfl rfl (Nat.le_of_ble_eq_true rfl) (Nat.le_of_ble_eq_true rfl) (Nat.le_of_ble_eq_true rfl) (Nat.le_of_ble_eq_true rfl) rfl rfl (Nat.le_of_ble_eq_true rfl) d_AB_circles_15 [4, 5, 6] [0, 1, 2, 3] rfl (by decide) rfl (by decide) (by decide) (fun r15 _ (hr15 : r15 = nI ((fnd (rcX T n X) U n Y n).2.1)) => ?_)
  subst hr15
  refine g_cells (ws' := [(bb, .inr (0, [.ref h, .ref g, .ref li, .ref q, .ref v, .ref w])), (h, .inr (6, [.ref t, .ref u, .int (nI n)])), (t, .inl (E 0, 12, .inl (aN T))), (u, .inl (E 0, 12, .inl (aN U))), (w, .inr (3, [.ref wa, .ref wb, .int (nI ((fnd (rcX T n X) U n Y n).2.1))])), (wa, .inl (E 0, 12, .inl (aN (rcX T n X)))), (wb, .inl (E 0, 12, .inl (aN ((fnd (rcX T n X) U n Y n).1))))]) [0, 1, 2, 3, 4, 5, 6] (by decide) rfl ?_
  exact g_iret C hrt hlk () (rfl) rfl d_AB_circles_18

set_option maxHeartbeats 4000000 in
set_option maxRecDepth 100000 in
theorem a_start (l : Launch) (D : va_G) (E : Nat → ClassId) (bb : Nat) (h : Nat) (g : Nat) (li : Nat) (q : Nat) (v : Nat) (w : Nat) (op : Bool) (ki : Nat) (pl : Nat) (td : Option Nat) (k : Nat) (hk : k < 5) : MV l D E y_AB_start (.code y_AB_start k_AB_start 2 none) ({ frames := 1, cells := 0, slots := 0, locals := 21 } : Room) [.ref bb, .int (nI k)] [(bb, .inr (0, [.ref h, .ref g, .ref li, .ref q, .ref v, .ref w])), (li, .inr (2, [.int (bI op), .int (nI ki), .int (nI pl), .int (oI td)]))] (fun _ : Unit => True) (fun _ : Unit => [(bb, .inr (0, [.ref h, .ref g, .ref li, .ref q, .ref v, .ref w])), (li, .inr (2, [.int (bI true), .int (nI k), .int (nI 0), .int (oI none)]))]) := by
  refine MV.of (by decide) (Nat.le_of_ble_eq_true rfl) ?_
  intro p e s m args below meth c A C hrt hlk hnm
  refine g_lv (lv' := [(0, .ref bb), (1, .int (nI k))]) rfl ?_
  refine g_iload_n C d_AB_start_0 rfl 1 rfl ?_
  refine g_iS (rest := []) (wr := [(bb, .inr (0, [.ref h, .ref g, .ref li, .ref q, .ref v, .ref w])), (li, .inr (2, [.int (bI op), .int (nI ki), .int (nI pl), .int (oI td)]))]) C (c_isKind l D E (nI k) ) rd_AB_isKind m_278 m_279 (Nat.le_of_ble_eq_true rfl) (Nat.le_of_ble_eq_true rfl) (Nat.le_of_ble_eq_true rfl) (Nat.le_of_ble_eq_true rfl) rfl rfl (Nat.le_of_ble_eq_true rfl) d_AB_start_1 [] [0, 1] rfl (by decide) rfl (by decide) (by decide) (fun r1 _ (hr1 : r1 = bI (inR (nI k) 5)) => ?_)
  subst hr1
  refine g_cells (ws' := [(bb, .inr (0, [.ref h, .ref g, .ref li, .ref q, .ref v, .ref w])), (li, .inr (2, [.int (bI op), .int (nI ki), .int (nI pl), .int (oI td)]))]) [0, 1] (by decide) rfl ?_
  refine g_if_neB (tgt := 17) C d_AB_start_4 (by decide) (fun b0 => ?_) (fun b0 => ?_)
  · skip
    refine g_aload_n C d_AB_start_17 rfl 0 rfl ?_
    refine g_get C lay_AB 0 rfl rfl 2 (by decide) m_173 rfl d_AB_start_18 ?_
    refine g_iload_n C d_AB_start_21 rfl 1 rfl ?_
    refine g_vV (rest := []) (wr := [(bb, .inr (0, [.ref h, .ref g, .ref li, .ref q, .ref v, .ref w]))]) C (c_Li_begin l D E li op ki pl td k ) rd_Listing_begin m_522 m_523 m_524 rfl rfl (Nat.le_of_ble_eq_true rfl) (Nat.le_of_ble_eq_true rfl) (Nat.le_of_ble_eq_true rfl) (Nat.le_of_ble_eq_true rfl) rfl rfl (Nat.le_of_ble_eq_true rfl) d_AB_start_22 [1] [0] rfl (by decide) rfl (by decide) (by decide) (fun _ _ => ?_)
    refine g_cells (ws' := [(bb, .inr (0, [.ref h, .ref g, .ref li, .ref q, .ref v, .ref w])), (li, .inr (2, [.int (bI true), .int (nI k), .int (nI 0), .int (oI none)]))]) [0, 1] (by decide) rfl ?_
    exact g_vret C hrt hlk () (trivial) rfl d_AB_start_25
  · skip
    rw [inR_nI (by omega) (by decide)] at b0; simp at b0; omega

set_option maxHeartbeats 4000000 in
set_option maxRecDepth 100000 in
theorem a_next (l : Launch) (D : va_G) (E : Nat → ClassId) (bb : Nat) (h : Nat) (g : Nat) (li : Nat) (q : Nat) (v : Nat) (w : Nat) (t : Nat) (u : Nat) (n : Nat) (T : Nat → Nat) (U : Nat → Nat) (ga : Nat) (gb : Nat) (gc : Nat) (TS : Nat → Nat) (M : Nat → Nat) (P : Nat → Nat) (tc : Nat) (ev : Nat) (kn : Bool) (ki : Nat) (pl : Nat) (td : Option Nat) (hn : n ≤ 12) (hT : ∀ a, T a < 4096) (hTS : ∀ a, TS a < 4096) (hev : ev < 4096) (hki : ki < 5) (hpl : pl ≤ 4096) : MI l D E y_AB_next (.code y_AB_next k_AB_next 1 (some .int)) ({ frames := 5, cells := 0, slots := 0, locals := 108 } : Room) [.ref bb] [(bb, .inr (0, [.ref h, .ref g, .ref li, .ref q, .ref v, .ref w])), (h, .inr (6, [.ref t, .ref u, .int (nI n)])), (t, .inl (E 0, 12, .inl (aN T))), (u, .inl (E 0, 12, .inl (aN U))), (g, .inr (4, [.ref ga, .ref gb, .ref gc, .int (nI tc), .int (nI ev), .int (bI kn)])), (ga, .inl (E 0, 4096, .inl (aN TS))), (gb, .inl (E 0, 4096, .inl (aN M))), (gc, .inl (E 0, 924, .inl (aN P))), (li, .inr (2, [.int (bI true), .int (nI ki), .int (nI pl), .int (oI td)]))] (fun (r : Int32) (_ : Unit) => r = oI (fstM (lnM kn T n TS M P) ki (lnEv kn n ev + 1 - pl) pl)) (fun _ : Unit => [(bb, .inr (0, [.ref h, .ref g, .ref li, .ref q, .ref v, .ref w])), (h, .inr (6, [.ref t, .ref u, .int (nI n)])), (t, .inl (E 0, 12, .inl (aN T))), (u, .inl (E 0, 12, .inl (aN U))), (g, .inr (4, [.ref ga, .ref gb, .ref gc, .int (nI (lnC kn T n TS M P tc)), .int (nI (lnEv kn n ev)), .int (bI true)])), (ga, .inl (E 0, 4096, .inl (aN (lnTS kn T n TS)))), (gb, .inl (E 0, 4096, .inl (aN (lnM kn T n TS M P)))), (gc, .inl (E 0, 924, .inl (aN (lnP kn T n TS M P)))), (li, .inr (2, [.int (bI (true && (fstM (lnM kn T n TS M P) ki (lnEv kn n ev + 1 - pl) pl).isSome)), .int (nI ki), .int (nI (oP (fstM (lnM kn T n TS M P) ki (lnEv kn n ev + 1 - pl) pl) pl)), .int (oI (fstM (lnM kn T n TS M P) ki (lnEv kn n ev + 1 - pl) pl))]))]) := by
  refine MI.of (by decide) (Nat.le_of_ble_eq_true rfl) ?_
  intro p e s m args below meth c A C hrt hlk hnm
  refine g_lv (lv' := [(0, .ref bb)]) rfl ?_
  refine g_aload_n C d_AB_next_0 rfl 0 rfl ?_
  refine g_get C lay_AB 0 rfl rfl 2 (by decide) m_173 rfl d_AB_next_1 ?_
  refine g_iV (rest := []) (wr := [(bb, .inr (0, [.ref h, .ref g, .ref li, .ref q, .ref v, .ref w])), (h, .inr (6, [.ref t, .ref u, .int (nI n)])), (t, .inl (E 0, 12, .inl (aN T))), (u, .inl (E 0, 12, .inl (aN U))), (g, .inr (4, [.ref ga, .ref gb, .ref gc, .int (nI tc), .int (nI ev), .int (bI kn)])), (ga, .inl (E 0, 4096, .inl (aN TS))), (gb, .inl (E 0, 4096, .inl (aN M))), (gc, .inl (E 0, 924, .inl (aN P)))]) C (c_Li_isOpen l D E li true ki pl td ) rd_Listing_isOpen m_534 m_535 m_536 rfl rfl (Nat.le_of_ble_eq_true rfl) (Nat.le_of_ble_eq_true rfl) (Nat.le_of_ble_eq_true rfl) (Nat.le_of_ble_eq_true rfl) rfl rfl (Nat.le_of_ble_eq_true rfl) d_AB_next_4 [8] [0, 1, 2, 3, 4, 5, 6, 7] rfl (by decide) rfl (by decide) (by decide) (fun r4 _ (hr4 : r4 = bI true) => ?_)
  subst hr4
  refine g_cells (ws' := [(bb, .inr (0, [.ref h, .ref g, .ref li, .ref q, .ref v, .ref w])), (h, .inr (6, [.ref t, .ref u, .int (nI n)])), (t, .inl (E 0, 12, .inl (aN T))), (u, .inl (E 0, 12, .inl (aN U))), (g, .inr (4, [.ref ga, .ref gb, .ref gc, .int (nI tc), .int (nI ev), .int (bI kn)])), (ga, .inl (E 0, 4096, .inl (aN TS))), (gb, .inl (E 0, 4096, .inl (aN M))), (gc, .inl (E 0, 924, .inl (aN P))), (li, .inr (2, [.int (bI true), .int (nI ki), .int (nI pl), .int (oI td)]))]) [0, 1, 2, 3, 4, 5, 6, 7, 8] (by decide) rfl ?_
  refine g_if_neB (tgt := 20) C d_AB_next_7 (by decide) (fun _ => ?_) (fun h => absurd h (by decide))
  refine g_aload_n C d_AB_next_20 rfl 0 rfl ?_
  refine g_get C lay_AB 0 rfl rfl 1 (by decide) m_172 rfl d_AB_next_21 ?_
  refine g_aload_n C d_AB_next_24 rfl 0 rfl ?_
  refine g_get C lay_AB 0 rfl rfl 0 (by decide) m_171 rfl d_AB_next_25 ?_
  refine g_vV (rest := []) (wr := [(bb, .inr (0, [.ref h, .ref g, .ref li, .ref q, .ref v, .ref w])), (li, .inr (2, [.int (bI true), .int (nI ki), .int (nI pl), .int (oI td)]))]) C (c_Se_learn l D E g ga gb gc TS M P tc ev kn h t u n T U hn hT hTS (by omega)) rd_Senses_learn m_281 m_282 m_283 rfl rfl (Nat.le_of_ble_eq_true rfl) (Nat.le_of_ble_eq_true rfl) (Nat.le_of_ble_eq_true rfl) (Nat.le_of_ble_eq_true rfl) rfl rfl (Nat.le_of_ble_eq_true rfl) d_AB_next_28 [4, 5, 6, 7, 1, 2, 3] [0, 8] rfl (by decide) rfl (by decide) (by decide) (fun _ _ => ?_)
  refine g_cells (ws' := [(bb, .inr (0, [.ref h, .ref g, .ref li, .ref q, .ref v, .ref w])), (h, .inr (6, [.ref t, .ref u, .int (nI n)])), (t, .inl (E 0, 12, .inl (aN T))), (u, .inl (E 0, 12, .inl (aN U))), (g, .inr (4, [.ref ga, .ref gb, .ref gc, .int (nI (lnC kn T n TS M P tc)), .int (nI (lnEv kn n ev)), .int (bI true)])), (ga, .inl (E 0, 4096, .inl (aN (lnTS kn T n TS)))), (gb, .inl (E 0, 4096, .inl (aN (lnM kn T n TS M P)))), (gc, .inl (E 0, 924, .inl (aN (lnP kn T n TS M P)))), (li, .inr (2, [.int (bI true), .int (nI ki), .int (nI pl), .int (oI td)]))]) [0, 6, 7, 8, 2, 3, 4, 5, 1] (by decide) rfl ?_
  refine g_aload_n C d_AB_next_31 rfl 0 rfl ?_
  refine g_get C lay_AB 0 rfl rfl 2 (by decide) m_173 rfl d_AB_next_32 ?_
  refine g_aload_n C d_AB_next_35 rfl 0 rfl ?_
  refine g_get C lay_AB 0 rfl rfl 1 (by decide) m_172 rfl d_AB_next_36 ?_
  refine g_iV (rest := []) (wr := [(bb, .inr (0, [.ref h, .ref g, .ref li, .ref q, .ref v, .ref w])), (h, .inr (6, [.ref t, .ref u, .int (nI n)])), (t, .inl (E 0, 12, .inl (aN T))), (u, .inl (E 0, 12, .inl (aN U)))]) C (c_Li_tell l D E li true ki pl td g ga gb gc (lnTS kn T n TS) (lnM kn T n TS M P) (lnP kn T n TS M P) (lnC kn T n TS M P tc) (lnEv kn n ev) true (by omega) (lnEv_lt hn hev) hpl) rd_Listing_tell m_554 m_555 m_556 rfl rfl (Nat.le_of_ble_eq_true rfl) (Nat.le_of_ble_eq_true rfl) (Nat.le_of_ble_eq_true rfl) (Nat.le_of_ble_eq_true rfl) rfl rfl (Nat.le_of_ble_eq_true rfl) d_AB_next_39 [8, 4, 5, 6, 7] [0, 1, 2, 3] rfl (by decide) rfl (by decide) (by decide) (fun r39 _ (hr39 : r39 = oI (fstM (lnM kn T n TS M P) ki ((lnEv kn n ev) + 1 - pl) pl)) => ?_)
  subst hr39
  refine g_cells (ws' := [(bb, .inr (0, [.ref h, .ref g, .ref li, .ref q, .ref v, .ref w])), (h, .inr (6, [.ref t, .ref u, .int (nI n)])), (t, .inl (E 0, 12, .inl (aN T))), (u, .inl (E 0, 12, .inl (aN U))), (g, .inr (4, [.ref ga, .ref gb, .ref gc, .int (nI (lnC kn T n TS M P tc)), .int (nI (lnEv kn n ev)), .int (bI true)])), (ga, .inl (E 0, 4096, .inl (aN (lnTS kn T n TS)))), (gb, .inl (E 0, 4096, .inl (aN (lnM kn T n TS M P)))), (gc, .inl (E 0, 924, .inl (aN (lnP kn T n TS M P)))), (li, .inr (2, [.int (bI (true && (fstM (lnM kn T n TS M P) ki ((lnEv kn n ev) + 1 - pl) pl).isSome)), .int (nI ki), .int (nI (oP (fstM (lnM kn T n TS M P) ki ((lnEv kn n ev) + 1 - pl) pl) pl)), .int (oI (fstM (lnM kn T n TS M P) ki ((lnEv kn n ev) + 1 - pl) pl))]))]) [0, 1, 2, 3, 5, 6, 7, 8, 4] (by decide) rfl ?_
  exact g_iret C hrt hlk () (rfl) rfl d_AB_next_42

set_option maxHeartbeats 4000000 in
set_option maxRecDepth 100000 in
theorem a_label (l : Launch) (D : va_G) (E : Nat → ClassId) (bb : Nat) (h : Nat) (g : Nat) (li : Nat) (q : Nat) (v : Nat) (w : Nat) (t : Nat) (u : Nat) (n : Nat) (T : Nat → Nat) (U : Nat → Nat) (op : Bool) (ki : Nat) (pl : Nat) (i : Nat) (k : Nat) (hn : n ≤ 12) (hT : ∀ a, T a < 4096) (hi : i < n) (hk : k < 4096) : MI l D E y_AB_label (.code y_AB_label k_AB_label 3 (some .int)) ({ frames := 2, cells := 0, slots := 0, locals := 44 } : Room) [.ref bb, .int (nI i)] [(bb, .inr (0, [.ref h, .ref g, .ref li, .ref q, .ref v, .ref w])), (h, .inr (6, [.ref t, .ref u, .int (nI n)])), (t, .inl (E 0, 12, .inl (aN T))), (u, .inl (E 0, 12, .inl (aN U))), (li, .inr (2, [.int (bI op), .int (nI ki), .int (nI pl), .int (oI (some k))]))] (fun (r : Int32) (_ : Unit) => r = nI (if k.testBit i then 1 else if (tgU T k n).testBit i then 0 else 2)) (fun _ : Unit => [(bb, .inr (0, [.ref h, .ref g, .ref li, .ref q, .ref v, .ref w])), (h, .inr (6, [.ref t, .ref u, .int (nI n)])), (t, .inl (E 0, 12, .inl (aN T))), (u, .inl (E 0, 12, .inl (aN U))), (li, .inr (2, [.int (bI op), .int (nI ki), .int (nI pl), .int (oI (some k))]))]) := by
  refine MI.of (by decide) (Nat.le_of_ble_eq_true rfl) ?_
  intro p e s m args below meth c A C hrt hlk hnm
  refine g_lv (lv' := [(0, .ref bb), (1, .int (nI i))]) rfl ?_
  refine g_aload_n C d_AB_label_0 rfl 0 rfl ?_
  refine g_get C lay_AB 0 rfl rfl 0 (by decide) m_171 rfl d_AB_label_1 ?_
  refine g_iload_n C d_AB_label_4 rfl 1 rfl ?_
  refine g_iV (rest := []) (wr := [(bb, .inr (0, [.ref h, .ref g, .ref li, .ref q, .ref v, .ref w])), (li, .inr (2, [.int (bI op), .int (nI ki), .int (nI pl), .int (oI (some k))]))]) C (c_Web_has l D E h t u n T U (nI i) ) rd_Web_has m_219 m_220 m_221 rfl rfl (Nat.le_of_ble_eq_true rfl) (Nat.le_of_ble_eq_true rfl) (Nat.le_of_ble_eq_true rfl) (Nat.le_of_ble_eq_true rfl) rfl rfl (Nat.le_of_ble_eq_true rfl) d_AB_label_5 [1, 2, 3] [0, 4] rfl (by decide) rfl (by decide) (by decide) (fun r5 _ (hr5 : r5 = bI (inR (nI i) n)) => ?_)
  subst hr5
  refine g_cells (ws' := [(bb, .inr (0, [.ref h, .ref g, .ref li, .ref q, .ref v, .ref w])), (h, .inr (6, [.ref t, .ref u, .int (nI n)])), (t, .inl (E 0, 12, .inl (aN T))), (u, .inl (E 0, 12, .inl (aN U))), (li, .inr (2, [.int (bI op), .int (nI ki), .int (nI pl), .int (oI (some k))]))]) [0, 2, 3, 4, 1] (by decide) rfl ?_
  refine g_if_neB (tgt := 21) C d_AB_label_8 (by decide) (fun b0 => ?_) (fun b0 => ?_)
  · skip
    refine g_aload_n C d_AB_label_21 rfl 0 rfl ?_
    refine g_get C lay_AB 0 rfl rfl 2 (by decide) m_173 rfl d_AB_label_22 ?_
    refine g_iV (rest := []) (wr := [(bb, .inr (0, [.ref h, .ref g, .ref li, .ref q, .ref v, .ref w])), (h, .inr (6, [.ref t, .ref u, .int (nI n)])), (t, .inl (E 0, 12, .inl (aN T))), (u, .inl (E 0, 12, .inl (aN U)))]) C (c_Li_told l D E li op ki pl (some k) ) rd_Listing_told m_572 m_573 m_574 rfl rfl (Nat.le_of_ble_eq_true rfl) (Nat.le_of_ble_eq_true rfl) (Nat.le_of_ble_eq_true rfl) (Nat.le_of_ble_eq_true rfl) rfl rfl (Nat.le_of_ble_eq_true rfl) d_AB_label_25 [4] [0, 1, 2, 3] rfl (by decide) rfl (by decide) (by decide) (fun r25 _ (hr25 : r25 = oI (some k)) => ?_)
    subst hr25
    refine g_cells (ws' := [(bb, .inr (0, [.ref h, .ref g, .ref li, .ref q, .ref v, .ref w])), (h, .inr (6, [.ref t, .ref u, .int (nI n)])), (t, .inl (E 0, 12, .inl (aN T))), (u, .inl (E 0, 12, .inl (aN U))), (li, .inr (2, [.int (bI op), .int (nI ki), .int (nI pl), .int (oI (some k))]))]) [0, 1, 2, 3, 4] (by decide) rfl ?_
    refine g_top (show oI (some k) = nI k from rfl) ?_
    refine g_istore_n (lv' := [(2, .int (nI k)), (0, .ref bb), (1, .int (nI i))]) C d_AB_label_28 rfl (by decide) rfl ?_
    refine g_iload_n C d_AB_label_29 rfl 0 rfl ?_
    refine g_iconst (v := (-1)) C d_AB_label_30 (by decide) ?_
    refine g_icmp_ne (tgt := 44) C d_AB_label_31 (by decide) (fun b1 => ?_) (fun b1 => ?_)
    · skip
      refine g_iload_n C d_AB_label_44 rfl 2 rfl ?_
      refine g_iload_n C d_AB_label_45 rfl 0 rfl ?_
      refine g_iS (rest := []) (wr := [(bb, .inr (0, [.ref h, .ref g, .ref li, .ref q, .ref v, .ref w])), (h, .inr (6, [.ref t, .ref u, .int (nI n)])), (t, .inl (E 0, 12, .inl (aN T))), (u, .inl (E 0, 12, .inl (aN U))), (li, .inr (2, [.int (bI op), .int (nI ki), .int (nI pl), .int (oI (some k))]))]) C (c_isIn l D E i k (by omega) (by omega)) rd_AB_isIn m_577 m_229 (Nat.le_of_ble_eq_true rfl) (Nat.le_of_ble_eq_true rfl) (Nat.le_of_ble_eq_true rfl) (Nat.le_of_ble_eq_true rfl) rfl rfl (Nat.le_of_ble_eq_true rfl) d_AB_label_46 [] [0, 1, 2, 3, 4] rfl (by decide) rfl (by decide) (by decide) (fun r46 _ (hr46 : r46 = bI (k.testBit i)) => ?_)
      subst hr46
      refine g_cells (ws' := [(bb, .inr (0, [.ref h, .ref g, .ref li, .ref q, .ref v, .ref w])), (h, .inr (6, [.ref t, .ref u, .int (nI n)])), (t, .inl (E 0, 12, .inl (aN T))), (u, .inl (E 0, 12, .inl (aN U))), (li, .inr (2, [.int (bI op), .int (nI ki), .int (nI pl), .int (oI (some k))]))]) [0, 1, 2, 3, 4] (by decide) rfl ?_
      refine g_if_eqB (tgt := 54) C d_AB_label_49 (by decide) (fun b2 => ?_) (fun b2 => ?_)
      · skip
        refine g_iload_n C d_AB_label_54 rfl 2 rfl ?_
        refine g_aload_n C d_AB_label_55 rfl 1 rfl ?_
        refine g_get C lay_AB 0 rfl rfl 0 (by decide) m_171 rfl d_AB_label_56 ?_
        refine g_iload_n C d_AB_label_59 rfl 0 rfl ?_
        refine g_iV (rest := [.int (nI i)]) (wr := [(bb, .inr (0, [.ref h, .ref g, .ref li, .ref q, .ref v, .ref w])), (li, .inr (2, [.int (bI op), .int (nI ki), .int (nI pl), .int (oI (some k))]))]) C (c_Web_targetsOf l D E h t u n T U k hn (by omega) hT) rd_Web_targetsOf m_270 m_271 m_272 rfl rfl (Nat.le_of_ble_eq_true rfl) (Nat.le_of_ble_eq_true rfl) (Nat.le_of_ble_eq_true rfl) (Nat.le_of_ble_eq_true rfl) rfl rfl (Nat.le_of_ble_eq_true rfl) d_AB_label_60 [1, 2, 3] [0, 4] rfl (by decide) rfl (by decide) (by decide) (fun r60 _ (hr60 : r60 = nI (tgU T k n)) => ?_)
        subst hr60
        refine g_cells (ws' := [(bb, .inr (0, [.ref h, .ref g, .ref li, .ref q, .ref v, .ref w])), (h, .inr (6, [.ref t, .ref u, .int (nI n)])), (t, .inl (E 0, 12, .inl (aN T))), (u, .inl (E 0, 12, .inl (aN U))), (li, .inr (2, [.int (bI op), .int (nI ki), .int (nI pl), .int (oI (some k))]))]) [0, 2, 3, 4, 1] (by decide) rfl ?_
        refine g_iS (rest := []) (wr := [(bb, .inr (0, [.ref h, .ref g, .ref li, .ref q, .ref v, .ref w])), (h, .inr (6, [.ref t, .ref u, .int (nI n)])), (t, .inl (E 0, 12, .inl (aN T))), (u, .inl (E 0, 12, .inl (aN U))), (li, .inr (2, [.int (bI op), .int (nI ki), .int (nI pl), .int (oI (some k))]))]) C (c_isIn l D E i (tgU T k n) (by omega) (lt4 (tgU_lt hT _ _))) rd_AB_isIn m_577 m_229 (Nat.le_of_ble_eq_true rfl) (Nat.le_of_ble_eq_true rfl) (Nat.le_of_ble_eq_true rfl) (Nat.le_of_ble_eq_true rfl) rfl rfl (Nat.le_of_ble_eq_true rfl) d_AB_label_63 [] [0, 1, 2, 3, 4] rfl (by decide) rfl (by decide) (by decide) (fun r63 _ (hr63 : r63 = bI ((tgU T k n).testBit i)) => ?_)
        subst hr63
        refine g_cells (ws' := [(bb, .inr (0, [.ref h, .ref g, .ref li, .ref q, .ref v, .ref w])), (h, .inr (6, [.ref t, .ref u, .int (nI n)])), (t, .inl (E 0, 12, .inl (aN T))), (u, .inl (E 0, 12, .inl (aN U))), (li, .inr (2, [.int (bI op), .int (nI ki), .int (nI pl), .int (oI (some k))]))]) [0, 1, 2, 3, 4] (by decide) rfl ?_
        refine g_if_eqB (tgt := 73) C d_AB_label_66 (by decide) (fun b3 => ?_) (fun b3 => ?_)
        · skip
          refine g_iconst (v := nI 2) C d_AB_label_73 (by decide) ?_
          exact g_iret C hrt hlk () (congrArg nI (by first | (rw [if_pos b2]; done) | (rw [if_neg (by rw [b2]; decide), if_pos b3]; done) | (rw [if_neg (by rw [b2]; decide), if_neg (by rw [b3]; decide)]; done))) rfl d_AB_label_74
        · skip
          refine g_iconst (v := nI 0) C d_AB_label_69 (by decide) ?_
          refine g_goto (tgt := 74) C d_AB_label_70 (by decide) ?_
          exact g_iret C hrt hlk () (congrArg nI (by first | (rw [if_pos b2]; done) | (rw [if_neg (by rw [b2]; decide), if_pos b3]; done) | (rw [if_neg (by rw [b2]; decide), if_neg (by rw [b3]; decide)]; done))) rfl d_AB_label_74
      · skip
        refine g_iconst (v := nI 1) C d_AB_label_52 (by decide) ?_
        exact g_iret C hrt hlk () (congrArg nI (by first | (rw [if_pos b2]; done) | (rw [if_neg (by rw [b2]; decide), if_pos b3]; done) | (rw [if_neg (by rw [b2]; decide), if_neg (by rw [b3]; decide)]; done))) rfl d_AB_label_53
    · skip
      exact absurd b1 (nI_nm1 (by omega))
  · skip
    rw [inR_nI (by omega) (by omega)] at b0; simp at b0; omega

set_option maxHeartbeats 4000000 in
set_option maxRecDepth 100000 in
theorem a_count (l : Launch) (D : va_G) (E : Nat → ClassId) (bb : Nat) (h : Nat) (g : Nat) (li : Nat) (q : Nat) (v : Nat) (w : Nat) (t : Nat) (u : Nat) (n : Nat) (T : Nat → Nat) (U : Nat → Nat) (ga : Nat) (gb : Nat) (gc : Nat) (TS : Nat → Nat) (M : Nat → Nat) (P : Nat → Nat) (tc : Nat) (ev : Nat) (kn : Bool) (k : Nat) (hn : n ≤ 12) (hT : ∀ a, T a < 4096) (hTS : ∀ a, TS a < 4096) (hev : ev < 4096) (hk : k < 5) : MI l D E y_AB_count (.code y_AB_count k_AB_count 2 (some .int)) ({ frames := 5, cells := 0, slots := 0, locals := 108 } : Room) [.ref bb, .int (nI k)] [(bb, .inr (0, [.ref h, .ref g, .ref li, .ref q, .ref v, .ref w])), (h, .inr (6, [.ref t, .ref u, .int (nI n)])), (t, .inl (E 0, 12, .inl (aN T))), (u, .inl (E 0, 12, .inl (aN U))), (g, .inr (4, [.ref ga, .ref gb, .ref gc, .int (nI tc), .int (nI ev), .int (bI kn)])), (ga, .inl (E 0, 4096, .inl (aN TS))), (gb, .inl (E 0, 4096, .inl (aN M))), (gc, .inl (E 0, 924, .inl (aN P)))] (fun (r : Int32) (_ : Unit) => r = nI (cntM (lnM kn T n TS M P) k (lnEv kn n ev + 1))) (fun _ : Unit => [(bb, .inr (0, [.ref h, .ref g, .ref li, .ref q, .ref v, .ref w])), (h, .inr (6, [.ref t, .ref u, .int (nI n)])), (t, .inl (E 0, 12, .inl (aN T))), (u, .inl (E 0, 12, .inl (aN U))), (g, .inr (4, [.ref ga, .ref gb, .ref gc, .int (nI (lnC kn T n TS M P tc)), .int (nI (lnEv kn n ev)), .int (bI true)])), (ga, .inl (E 0, 4096, .inl (aN (lnTS kn T n TS)))), (gb, .inl (E 0, 4096, .inl (aN (lnM kn T n TS M P)))), (gc, .inl (E 0, 924, .inl (aN (lnP kn T n TS M P))))]) := by
  refine MI.of (by decide) (Nat.le_of_ble_eq_true rfl) ?_
  intro p e s m args below meth c A C hrt hlk hnm
  refine g_lv (lv' := [(0, .ref bb), (1, .int (nI k))]) rfl ?_
  refine g_iload_n C d_AB_count_0 rfl 1 rfl ?_
  refine g_iS (rest := []) (wr := [(bb, .inr (0, [.ref h, .ref g, .ref li, .ref q, .ref v, .ref w])), (h, .inr (6, [.ref t, .ref u, .int (nI n)])), (t, .inl (E 0, 12, .inl (aN T))), (u, .inl (E 0, 12, .inl (aN U))), (g, .inr (4, [.ref ga, .ref gb, .ref gc, .int (nI tc), .int (nI ev), .int (bI kn)])), (ga, .inl (E 0, 4096, .inl (aN TS))), (gb, .inl (E 0, 4096, .inl (aN M))), (gc, .inl (E 0, 924, .inl (aN P)))]) C (c_isKind l D E (nI k) ) rd_AB_isKind m_278 m_279 (Nat.le_of_ble_eq_true rfl) (Nat.le_of_ble_eq_true rfl) (Nat.le_of_ble_eq_true rfl) (Nat.le_of_ble_eq_true rfl) rfl rfl (Nat.le_of_ble_eq_true rfl) d_AB_count_1 [] [0, 1, 2, 3, 4, 5, 6, 7] rfl (by decide) rfl (by decide) (by decide) (fun r1 _ (hr1 : r1 = bI (inR (nI k) 5)) => ?_)
  subst hr1
  refine g_cells (ws' := [(bb, .inr (0, [.ref h, .ref g, .ref li, .ref q, .ref v, .ref w])), (h, .inr (6, [.ref t, .ref u, .int (nI n)])), (t, .inl (E 0, 12, .inl (aN T))), (u, .inl (E 0, 12, .inl (aN U))), (g, .inr (4, [.ref ga, .ref gb, .ref gc, .int (nI tc), .int (nI ev), .int (bI kn)])), (ga, .inl (E 0, 4096, .inl (aN TS))), (gb, .inl (E 0, 4096, .inl (aN M))), (gc, .inl (E 0, 924, .inl (aN P)))]) [0, 1, 2, 3, 4, 5, 6, 7] (by decide) rfl ?_
  refine g_if_neB (tgt := 17) C d_AB_count_4 (by decide) (fun b0 => ?_) (fun b0 => ?_)
  · skip
    refine g_aload_n C d_AB_count_17 rfl 0 rfl ?_
    refine g_get C lay_AB 0 rfl rfl 1 (by decide) m_172 rfl d_AB_count_18 ?_
    refine g_aload_n C d_AB_count_21 rfl 0 rfl ?_
    refine g_get C lay_AB 0 rfl rfl 0 (by decide) m_171 rfl d_AB_count_22 ?_
    refine g_vV (rest := []) (wr := [(bb, .inr (0, [.ref h, .ref g, .ref li, .ref q, .ref v, .ref w]))]) C (c_Se_learn l D E g ga gb gc TS M P tc ev kn h t u n T U hn hT hTS (by omega)) rd_Senses_learn m_281 m_282 m_283 rfl rfl (Nat.le_of_ble_eq_true rfl) (Nat.le_of_ble_eq_true rfl) (Nat.le_of_ble_eq_true rfl) (Nat.le_of_ble_eq_true rfl) rfl rfl (Nat.le_of_ble_eq_true rfl) d_AB_count_25 [4, 5, 6, 7, 1, 2, 3] [0] rfl (by decide) rfl (by decide) (by decide) (fun _ _ => ?_)
    refine g_cells (ws' := [(bb, .inr (0, [.ref h, .ref g, .ref li, .ref q, .ref v, .ref w])), (h, .inr (6, [.ref t, .ref u, .int (nI n)])), (t, .inl (E 0, 12, .inl (aN T))), (u, .inl (E 0, 12, .inl (aN U))), (g, .inr (4, [.ref ga, .ref gb, .ref gc, .int (nI (lnC kn T n TS M P tc)), .int (nI (lnEv kn n ev)), .int (bI true)])), (ga, .inl (E 0, 4096, .inl (aN (lnTS kn T n TS)))), (gb, .inl (E 0, 4096, .inl (aN (lnM kn T n TS M P)))), (gc, .inl (E 0, 924, .inl (aN (lnP kn T n TS M P))))]) [0, 5, 6, 7, 1, 2, 3, 4] (by decide) rfl ?_
    refine g_aload_n C d_AB_count_28 rfl 0 rfl ?_
    refine g_get C lay_AB 0 rfl rfl 1 (by decide) m_172 rfl d_AB_count_29 ?_
    refine g_iload_n C d_AB_count_32 rfl 1 rfl ?_
    refine g_iV (rest := []) (wr := [(bb, .inr (0, [.ref h, .ref g, .ref li, .ref q, .ref v, .ref w])), (h, .inr (6, [.ref t, .ref u, .int (nI n)])), (t, .inl (E 0, 12, .inl (aN T))), (u, .inl (E 0, 12, .inl (aN U)))]) C (c_Se_tally l D E g ga gb gc (lnTS kn T n TS) (lnM kn T n TS M P) (lnP kn T n TS M P) (lnC kn T n TS M P tc) (lnEv kn n ev) true k (lnEv_lt hn hev) (by omega)) rd_Senses_tally m_585 m_586 m_587 rfl rfl (Nat.le_of_ble_eq_true rfl) (Nat.le_of_ble_eq_true rfl) (Nat.le_of_ble_eq_true rfl) (Nat.le_of_ble_eq_true rfl) rfl rfl (Nat.le_of_ble_eq_true rfl) d_AB_count_33 [4, 5, 6, 7] [0, 1, 2, 3] rfl (by decide) rfl (by decide) (by decide) (fun r33 _ (hr33 : r33 = nI (cntM (lnM kn T n TS M P) k ((lnEv kn n ev) + 1))) => ?_)
    subst hr33
    refine g_cells (ws' := [(bb, .inr (0, [.ref h, .ref g, .ref li, .ref q, .ref v, .ref w])), (h, .inr (6, [.ref t, .ref u, .int (nI n)])), (t, .inl (E 0, 12, .inl (aN T))), (u, .inl (E 0, 12, .inl (aN U))), (g, .inr (4, [.ref ga, .ref gb, .ref gc, .int (nI (lnC kn T n TS M P tc)), .int (nI (lnEv kn n ev)), .int (bI true)])), (ga, .inl (E 0, 4096, .inl (aN (lnTS kn T n TS)))), (gb, .inl (E 0, 4096, .inl (aN (lnM kn T n TS M P)))), (gc, .inl (E 0, 924, .inl (aN (lnP kn T n TS M P))))]) [0, 1, 2, 3, 4, 5, 6, 7] (by decide) rfl ?_
    exact g_iret C hrt hlk () (rfl) rfl d_AB_count_36
  · skip
    rw [inR_nI (by omega) (by decide)] at b0; simp at b0; omega

set_option maxHeartbeats 4000000 in
set_option maxRecDepth 100000 in
theorem a_holds (l : Launch) (D : va_G) (E : Nat → ClassId) (bb : Nat) (h : Nat) (g : Nat) (li : Nat) (q : Nat) (v : Nat) (w : Nat) (t : Nat) (u : Nat) (n : Nat) (T : Nat → Nat) (U : Nat → Nat) (ga : Nat) (gb : Nat) (gc : Nat) (TS : Nat → Nat) (M : Nat → Nat) (P : Nat → Nat) (tc : Nat) (ev : Nat) (kn : Bool) (k : Nat) (i : Nat) (all : Bool) (hn : n ≤ 12) (hT : ∀ a, T a < 4096) (hTS : ∀ a, TS a < 4096) (hev : ev < 4096) (hk : k < 5) (hi : i < n) : MI l D E y_AB_holds (.code y_AB_holds k_AB_holds 4 (some .boolean)) ({ frames := 5, cells := 0, slots := 0, locals := 108 } : Room) [.ref bb, .int (nI k), .int (nI i), .int (bI all)] [(bb, .inr (0, [.ref h, .ref g, .ref li, .ref q, .ref v, .ref w])), (h, .inr (6, [.ref t, .ref u, .int (nI n)])), (t, .inl (E 0, 12, .inl (aN T))), (u, .inl (E 0, 12, .inl (aN U))), (g, .inr (4, [.ref ga, .ref gb, .ref gc, .int (nI tc), .int (nI ev), .int (bI kn)])), (ga, .inl (E 0, 4096, .inl (aN TS))), (gb, .inl (E 0, 4096, .inl (aN M))), (gc, .inl (E 0, 924, .inl (aN P)))] (fun (r : Int32) (_ : Unit) => r = bI ((bif all then metM (lnM kn T n TS M P) k (lnEv kn n ev) (lnEv kn n ev + 1) else joiM (lnM kn T n TS M P) k (2 ^ n - 1) (lnEv kn n ev + 1)).testBit i)) (fun _ : Unit => [(bb, .inr (0, [.ref h, .ref g, .ref li, .ref q, .ref v, .ref w])), (h, .inr (6, [.ref t, .ref u, .int (nI n)])), (t, .inl (E 0, 12, .inl (aN T))), (u, .inl (E 0, 12, .inl (aN U))), (g, .inr (4, [.ref ga, .ref gb, .ref gc, .int (nI (lnC kn T n TS M P tc)), .int (nI (lnEv kn n ev)), .int (bI true)])), (ga, .inl (E 0, 4096, .inl (aN (lnTS kn T n TS)))), (gb, .inl (E 0, 4096, .inl (aN (lnM kn T n TS M P)))), (gc, .inl (E 0, 924, .inl (aN (lnP kn T n TS M P))))]) := by
  refine MI.of (by decide) (Nat.le_of_ble_eq_true rfl) ?_
  intro p e s m args below meth c A C hrt hlk hnm
  refine g_lv (lv' := [(0, .ref bb), (1, .int (nI k)), (2, .int (nI i)), (3, .int (bI all))]) rfl ?_
  refine g_iload_n C d_AB_holds_0 rfl 1 rfl ?_
  refine g_iS (rest := []) (wr := [(bb, .inr (0, [.ref h, .ref g, .ref li, .ref q, .ref v, .ref w])), (h, .inr (6, [.ref t, .ref u, .int (nI n)])), (t, .inl (E 0, 12, .inl (aN T))), (u, .inl (E 0, 12, .inl (aN U))), (g, .inr (4, [.ref ga, .ref gb, .ref gc, .int (nI tc), .int (nI ev), .int (bI kn)])), (ga, .inl (E 0, 4096, .inl (aN TS))), (gb, .inl (E 0, 4096, .inl (aN M))), (gc, .inl (E 0, 924, .inl (aN P)))]) C (c_isKind l D E (nI k) ) rd_AB_isKind m_278 m_279 (Nat.le_of_ble_eq_true rfl) (Nat.le_of_ble_eq_true rfl) (Nat.le_of_ble_eq_true rfl) (Nat.le_of_ble_eq_true rfl) rfl rfl (Nat.le_of_ble_eq_true rfl) d_AB_holds_1 [] [0, 1, 2, 3, 4, 5, 6, 7] rfl (by decide) rfl (by decide) (by decide) (fun r1 _ (hr1 : r1 = bI (inR (nI k) 5)) => ?_)
  subst hr1
  refine g_cells (ws' := [(bb, .inr (0, [.ref h, .ref g, .ref li, .ref q, .ref v, .ref w])), (h, .inr (6, [.ref t, .ref u, .int (nI n)])), (t, .inl (E 0, 12, .inl (aN T))), (u, .inl (E 0, 12, .inl (aN U))), (g, .inr (4, [.ref ga, .ref gb, .ref gc, .int (nI tc), .int (nI ev), .int (bI kn)])), (ga, .inl (E 0, 4096, .inl (aN TS))), (gb, .inl (E 0, 4096, .inl (aN M))), (gc, .inl (E 0, 924, .inl (aN P)))]) [0, 1, 2, 3, 4, 5, 6, 7] (by decide) rfl ?_
  refine g_if_eqB (tgt := 18) C d_AB_holds_4 (by decide) (fun b0 => ?_) (fun b0 => ?_)
  · skip
    rw [inR_nI (by omega) (by decide)] at b0; simp at b0; omega
  · skip
    refine g_aload_n C d_AB_holds_7 rfl 0 rfl ?_
    refine g_get C lay_AB 0 rfl rfl 0 (by decide) m_171 rfl d_AB_holds_8 ?_
    refine g_iload_n C d_AB_holds_11 rfl 2 rfl ?_
    refine g_iV (rest := []) (wr := [(bb, .inr (0, [.ref h, .ref g, .ref li, .ref q, .ref v, .ref w])), (g, .inr (4, [.ref ga, .ref gb, .ref gc, .int (nI tc), .int (nI ev), .int (bI kn)])), (ga, .inl (E 0, 4096, .inl (aN TS))), (gb, .inl (E 0, 4096, .inl (aN M))), (gc, .inl (E 0, 924, .inl (aN P)))]) C (c_Web_has l D E h t u n T U (nI i) ) rd_Web_has m_219 m_220 m_221 rfl rfl (Nat.le_of_ble_eq_true rfl) (Nat.le_of_ble_eq_true rfl) (Nat.le_of_ble_eq_true rfl) (Nat.le_of_ble_eq_true rfl) rfl rfl (Nat.le_of_ble_eq_true rfl) d_AB_holds_12 [1, 2, 3] [0, 4, 5, 6, 7] rfl (by decide) rfl (by decide) (by decide) (fun r12 _ (hr12 : r12 = bI (inR (nI i) n)) => ?_)
    subst hr12
    refine g_cells (ws' := [(bb, .inr (0, [.ref h, .ref g, .ref li, .ref q, .ref v, .ref w])), (h, .inr (6, [.ref t, .ref u, .int (nI n)])), (t, .inl (E 0, 12, .inl (aN T))), (u, .inl (E 0, 12, .inl (aN U))), (g, .inr (4, [.ref ga, .ref gb, .ref gc, .int (nI tc), .int (nI ev), .int (bI kn)])), (ga, .inl (E 0, 4096, .inl (aN TS))), (gb, .inl (E 0, 4096, .inl (aN M))), (gc, .inl (E 0, 924, .inl (aN P)))]) [0, 5, 6, 7, 1, 2, 3, 4] (by decide) rfl ?_
    refine g_if_neB (tgt := 28) C d_AB_holds_15 (by decide) (fun b1 => ?_) (fun b1 => ?_)
    · skip
      refine g_aload_n C d_AB_holds_28 rfl 0 rfl ?_
      refine g_get C lay_AB 0 rfl rfl 1 (by decide) m_172 rfl d_AB_holds_29 ?_
      refine g_aload_n C d_AB_holds_32 rfl 0 rfl ?_
      refine g_get C lay_AB 0 rfl rfl 0 (by decide) m_171 rfl d_AB_holds_33 ?_
      refine g_vV (rest := []) (wr := [(bb, .inr (0, [.ref h, .ref g, .ref li, .ref q, .ref v, .ref w]))]) C (c_Se_learn l D E g ga gb gc TS M P tc ev kn h t u n T U hn hT hTS (by omega)) rd_Senses_learn m_281 m_282 m_283 rfl rfl (Nat.le_of_ble_eq_true rfl) (Nat.le_of_ble_eq_true rfl) (Nat.le_of_ble_eq_true rfl) (Nat.le_of_ble_eq_true rfl) rfl rfl (Nat.le_of_ble_eq_true rfl) d_AB_holds_36 [4, 5, 6, 7, 1, 2, 3] [0] rfl (by decide) rfl (by decide) (by decide) (fun _ _ => ?_)
      refine g_cells (ws' := [(bb, .inr (0, [.ref h, .ref g, .ref li, .ref q, .ref v, .ref w])), (h, .inr (6, [.ref t, .ref u, .int (nI n)])), (t, .inl (E 0, 12, .inl (aN T))), (u, .inl (E 0, 12, .inl (aN U))), (g, .inr (4, [.ref ga, .ref gb, .ref gc, .int (nI (lnC kn T n TS M P tc)), .int (nI (lnEv kn n ev)), .int (bI true)])), (ga, .inl (E 0, 4096, .inl (aN (lnTS kn T n TS)))), (gb, .inl (E 0, 4096, .inl (aN (lnM kn T n TS M P)))), (gc, .inl (E 0, 924, .inl (aN (lnP kn T n TS M P))))]) [0, 5, 6, 7, 1, 2, 3, 4] (by decide) rfl ?_
      refine g_iload_n C d_AB_holds_39 rfl 2 rfl ?_
      refine g_iload_n C d_AB_holds_40 rfl 3 rfl ?_
      refine g_if_eqB (tgt := 55) C d_AB_holds_41 (by decide) (fun b2 => ?_) (fun b2 => ?_)
      · skip
        refine g_aload_n C d_AB_holds_55 rfl 0 rfl ?_
        refine g_get C lay_AB 0 rfl rfl 1 (by decide) m_172 rfl d_AB_holds_56 ?_
        refine g_iload_n C d_AB_holds_59 rfl 1 rfl ?_
        refine g_aload_n C d_AB_holds_60 rfl 0 rfl ?_
        refine g_get C lay_AB 0 rfl rfl 0 (by decide) m_171 rfl d_AB_holds_61 ?_
        refine g_iV (rest := [.int (nI k), .ref g, .int (nI i)]) (wr := [(bb, .inr (0, [.ref h, .ref g, .ref li, .ref q, .ref v, .ref w])), (g, .inr (4, [.ref ga, .ref gb, .ref gc, .int (nI (lnC kn T n TS M P tc)), .int (nI (lnEv kn n ev)), .int (bI true)])), (ga, .inl (E 0, 4096, .inl (aN (lnTS kn T n TS)))), (gb, .inl (E 0, 4096, .inl (aN (lnM kn T n TS M P)))), (gc, .inl (E 0, 924, .inl (aN (lnP kn T n TS M P))))]) C (c_Web_everything l D E h t u n T U hn) rd_Web_everything m_597 m_264 m_265 rfl rfl (Nat.le_of_ble_eq_true rfl) (Nat.le_of_ble_eq_true rfl) (Nat.le_of_ble_eq_true rfl) (Nat.le_of_ble_eq_true rfl) rfl rfl (Nat.le_of_ble_eq_true rfl) d_AB_holds_64 [1, 2, 3] [0, 4, 5, 6, 7] rfl (by decide) rfl (by decide) (by decide) (fun r64 _ (hr64 : r64 = nI (2 ^ n - 1)) => ?_)
        subst hr64
        refine g_cells (ws' := [(bb, .inr (0, [.ref h, .ref g, .ref li, .ref q, .ref v, .ref w])), (h, .inr (6, [.ref t, .ref u, .int (nI n)])), (t, .inl (E 0, 12, .inl (aN T))), (u, .inl (E 0, 12, .inl (aN U))), (g, .inr (4, [.ref ga, .ref gb, .ref gc, .int (nI (lnC kn T n TS M P tc)), .int (nI (lnEv kn n ev)), .int (bI true)])), (ga, .inl (E 0, 4096, .inl (aN (lnTS kn T n TS)))), (gb, .inl (E 0, 4096, .inl (aN (lnM kn T n TS M P)))), (gc, .inl (E 0, 924, .inl (aN (lnP kn T n TS M P))))]) [0, 5, 6, 7, 1, 2, 3, 4] (by decide) rfl ?_
        refine g_iV (rest := [.int (nI i)]) (wr := [(bb, .inr (0, [.ref h, .ref g, .ref li, .ref q, .ref v, .ref w])), (h, .inr (6, [.ref t, .ref u, .int (nI n)])), (t, .inl (E 0, 12, .inl (aN T))), (u, .inl (E 0, 12, .inl (aN U)))]) C (c_Se_joinWithin l D E g ga gb gc (lnTS kn T n TS) (lnM kn T n TS M P) (lnP kn T n TS M P) (lnC kn T n TS M P tc) (lnEv kn n ev) true k (2 ^ n - 1) (lnEv_lt hn hev) (by omega)) rd_Senses_joinWithin m_387 m_388 m_389 rfl rfl (Nat.le_of_ble_eq_true rfl) (Nat.le_of_ble_eq_true rfl) (Nat.le_of_ble_eq_true rfl) (Nat.le_of_ble_eq_true rfl) rfl rfl (Nat.le_of_ble_eq_true rfl) d_AB_holds_67 [4, 5, 6, 7] [0, 1, 2, 3] rfl (by decide) rfl (by decide) (by decide) (fun r67 _ (hr67 : r67 = nI (joiM (lnM kn T n TS M P) k (2 ^ n - 1) ((lnEv kn n ev) + 1))) => ?_)
        subst hr67
        refine g_cells (ws' := [(bb, .inr (0, [.ref h, .ref g, .ref li, .ref q, .ref v, .ref w])), (h, .inr (6, [.ref t, .ref u, .int (nI n)])), (t, .inl (E 0, 12, .inl (aN T))), (u, .inl (E 0, 12, .inl (aN U))), (g, .inr (4, [.ref ga, .ref gb, .ref gc, .int (nI (lnC kn T n TS M P tc)), .int (nI (lnEv kn n ev)), .int (bI true)])), (ga, .inl (E 0, 4096, .inl (aN (lnTS kn T n TS)))), (gb, .inl (E 0, 4096, .inl (aN (lnM kn T n TS M P)))), (gc, .inl (E 0, 924, .inl (aN (lnP kn T n TS M P))))]) [0, 1, 2, 3, 4, 5, 6, 7] (by decide) rfl ?_
        refine g_iS (rest := []) (wr := [(bb, .inr (0, [.ref h, .ref g, .ref li, .ref q, .ref v, .ref w])), (h, .inr (6, [.ref t, .ref u, .int (nI n)])), (t, .inl (E 0, 12, .inl (aN T))), (u, .inl (E 0, 12, .inl (aN U))), (g, .inr (4, [.ref ga, .ref gb, .ref gc, .int (nI (lnC kn T n TS M P tc)), .int (nI (lnEv kn n ev)), .int (bI true)])), (ga, .inl (E 0, 4096, .inl (aN (lnTS kn T n TS)))), (gb, .inl (E 0, 4096, .inl (aN (lnM kn T n TS M P)))), (gc, .inl (E 0, 924, .inl (aN (lnP kn T n TS M P))))]) C (c_isIn l D E i (joiM (lnM kn T n TS M P) k (2 ^ n - 1) ((lnEv kn n ev) + 1)) (by omega) (by first | exact lt4 (Nat.lt_of_le_of_lt (metM_le _ _ _ _) (lnEv_lt hn hev)) | exact lt4 (joiM_lt _ _ _ (by have := lnEv_lt (kn := kn) hn hev; omega)))) rd_AB_isIn m_577 m_229 (Nat.le_of_ble_eq_true rfl) (Nat.le_of_ble_eq_true rfl) (Nat.le_of_ble_eq_true rfl) (Nat.le_of_ble_eq_true rfl) rfl rfl (Nat.le_of_ble_eq_true rfl) d_AB_holds_70 [] [0, 1, 2, 3, 4, 5, 6, 7] rfl (by decide) rfl (by decide) (by decide) (fun r70 _ (hr70 : r70 = bI ((joiM (lnM kn T n TS M P) k (2 ^ n - 1) ((lnEv kn n ev) + 1)).testBit i)) => ?_)
        subst hr70
        refine g_cells (ws' := [(bb, .inr (0, [.ref h, .ref g, .ref li, .ref q, .ref v, .ref w])), (h, .inr (6, [.ref t, .ref u, .int (nI n)])), (t, .inl (E 0, 12, .inl (aN T))), (u, .inl (E 0, 12, .inl (aN U))), (g, .inr (4, [.ref ga, .ref gb, .ref gc, .int (nI (lnC kn T n TS M P tc)), .int (nI (lnEv kn n ev)), .int (bI true)])), (ga, .inl (E 0, 4096, .inl (aN (lnTS kn T n TS)))), (gb, .inl (E 0, 4096, .inl (aN (lnM kn T n TS M P)))), (gc, .inl (E 0, 924, .inl (aN (lnP kn T n TS M P))))]) [0, 1, 2, 3, 4, 5, 6, 7] (by decide) rfl ?_
        exact g_zret C hrt hlk () (congrArg bI (by rw [b2]; rfl)) rfl d_AB_holds_73
      · skip
        refine g_aload_n C d_AB_holds_44 rfl 0 rfl ?_
        refine g_get C lay_AB 0 rfl rfl 1 (by decide) m_172 rfl d_AB_holds_45 ?_
        refine g_iload_n C d_AB_holds_48 rfl 1 rfl ?_
        refine g_iV (rest := [.int (nI i)]) (wr := [(bb, .inr (0, [.ref h, .ref g, .ref li, .ref q, .ref v, .ref w])), (h, .inr (6, [.ref t, .ref u, .int (nI n)])), (t, .inl (E 0, 12, .inl (aN T))), (u, .inl (E 0, 12, .inl (aN U)))]) C (c_Se_meet l D E g ga gb gc (lnTS kn T n TS) (lnM kn T n TS M P) (lnP kn T n TS M P) (lnC kn T n TS M P tc) (lnEv kn n ev) true k (lnEv_lt hn hev) (by omega)) rd_Senses_meet m_382 m_383 m_384 rfl rfl (Nat.le_of_ble_eq_true rfl) (Nat.le_of_ble_eq_true rfl) (Nat.le_of_ble_eq_true rfl) (Nat.le_of_ble_eq_true rfl) rfl rfl (Nat.le_of_ble_eq_true rfl) d_AB_holds_49 [4, 5, 6, 7] [0, 1, 2, 3] rfl (by decide) rfl (by decide) (by decide) (fun r49 _ (hr49 : r49 = nI (metM (lnM kn T n TS M P) k (lnEv kn n ev) ((lnEv kn n ev) + 1))) => ?_)
        subst hr49
        refine g_cells (ws' := [(bb, .inr (0, [.ref h, .ref g, .ref li, .ref q, .ref v, .ref w])), (h, .inr (6, [.ref t, .ref u, .int (nI n)])), (t, .inl (E 0, 12, .inl (aN T))), (u, .inl (E 0, 12, .inl (aN U))), (g, .inr (4, [.ref ga, .ref gb, .ref gc, .int (nI (lnC kn T n TS M P tc)), .int (nI (lnEv kn n ev)), .int (bI true)])), (ga, .inl (E 0, 4096, .inl (aN (lnTS kn T n TS)))), (gb, .inl (E 0, 4096, .inl (aN (lnM kn T n TS M P)))), (gc, .inl (E 0, 924, .inl (aN (lnP kn T n TS M P))))]) [0, 1, 2, 3, 4, 5, 6, 7] (by decide) rfl ?_
        refine g_goto (tgt := 70) C d_AB_holds_52 (by decide) ?_
        refine g_iS (rest := []) (wr := [(bb, .inr (0, [.ref h, .ref g, .ref li, .ref q, .ref v, .ref w])), (h, .inr (6, [.ref t, .ref u, .int (nI n)])), (t, .inl (E 0, 12, .inl (aN T))), (u, .inl (E 0, 12, .inl (aN U))), (g, .inr (4, [.ref ga, .ref gb, .ref gc, .int (nI (lnC kn T n TS M P tc)), .int (nI (lnEv kn n ev)), .int (bI true)])), (ga, .inl (E 0, 4096, .inl (aN (lnTS kn T n TS)))), (gb, .inl (E 0, 4096, .inl (aN (lnM kn T n TS M P)))), (gc, .inl (E 0, 924, .inl (aN (lnP kn T n TS M P))))]) C (c_isIn l D E i (metM (lnM kn T n TS M P) k (lnEv kn n ev) ((lnEv kn n ev) + 1)) (by omega) (by first | exact lt4 (Nat.lt_of_le_of_lt (metM_le _ _ _ _) (lnEv_lt hn hev)) | exact lt4 (joiM_lt _ _ _ (by have := lnEv_lt (kn := kn) hn hev; omega)))) rd_AB_isIn m_577 m_229 (Nat.le_of_ble_eq_true rfl) (Nat.le_of_ble_eq_true rfl) (Nat.le_of_ble_eq_true rfl) (Nat.le_of_ble_eq_true rfl) rfl rfl (Nat.le_of_ble_eq_true rfl) d_AB_holds_70 [] [0, 1, 2, 3, 4, 5, 6, 7] rfl (by decide) rfl (by decide) (by decide) (fun r70 _ (hr70 : r70 = bI ((metM (lnM kn T n TS M P) k (lnEv kn n ev) ((lnEv kn n ev) + 1)).testBit i)) => ?_)
        subst hr70
        refine g_cells (ws' := [(bb, .inr (0, [.ref h, .ref g, .ref li, .ref q, .ref v, .ref w])), (h, .inr (6, [.ref t, .ref u, .int (nI n)])), (t, .inl (E 0, 12, .inl (aN T))), (u, .inl (E 0, 12, .inl (aN U))), (g, .inr (4, [.ref ga, .ref gb, .ref gc, .int (nI (lnC kn T n TS M P tc)), .int (nI (lnEv kn n ev)), .int (bI true)])), (ga, .inl (E 0, 4096, .inl (aN (lnTS kn T n TS)))), (gb, .inl (E 0, 4096, .inl (aN (lnM kn T n TS M P)))), (gc, .inl (E 0, 924, .inl (aN (lnP kn T n TS M P))))]) [0, 1, 2, 3, 4, 5, 6, 7] (by decide) rfl ?_
        exact g_zret C hrt hlk () (congrArg bI (by rw [b2]; rfl)) rfl d_AB_holds_73
    · skip
      rw [inR_nI (by omega) (by omega)] at b1; simp at b1; omega
