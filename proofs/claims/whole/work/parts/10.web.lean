set_option maxHeartbeats 4000000 in
set_option maxRecDepth 100000 in
theorem c_isIn (l : Launch) (D : va_G) (E : Nat → ClassId) (i : Nat) (k : Nat) (hi : i < 31) (hk : k < 2 ^ 31) : MI l D E y_AB_isIn (.code y_AB_isIn k_AB_isIn 2 (some .boolean)) ({ frames := 0, cells := 0, slots := 0, locals := 0 } : Room) [.int (nI i), .int (nI k)] [] (fun (r : Int32) (_ : Unit) => r = bI (k.testBit i)) (fun _ : Unit => []) := by
  refine MI.of (by decide) (Nat.le_of_ble_eq_true rfl) ?_
  intro p e s m args below meth c A C hrt hlk hnm
  refine g_lv (lv' := [(0, .int (nI i)), (1, .int (nI k))]) rfl ?_
  refine g_iload_n C d_AB_isIn_0 rfl 1 rfl ?_
  refine g_iconst (v := nI 1) C d_AB_isIn_1 (by decide) ?_
  refine g_iload_n C d_AB_isIn_2 rfl 0 rfl ?_
  refine g_ishl1N C (by omega) d_AB_isIn_3 ?_
  refine g_iandN C d_AB_isIn_4 ?_
  refine g_if_eqN (tgt := 12) C (and_lt (pow_lt (by omega))) d_AB_isIn_5 (by decide) (fun b0 => ?_) (fun b0 => ?_)
  · skip
    refine g_iconst (v := nI 0) C d_AB_isIn_12 (by decide) ?_
    refine g_top (show nI 0 = bI false from rfl) ?_
    exact g_zret C hrt hlk () (congrArg bI (by first | exact (and_pow_bit.mp b0).symm | exact (bt_of (fun q => b0 (and_pow_bit.mpr q))).symm)) rfl d_AB_isIn_13
  · skip
    refine g_iconst (v := nI 1) C d_AB_isIn_8 (by decide) ?_
    refine g_goto (tgt := 13) C d_AB_isIn_9 (by decide) ?_
    refine g_top (show nI 1 = bI true from rfl) ?_
    exact g_zret C hrt hlk () (congrArg bI (by first | exact (and_pow_bit.mp b0).symm | exact (bt_of (fun q => b0 (and_pow_bit.mpr q))).symm)) rfl d_AB_isIn_13

set_option maxHeartbeats 4000000 in
set_option maxRecDepth 100000 in
theorem c_isWithin (l : Launch) (D : va_G) (E : Nat → ClassId) (x : Int32) (k : Nat)  : MI l D E y_AB_isWithin (.code y_AB_isWithin k_AB_isWithin 2 (some .boolean)) ({ frames := 0, cells := 0, slots := 0, locals := 0 } : Room) [.int x, .int (nI k)] [] (fun (r : Int32) (_ : Unit) => r = bI (decide (x &&& (nI k ^^^ -1) = 0))) (fun _ : Unit => []) := by
  refine MI.of (by decide) (Nat.le_of_ble_eq_true rfl) ?_
  intro p e s m args below meth c A C hrt hlk hnm
  refine g_lv (lv' := [(0, .int x), (1, .int (nI k))]) rfl ?_
  refine g_iload_n C d_AB_isWithin_0 rfl 0 rfl ?_
  refine g_iload_n C d_AB_isWithin_1 rfl 1 rfl ?_
  refine g_iconst (v := (-1)) C d_AB_isWithin_2 (by decide) ?_
  refine g_ixor C d_AB_isWithin_3 ?_
  refine g_iand C d_AB_isWithin_4 ?_
  refine g_if_ne (tgt := 12) C d_AB_isWithin_5 (by decide) (fun b0 => ?_) (fun b0 => ?_)
  · skip
    refine g_iconst (v := nI 0) C d_AB_isWithin_12 (by decide) ?_
    refine g_top (show nI 0 = bI false from rfl) ?_
    exact g_zret C hrt hlk () (congrArg bI (by simp_all)) rfl d_AB_isWithin_13
  · skip
    refine g_iconst (v := nI 1) C d_AB_isWithin_8 (by decide) ?_
    refine g_goto (tgt := 13) C d_AB_isWithin_9 (by decide) ?_
    refine g_top (show nI 1 = bI true from rfl) ?_
    exact g_zret C hrt hlk () (congrArg bI (by simp_all)) rfl d_AB_isWithin_13

set_option maxHeartbeats 4000000 in
set_option maxRecDepth 100000 in
theorem c_isWithinN (l : Launch) (D : va_G) (E : Nat → ClassId) (j : Nat) (k : Nat) (hj : j < 2 ^ 31) : MI l D E y_AB_isWithin (.code y_AB_isWithin k_AB_isWithin 2 (some .boolean)) ({ frames := 0, cells := 0, slots := 0, locals := 0 } : Room) [.int (nI j), .int (nI k)] [] (fun (r : Int32) (_ : Unit) => r = bI (dif j k == 0)) (fun _ : Unit => []) := by
  refine MI.of (by decide) (Nat.le_of_ble_eq_true rfl) ?_
  intro p e s m args below meth c A C hrt hlk hnm
  refine g_lv (lv' := [(0, .int (nI j)), (1, .int (nI k))]) rfl ?_
  refine g_iload_n C d_AB_isWithin_0 rfl 0 rfl ?_
  refine g_iload_n C d_AB_isWithin_1 rfl 1 rfl ?_
  refine g_iconst (v := (-1)) C d_AB_isWithin_2 (by decide) ?_
  refine g_ixor C d_AB_isWithin_3 ?_
  refine g_iandD C d_AB_isWithin_4 ?_
  refine g_if_neN (tgt := 12) C (dif_lt hj) d_AB_isWithin_5 (by decide) (fun b0 => ?_) (fun b0 => ?_)
  · skip
    refine g_iconst (v := nI 0) C d_AB_isWithin_12 (by decide) ?_
    refine g_top (show nI 0 = bI false from rfl) ?_
    exact g_zret C hrt hlk () (congrArg bI (by simp_all)) rfl d_AB_isWithin_13
  · skip
    refine g_iconst (v := nI 1) C d_AB_isWithin_8 (by decide) ?_
    refine g_goto (tgt := 13) C d_AB_isWithin_9 (by decide) ?_
    refine g_top (show nI 1 = bI true from rfl) ?_
    exact g_zret C hrt hlk () (congrArg bI (by simp_all)) rfl d_AB_isWithin_13

set_option maxHeartbeats 4000000 in
set_option maxRecDepth 100000 in
theorem c_isKind (l : Launch) (D : va_G) (E : Nat → ClassId) (x : Int32)  : MI l D E y_AB_isKind (.code y_AB_isKind k_AB_isKind 1 (some .boolean)) ({ frames := 0, cells := 0, slots := 0, locals := 0 } : Room) [.int x] [] (fun (r : Int32) (_ : Unit) => r = bI (inR x 5)) (fun _ : Unit => []) := by
  refine MI.of (by decide) (Nat.le_of_ble_eq_true rfl) ?_
  intro p e s m args below meth c A C hrt hlk hnm
  refine g_lv (lv' := [(0, .int x)]) rfl ?_
  refine g_iload_n C d_AB_isKind_0 rfl 0 rfl ?_
  refine g_if_lt (tgt := 13) C d_AB_isKind_1 (by decide) (fun b0 => ?_) (fun b0 => ?_)
  · skip
    refine g_iconst (v := nI 0) C d_AB_isKind_13 (by decide) ?_
    refine g_top (show nI 0 = bI false from rfl) ?_
    exact g_zret C hrt hlk () (congrArg bI (by simp_all [inR])) rfl d_AB_isKind_14
  · skip
    refine g_iload_n C d_AB_isKind_4 rfl 0 rfl ?_
    refine g_iconst (v := nI 5) C d_AB_isKind_5 (by decide) ?_
    refine g_icmp_ge (tgt := 13) C d_AB_isKind_6 (by decide) (fun b1 => ?_) (fun b1 => ?_)
    · skip
      refine g_iconst (v := nI 0) C d_AB_isKind_13 (by decide) ?_
      refine g_top (show nI 0 = bI false from rfl) ?_
      exact g_zret C hrt hlk () (congrArg bI (by simp_all [inR])) rfl d_AB_isKind_14
    · skip
      refine g_iconst (v := nI 1) C d_AB_isKind_9 (by decide) ?_
      refine g_goto (tgt := 14) C d_AB_isKind_10 (by decide) ?_
      refine g_top (show nI 1 = bI true from rfl) ?_
      exact g_zret C hrt hlk () (congrArg bI (by simp_all [inR])) rfl d_AB_isKind_14

set_option maxHeartbeats 4000000 in
set_option maxRecDepth 100000 in
theorem c_Web_size (l : Launch) (D : va_G) (E : Nat → ClassId) (h : Nat) (t : Nat) (u : Nat) (n : Nat) (T : Nat → Nat) (U : Nat → Nat)  : MI l D E y_Web_size (.code y_Web_size k_Web_size 1 (some .int)) ({ frames := 0, cells := 0, slots := 0, locals := 0 } : Room) [.ref h] [(h, .inr (6, [.ref t, .ref u, .int (nI n)])), (t, .inl (E 0, 12, .inl (aN T))), (u, .inl (E 0, 12, .inl (aN U)))] (fun (r : Int32) (_ : Unit) => r = nI n) (fun _ : Unit => [(h, .inr (6, [.ref t, .ref u, .int (nI n)])), (t, .inl (E 0, 12, .inl (aN T))), (u, .inl (E 0, 12, .inl (aN U)))]) := by
  refine MI.of (by decide) (Nat.le_of_ble_eq_true rfl) ?_
  intro p e s m args below meth c A C hrt hlk hnm
  refine g_lv (lv' := [(0, .ref h)]) rfl ?_
  refine g_aload_n C d_Web_size_0 rfl 0 rfl ?_
  refine g_get C lay_Web 0 rfl rfl 2 (by decide) m_67 rfl d_Web_size_1 ?_
  exact g_iret C hrt hlk () (rfl) rfl d_Web_size_4

set_option maxHeartbeats 4000000 in
set_option maxRecDepth 100000 in
theorem c_Web_everything (l : Launch) (D : va_G) (E : Nat → ClassId) (h : Nat) (t : Nat) (u : Nat) (n : Nat) (T : Nat → Nat) (U : Nat → Nat) (hn : n ≤ 12) : MI l D E y_Web_everything (.code y_Web_everything k_Web_everything 1 (some .int)) ({ frames := 0, cells := 0, slots := 0, locals := 0 } : Room) [.ref h] [(h, .inr (6, [.ref t, .ref u, .int (nI n)])), (t, .inl (E 0, 12, .inl (aN T))), (u, .inl (E 0, 12, .inl (aN U)))] (fun (r : Int32) (_ : Unit) => r = nI (2 ^ n - 1)) (fun _ : Unit => [(h, .inr (6, [.ref t, .ref u, .int (nI n)])), (t, .inl (E 0, 12, .inl (aN T))), (u, .inl (E 0, 12, .inl (aN U)))]) := by
  refine MI.of (by decide) (Nat.le_of_ble_eq_true rfl) ?_
  intro p e s m args below meth c A C hrt hlk hnm
  refine g_lv (lv' := [(0, .ref h)]) rfl ?_
  refine g_iconst (v := nI 1) C d_Web_everything_0 (by decide) ?_
  refine g_aload_n C d_Web_everything_1 rfl 0 rfl ?_
  refine g_get C lay_Web 0 rfl rfl 2 (by decide) m_67 rfl d_Web_everything_2 ?_
  refine g_ishl1N C (by omega) d_Web_everything_5 ?_
  refine g_iconst (v := nI 1) C d_Web_everything_6 (by decide) ?_
  refine g_isubN C Nat.one_le_two_pow d_Web_everything_7 ?_
  exact g_iret C hrt hlk () (rfl) rfl d_Web_everything_8

set_option maxHeartbeats 4000000 in
set_option maxRecDepth 100000 in
theorem c_Web_has (l : Launch) (D : va_G) (E : Nat → ClassId) (h : Nat) (t : Nat) (u : Nat) (n : Nat) (T : Nat → Nat) (U : Nat → Nat) (x : Int32)  : MI l D E y_Web_has (.code y_Web_has k_Web_has 2 (some .boolean)) ({ frames := 0, cells := 0, slots := 0, locals := 0 } : Room) [.ref h, .int x] [(h, .inr (6, [.ref t, .ref u, .int (nI n)])), (t, .inl (E 0, 12, .inl (aN T))), (u, .inl (E 0, 12, .inl (aN U)))] (fun (r : Int32) (_ : Unit) => r = bI (inR x n)) (fun _ : Unit => [(h, .inr (6, [.ref t, .ref u, .int (nI n)])), (t, .inl (E 0, 12, .inl (aN T))), (u, .inl (E 0, 12, .inl (aN U)))]) := by
  refine MI.of (by decide) (Nat.le_of_ble_eq_true rfl) ?_
  intro p e s m args below meth c A C hrt hlk hnm
  refine g_lv (lv' := [(0, .ref h), (1, .int x)]) rfl ?_
  refine g_iload_n C d_Web_has_0 rfl 1 rfl ?_
  refine g_if_lt (tgt := 16) C d_Web_has_1 (by decide) (fun b0 => ?_) (fun b0 => ?_)
  · skip
    refine g_iconst (v := nI 0) C d_Web_has_16 (by decide) ?_
    refine g_top (show nI 0 = bI false from rfl) ?_
    exact g_zret C hrt hlk () (congrArg bI (by simp_all [inR])) rfl d_Web_has_17
  · skip
    refine g_iload_n C d_Web_has_4 rfl 1 rfl ?_
    refine g_aload_n C d_Web_has_5 rfl 0 rfl ?_
    refine g_get C lay_Web 0 rfl rfl 2 (by decide) m_67 rfl d_Web_has_6 ?_
    refine g_icmp_ge (tgt := 16) C d_Web_has_9 (by decide) (fun b1 => ?_) (fun b1 => ?_)
    · skip
      refine g_iconst (v := nI 0) C d_Web_has_16 (by decide) ?_
      refine g_top (show nI 0 = bI false from rfl) ?_
      exact g_zret C hrt hlk () (congrArg bI (by simp_all [inR])) rfl d_Web_has_17
    · skip
      refine g_iconst (v := nI 1) C d_Web_has_12 (by decide) ?_
      refine g_goto (tgt := 17) C d_Web_has_13 (by decide) ?_
      refine g_top (show nI 1 = bI true from rfl) ?_
      exact g_zret C hrt hlk () (congrArg bI (by simp_all [inR])) rfl d_Web_has_17

set_option maxHeartbeats 4000000 in
set_option maxRecDepth 100000 in
theorem c_Web_hasSet (l : Launch) (D : va_G) (E : Nat → ClassId) (h : Nat) (t : Nat) (u : Nat) (n : Nat) (T : Nat → Nat) (U : Nat → Nat) (x : Int32) (hn : n ≤ 12) : MI l D E y_Web_hasSet (.code y_Web_hasSet k_Web_hasSet 2 (some .boolean)) ({ frames := 1, cells := 0, slots := 0, locals := 21 } : Room) [.ref h, .int x] [(h, .inr (6, [.ref t, .ref u, .int (nI n)])), (t, .inl (E 0, 12, .inl (aN T))), (u, .inl (E 0, 12, .inl (aN U)))] (fun (r : Int32) (_ : Unit) => r = bI (decide (x &&& (nI (2 ^ n - 1) ^^^ -1) = 0))) (fun _ : Unit => [(h, .inr (6, [.ref t, .ref u, .int (nI n)])), (t, .inl (E 0, 12, .inl (aN T))), (u, .inl (E 0, 12, .inl (aN U)))]) := by
  refine MI.of (by decide) (Nat.le_of_ble_eq_true rfl) ?_
  intro p e s m args below meth c A C hrt hlk hnm
  refine g_lv (lv' := [(0, .ref h), (1, .int x)]) rfl ?_
  refine g_iload_n C d_Web_hasSet_0 rfl 1 rfl ?_
  refine g_aload_n C d_Web_hasSet_1 rfl 0 rfl ?_
  refine g_iV (rest := [.int x]) (wr := []) C (c_Web_everything l D E h t u n T U (by omega)) rd_Web_everything m_263 m_264 m_265 rfl rfl (Nat.le_of_ble_eq_true rfl) (Nat.le_of_ble_eq_true rfl) (Nat.le_of_ble_eq_true rfl) (Nat.le_of_ble_eq_true rfl) rfl rfl (Nat.le_of_ble_eq_true rfl) d_Web_hasSet_2 [0, 1, 2] [] rfl (by decide) rfl (by decide) (by decide) (fun r2 _ (hr2 : r2 = nI (2 ^ n - 1)) => ?_)
  subst hr2
  refine g_cells (ws' := [(h, .inr (6, [.ref t, .ref u, .int (nI n)])), (t, .inl (E 0, 12, .inl (aN T))), (u, .inl (E 0, 12, .inl (aN U)))]) [0, 1, 2] (by decide) rfl ?_
  refine g_iSN (rest := []) (wr := [(h, .inr (6, [.ref t, .ref u, .int (nI n)])), (t, .inl (E 0, 12, .inl (aN T))), (u, .inl (E 0, 12, .inl (aN U)))]) C (c_isWithin l D E x (2 ^ n - 1) ) rd_AB_isWithin m_267 m_268 (Nat.le_of_ble_eq_true rfl) (Nat.le_of_ble_eq_true rfl) (Nat.le_of_ble_eq_true rfl) (Nat.le_of_ble_eq_true rfl) rfl rfl (Nat.le_of_ble_eq_true rfl) d_Web_hasSet_5 [] [0, 1, 2] rfl (by decide) rfl (by decide) (by decide) (fun r5 _ (hr5 : r5 = bI (decide (x &&& (nI (2 ^ n - 1) ^^^ -1) = 0))) => ?_)
  subst hr5
  refine g_cells (ws' := [(h, .inr (6, [.ref t, .ref u, .int (nI n)])), (t, .inl (E 0, 12, .inl (aN T))), (u, .inl (E 0, 12, .inl (aN U)))]) [0, 1, 2] (by decide) rfl ?_
  exact g_zret C hrt hlk () (rfl) rfl d_Web_hasSet_8

set_option maxHeartbeats 4000000 in
set_option maxRecDepth 100000 in
theorem c_Web_hasRoomFor (l : Launch) (D : va_G) (E : Nat → ClassId) (h : Nat) (t : Nat) (u : Nat) (n : Nat) (T : Nat → Nat) (U : Nat → Nat) (k : Nat) (hn : n ≤ 12) (hk : k ≤ 3) : MI l D E y_Web_hasRoomFor (.code y_Web_hasRoomFor k_Web_hasRoomFor 2 (some .boolean)) ({ frames := 0, cells := 0, slots := 0, locals := 0 } : Room) [.ref h, .int (nI k)] [(h, .inr (6, [.ref t, .ref u, .int (nI n)])), (t, .inl (E 0, 12, .inl (aN T))), (u, .inl (E 0, 12, .inl (aN U)))] (fun (r : Int32) (_ : Unit) => r = bI (decide (n + k ≤ 12))) (fun _ : Unit => [(h, .inr (6, [.ref t, .ref u, .int (nI n)])), (t, .inl (E 0, 12, .inl (aN T))), (u, .inl (E 0, 12, .inl (aN U)))]) := by
  refine MI.of (by decide) (Nat.le_of_ble_eq_true rfl) ?_
  intro p e s m args below meth c A C hrt hlk hnm
  refine g_lv (lv' := [(0, .ref h), (1, .int (nI k))]) rfl ?_
  refine g_aload_n C d_Web_hasRoomFor_0 rfl 0 rfl ?_
  refine g_get C lay_Web 0 rfl rfl 2 (by decide) m_67 rfl d_Web_hasRoomFor_1 ?_
  refine g_iload_n C d_Web_hasRoomFor_4 rfl 1 rfl ?_
  refine g_iaddN C d_Web_hasRoomFor_5 ?_
  refine g_bipush (v := nI 12) C d_Web_hasRoomFor_6 (by decide) ?_
  refine g_icmp_gtN (tgt := 15) C (by omega) (by decide) d_Web_hasRoomFor_8 (by decide) (fun b0 => ?_) (fun b0 => ?_)
  · skip
    refine g_iconst (v := nI 0) C d_Web_hasRoomFor_15 (by decide) ?_
    refine g_top (show nI 0 = bI false from rfl) ?_
    exact g_zret C hrt hlk () (congrArg bI (by simp; omega)) rfl d_Web_hasRoomFor_16
  · skip
    refine g_iconst (v := nI 1) C d_Web_hasRoomFor_11 (by decide) ?_
    refine g_goto (tgt := 16) C d_Web_hasRoomFor_12 (by decide) ?_
    refine g_top (show nI 1 = bI true from rfl) ?_
    exact g_zret C hrt hlk () (congrArg bI (by simp; omega)) rfl d_Web_hasRoomFor_16

set_option maxHeartbeats 4000000 in
set_option maxRecDepth 100000 in
theorem c_Web_add (l : Launch) (D : va_G) (E : Nat → ClassId) (h : Nat) (t : Nat) (u : Nat) (n : Nat) (T : Nat → Nat) (U : Nat → Nat) (hn : n < 12) : MI l D E y_Web_add (.code y_Web_add k_Web_add 1 (some .int)) ({ frames := 1, cells := 0, slots := 0, locals := 21 } : Room) [.ref h] [(h, .inr (6, [.ref t, .ref u, .int (nI n)])), (t, .inl (E 0, 12, .inl (aN T))), (u, .inl (E 0, 12, .inl (aN U)))] (fun (r : Int32) (_ : Unit) => r = nI n) (fun _ : Unit => [(h, .inr (6, [.ref t, .ref u, .int (nI (n + 1))])), (t, .inl (E 0, 12, .inl (aN T))), (u, .inl (E 0, 12, .inl (aN U)))]) := by
  refine MI.of (by decide) (Nat.le_of_ble_eq_true rfl) ?_
  intro p e s m args below meth c A C hrt hlk hnm
  refine g_lv (lv' := [(0, .ref h)]) rfl ?_
  refine g_aload_n C d_Web_add_0 rfl 0 rfl ?_
  refine g_iconst (v := nI 1) C d_Web_add_1 (by decide) ?_
  refine g_iV (rest := []) (wr := []) C (c_Web_hasRoomFor l D E h t u n T U 1 (by omega) (by omega)) rd_Web_hasRoomFor m_202 m_195 m_196 rfl rfl (Nat.le_of_ble_eq_true rfl) (Nat.le_of_ble_eq_true rfl) (Nat.le_of_ble_eq_true rfl) (Nat.le_of_ble_eq_true rfl) rfl rfl (Nat.le_of_ble_eq_true rfl) d_Web_add_2 [0, 1, 2] [] rfl (by decide) rfl (by decide) (by decide) (fun r2 _ (hr2 : r2 = bI (decide (n + 1 ≤ 12))) => ?_)
  subst hr2
  refine g_cells (ws' := [(h, .inr (6, [.ref t, .ref u, .int (nI n)])), (t, .inl (E 0, 12, .inl (aN T))), (u, .inl (E 0, 12, .inl (aN U)))]) [0, 1, 2] (by decide) rfl ?_
  refine g_if_neB (tgt := 10) C d_Web_add_5 (by decide) (fun b0 => ?_) (fun b0 => ?_)
  · skip
    refine g_aload_n C d_Web_add_10 rfl 0 rfl ?_
    refine g_dup C d_Web_add_11 rfl ?_
    refine g_get C lay_Web 0 rfl rfl 2 (by decide) m_67 rfl d_Web_add_12 ?_
    refine g_iconst (v := nI 1) C d_Web_add_15 (by decide) ?_
    refine g_iaddN C d_Web_add_16 ?_
    refine g_put (ws' := [(h, .inr (6, [.ref t, .ref u, .int (nI (n + 1))])), (t, .inl (E 0, 12, .inl (aN T))), (u, .inl (E 0, 12, .inl (aN U)))]) C lay_Web ty_Web nm_Web 0 rfl rfl 2 (by decide) m_67 rfl rfl rfl (Nat.le_of_ble_eq_true rfl) rfl d_Web_add_17 ?_
    refine g_aload_n C d_Web_add_20 rfl 0 rfl ?_
    refine g_get C lay_Web 0 rfl rfl 2 (by decide) m_67 rfl d_Web_add_21 ?_
    refine g_iconst (v := nI 1) C d_Web_add_24 (by decide) ?_
    refine g_isubN C (by omega) d_Web_add_25 ?_
    exact g_iret C hrt hlk () (by rw [Nat.add_sub_cancel]) rfl d_Web_add_26
  · skip
    simp at b0; omega

set_option maxHeartbeats 4000000 in
set_option maxRecDepth 100000 in
theorem c_Web_leads (l : Launch) (D : va_G) (E : Nat → ClassId) (h : Nat) (t : Nat) (u : Nat) (n : Nat) (T : Nat → Nat) (U : Nat → Nat) (x : Int32) (y : Int32) (hn : n ≤ 12) (hT : ∀ a, T a < 4096) : MI l D E y_Web_leads (.code y_Web_leads k_Web_leads 3 (some .boolean)) ({ frames := 1, cells := 0, slots := 0, locals := 21 } : Room) [.ref h, .int x, .int y] [(h, .inr (6, [.ref t, .ref u, .int (nI n)])), (t, .inl (E 0, 12, .inl (aN T))), (u, .inl (E 0, 12, .inl (aN U)))] (fun (r : Int32) (_ : Unit) => r = bI (inR x n && inR y n && (T x.toNatClampNeg).testBit y.toNatClampNeg)) (fun _ : Unit => [(h, .inr (6, [.ref t, .ref u, .int (nI n)])), (t, .inl (E 0, 12, .inl (aN T))), (u, .inl (E 0, 12, .inl (aN U)))]) := by
  refine MI.of (by decide) (Nat.le_of_ble_eq_true rfl) ?_
  intro p e s m args below meth c A C hrt hlk hnm
  refine g_lv (lv' := [(0, .ref h), (1, .int x), (2, .int y)]) rfl ?_
  refine g_aload_n C d_Web_leads_0 rfl 0 rfl ?_
  refine g_iload_n C d_Web_leads_1 rfl 1 rfl ?_
  refine g_iV (rest := []) (wr := []) C (c_Web_has l D E h t u n T U x ) rd_Web_has m_227 m_220 m_221 rfl rfl (Nat.le_of_ble_eq_true rfl) (Nat.le_of_ble_eq_true rfl) (Nat.le_of_ble_eq_true rfl) (Nat.le_of_ble_eq_true rfl) rfl rfl (Nat.le_of_ble_eq_true rfl) d_Web_leads_2 [0, 1, 2] [] rfl (by decide) rfl (by decide) (by decide) (fun r2 _ (hr2 : r2 = bI (inR x n)) => ?_)
  subst hr2
  refine g_cells (ws' := [(h, .inr (6, [.ref t, .ref u, .int (nI n)])), (t, .inl (E 0, 12, .inl (aN T))), (u, .inl (E 0, 12, .inl (aN U)))]) [0, 1, 2] (by decide) rfl ?_
  refine g_if_eqB (tgt := 33) C d_Web_leads_5 (by decide) (fun b0 => ?_) (fun b0 => ?_)
  · skip
    refine g_iconst (v := nI 0) C d_Web_leads_33 (by decide) ?_
    refine g_top (show nI 0 = bI false from rfl) ?_
    exact g_zret C hrt hlk () (congrArg bI (by first | (simp_all; done) | (rw [b0, b1, nI_clamp (by omega), nI_clamp (by omega)]; simp_all))) rfl d_Web_leads_34
  · skip
    refine g_aload_n C d_Web_leads_8 rfl 0 rfl ?_
    refine g_iload_n C d_Web_leads_9 rfl 2 rfl ?_
    refine g_iV (rest := []) (wr := []) C (c_Web_has l D E h t u n T U y ) rd_Web_has m_227 m_220 m_221 rfl rfl (Nat.le_of_ble_eq_true rfl) (Nat.le_of_ble_eq_true rfl) (Nat.le_of_ble_eq_true rfl) (Nat.le_of_ble_eq_true rfl) rfl rfl (Nat.le_of_ble_eq_true rfl) d_Web_leads_10 [0, 1, 2] [] rfl (by decide) rfl (by decide) (by decide) (fun r10 _ (hr10 : r10 = bI (inR y n)) => ?_)
    subst hr10
    refine g_cells (ws' := [(h, .inr (6, [.ref t, .ref u, .int (nI n)])), (t, .inl (E 0, 12, .inl (aN T))), (u, .inl (E 0, 12, .inl (aN U)))]) [0, 1, 2] (by decide) rfl ?_
    refine g_if_eqB (tgt := 33) C d_Web_leads_13 (by decide) (fun b1 => ?_) (fun b1 => ?_)
    · skip
      refine g_iconst (v := nI 0) C d_Web_leads_33 (by decide) ?_
      refine g_top (show nI 0 = bI false from rfl) ?_
      exact g_zret C hrt hlk () (congrArg bI (by first | (simp_all; done) | (rw [b0, b1, nI_clamp (by omega), nI_clamp (by omega)]; simp_all))) rfl d_Web_leads_34
    · skip
      refine g_iload_n C d_Web_leads_16 rfl 2 rfl ?_
      refine g_aload_n C d_Web_leads_17 rfl 0 rfl ?_
      refine g_get C lay_Web 0 rfl rfl 0 (by decide) m_65 rfl d_Web_leads_18 ?_
      refine g_iload_n C d_Web_leads_21 rfl 1 rfl ?_
      obtain ⟨i, hi, rfl⟩ := inR_of b0
      obtain ⟨j, hj, rfl⟩ := inR_of b1
      refine g_ialdN C 1 rfl (by omega) (by decide) d_Web_leads_22 ?_
      refine g_top (show (aN T) i = nI (T i) from rfl) ?_
      refine g_iSN (rest := []) (wr := [(h, .inr (6, [.ref t, .ref u, .int (nI n)])), (t, .inl (E 0, 12, .inl (aN T))), (u, .inl (E 0, 12, .inl (aN U)))]) C (c_isIn l D E j (T i) (by omega) (lt4 (hT _))) rd_AB_isIn m_228 m_229 (Nat.le_of_ble_eq_true rfl) (Nat.le_of_ble_eq_true rfl) (Nat.le_of_ble_eq_true rfl) (Nat.le_of_ble_eq_true rfl) rfl rfl (Nat.le_of_ble_eq_true rfl) d_Web_leads_23 [] [0, 1, 2] rfl (by decide) rfl (by decide) (by decide) (fun r23 _ (hr23 : r23 = bI ((T i).testBit j)) => ?_)
      subst hr23
      refine g_cells (ws' := [(h, .inr (6, [.ref t, .ref u, .int (nI n)])), (t, .inl (E 0, 12, .inl (aN T))), (u, .inl (E 0, 12, .inl (aN U)))]) [0, 1, 2] (by decide) rfl ?_
      refine g_if_eqB (tgt := 33) C d_Web_leads_26 (by decide) (fun b2 => ?_) (fun b2 => ?_)
      · skip
        refine g_iconst (v := nI 0) C d_Web_leads_33 (by decide) ?_
        refine g_top (show nI 0 = bI false from rfl) ?_
        exact g_zret C hrt hlk () (congrArg bI (by first | (simp_all; done) | (rw [b0, b1, nI_clamp (by omega), nI_clamp (by omega)]; simp_all))) rfl d_Web_leads_34
      · skip
        refine g_iconst (v := nI 1) C d_Web_leads_29 (by decide) ?_
        refine g_goto (tgt := 34) C d_Web_leads_30 (by decide) ?_
        refine g_top (show nI 1 = bI true from rfl) ?_
        exact g_zret C hrt hlk () (congrArg bI (by first | (simp_all; done) | (rw [b0, b1, nI_clamp (by omega), nI_clamp (by omega)]; simp_all))) rfl d_Web_leads_34

set_option maxHeartbeats 4000000 in
set_option maxRecDepth 100000 in
theorem c_Web_put (l : Launch) (D : va_G) (E : Nat → ClassId) (h : Nat) (t : Nat) (u : Nat) (n : Nat) (T : Nat → Nat) (U : Nat → Nat) (i : Nat) (j : Nat) (on : Bool) (hn : n ≤ 12) (hT : ∀ a, T a < 4096) (hU : ∀ a, U a < 4096) (hi : i < n) (hj : j < n) : MV l D E y_Web_put (.code y_Web_put k_Web_put 4 none) ({ frames := 1, cells := 0, slots := 0, locals := 21 } : Room) [.ref h, .int (nI i), .int (nI j), .int (bI on)] [(h, .inr (6, [.ref t, .ref u, .int (nI n)])), (t, .inl (E 0, 12, .inl (aN T))), (u, .inl (E 0, 12, .inl (aN U)))] (fun _ : Unit => True) (fun _ : Unit => [(h, .inr (6, [.ref t, .ref u, .int (nI n)])), (t, .inl (E 0, 12, .inl (aN (putT on T i j)))), (u, .inl (E 0, 12, .inl (aN (putT on U j i))))]) := by
  refine MV.of (by decide) (Nat.le_of_ble_eq_true rfl) ?_
  intro p e s m args below meth c A C hrt hlk hnm
  refine g_lv (lv' := [(0, .ref h), (1, .int (nI i)), (2, .int (nI j)), (3, .int (bI on))]) rfl ?_
  refine g_aload_n C d_Web_put_0 rfl 0 rfl ?_
  refine g_iload_n C d_Web_put_1 rfl 1 rfl ?_
  refine g_iV (rest := []) (wr := []) C (c_Web_has l D E h t u n T U (nI i) ) rd_Web_has m_227 m_220 m_221 rfl rfl (Nat.le_of_ble_eq_true rfl) (Nat.le_of_ble_eq_true rfl) (Nat.le_of_ble_eq_true rfl) (Nat.le_of_ble_eq_true rfl) rfl rfl (Nat.le_of_ble_eq_true rfl) d_Web_put_2 [0, 1, 2] [] rfl (by decide) rfl (by decide) (by decide) (fun r2 _ (hr2 : r2 = bI (inR (nI i) n)) => ?_)
  subst hr2
  refine g_cells (ws' := [(h, .inr (6, [.ref t, .ref u, .int (nI n)])), (t, .inl (E 0, 12, .inl (aN T))), (u, .inl (E 0, 12, .inl (aN U)))]) [0, 1, 2] (by decide) rfl ?_
  refine g_if_eqB (tgt := 16) C d_Web_put_5 (by decide) (fun b0 => ?_) (fun b0 => ?_)
  · skip
    rw [inR_nI (by omega) (by omega)] at b0; simp at b0; omega
  · skip
    refine g_aload_n C d_Web_put_8 rfl 0 rfl ?_
    refine g_iload_n C d_Web_put_9 rfl 2 rfl ?_
    refine g_iV (rest := []) (wr := []) C (c_Web_has l D E h t u n T U (nI j) ) rd_Web_has m_227 m_220 m_221 rfl rfl (Nat.le_of_ble_eq_true rfl) (Nat.le_of_ble_eq_true rfl) (Nat.le_of_ble_eq_true rfl) (Nat.le_of_ble_eq_true rfl) rfl rfl (Nat.le_of_ble_eq_true rfl) d_Web_put_10 [0, 1, 2] [] rfl (by decide) rfl (by decide) (by decide) (fun r10 _ (hr10 : r10 = bI (inR (nI j) n)) => ?_)
    subst hr10
    refine g_cells (ws' := [(h, .inr (6, [.ref t, .ref u, .int (nI n)])), (t, .inl (E 0, 12, .inl (aN T))), (u, .inl (E 0, 12, .inl (aN U)))]) [0, 1, 2] (by decide) rfl ?_
    refine g_if_neB (tgt := 17) C d_Web_put_13 (by decide) (fun b1 => ?_) (fun b1 => ?_)
    · skip
      refine g_iload_n C d_Web_put_17 rfl 3 rfl ?_
      refine g_if_eqB (tgt := 48) C d_Web_put_18 (by decide) (fun b2 => ?_) (fun b2 => ?_)
      · skip
        refine g_aload_n C d_Web_put_48 rfl 0 rfl ?_
        refine g_get C lay_Web 0 rfl rfl 0 (by decide) m_65 rfl d_Web_put_49 ?_
        refine g_iload_n C d_Web_put_52 rfl 1 rfl ?_
        refine g_dup2 C d_Web_put_53 rfl rfl ?_
        refine g_ialdN C 1 rfl (by omega) (by decide) d_Web_put_54 ?_
        refine g_top (show (aN T) i = nI (T i) from rfl) ?_
        refine g_iconst (v := nI 1) C d_Web_put_55 (by decide) ?_
        refine g_iload_n C d_Web_put_56 rfl 2 rfl ?_
        refine g_ishl1N C (by omega) d_Web_put_57 ?_
        refine g_iconst (v := (-1)) C d_Web_put_58 (by decide) ?_
        refine g_ixor C d_Web_put_59 ?_
        refine g_iandD C d_Web_put_60 ?_
        refine g_iastN (f' := aN (va_up T i (dif (T i) (2 ^ j)))) (ws' := [(h, .inr (6, [.ref t, .ref u, .int (nI n)])), (t, .inl (E 0, 12, .inl (aN (va_up T i (dif (T i) (2 ^ j)))))), (u, .inl (E 0, 12, .inl (aN U)))]) C 1 rfl (by omega) (by decide) (aN_up _ _ _) rfl d_Web_put_61 ?_
        refine g_aload_n C d_Web_put_62 rfl 0 rfl ?_
        refine g_get C lay_Web 0 rfl rfl 1 (by decide) m_66 rfl d_Web_put_63 ?_
        refine g_iload_n C d_Web_put_66 rfl 2 rfl ?_
        refine g_dup2 C d_Web_put_67 rfl rfl ?_
        refine g_ialdN C 2 rfl (by omega) (by decide) d_Web_put_68 ?_
        refine g_top (show (aN U) j = nI (U j) from rfl) ?_
        refine g_iconst (v := nI 1) C d_Web_put_69 (by decide) ?_
        refine g_iload_n C d_Web_put_70 rfl 1 rfl ?_
        refine g_ishl1N C (by omega) d_Web_put_71 ?_
        refine g_iconst (v := (-1)) C d_Web_put_72 (by decide) ?_
        refine g_ixor C d_Web_put_73 ?_
        refine g_iandD C d_Web_put_74 ?_
        refine g_iastN (f' := aN (va_up U j (dif (U j) (2 ^ i)))) (ws' := [(h, .inr (6, [.ref t, .ref u, .int (nI n)])), (t, .inl (E 0, 12, .inl (aN (va_up T i (dif (T i) (2 ^ j)))))), (u, .inl (E 0, 12, .inl (aN (va_up U j (dif (U j) (2 ^ i))))))]) C 2 rfl (by omega) (by decide) (aN_up _ _ _) rfl d_Web_put_75 ?_
        exact g_vret C hrt hlk () (trivial) (by subst b2; rfl) d_Web_put_76
      · skip
        refine g_aload_n C d_Web_put_21 rfl 0 rfl ?_
        refine g_get C lay_Web 0 rfl rfl 0 (by decide) m_65 rfl d_Web_put_22 ?_
        refine g_iload_n C d_Web_put_25 rfl 1 rfl ?_
        refine g_dup2 C d_Web_put_26 rfl rfl ?_
        refine g_ialdN C 1 rfl (by omega) (by decide) d_Web_put_27 ?_
        refine g_top (show (aN T) i = nI (T i) from rfl) ?_
        refine g_iconst (v := nI 1) C d_Web_put_28 (by decide) ?_
        refine g_iload_n C d_Web_put_29 rfl 2 rfl ?_
        refine g_ishl1N C (by omega) d_Web_put_30 ?_
        refine g_iorN C d_Web_put_31 ?_
        refine g_iastN (f' := aN (va_up T i ((T i) ||| (2 ^ j)))) (ws' := [(h, .inr (6, [.ref t, .ref u, .int (nI n)])), (t, .inl (E 0, 12, .inl (aN (va_up T i ((T i) ||| (2 ^ j)))))), (u, .inl (E 0, 12, .inl (aN U)))]) C 1 rfl (by omega) (by decide) (aN_up _ _ _) rfl d_Web_put_32 ?_
        refine g_aload_n C d_Web_put_33 rfl 0 rfl ?_
        refine g_get C lay_Web 0 rfl rfl 1 (by decide) m_66 rfl d_Web_put_34 ?_
        refine g_iload_n C d_Web_put_37 rfl 2 rfl ?_
        refine g_dup2 C d_Web_put_38 rfl rfl ?_
        refine g_ialdN C 2 rfl (by omega) (by decide) d_Web_put_39 ?_
        refine g_top (show (aN U) j = nI (U j) from rfl) ?_
        refine g_iconst (v := nI 1) C d_Web_put_40 (by decide) ?_
        refine g_iload_n C d_Web_put_41 rfl 1 rfl ?_
        refine g_ishl1N C (by omega) d_Web_put_42 ?_
        refine g_iorN C d_Web_put_43 ?_
        refine g_iastN (f' := aN (va_up U j ((U j) ||| (2 ^ i)))) (ws' := [(h, .inr (6, [.ref t, .ref u, .int (nI n)])), (t, .inl (E 0, 12, .inl (aN (va_up T i ((T i) ||| (2 ^ j)))))), (u, .inl (E 0, 12, .inl (aN (va_up U j ((U j) ||| (2 ^ i))))))]) C 2 rfl (by omega) (by decide) (aN_up _ _ _) rfl d_Web_put_44 ?_
        refine g_goto (tgt := 76) C d_Web_put_45 (by decide) ?_
        exact g_vret C hrt hlk () (trivial) (by subst b2; rfl) d_Web_put_76
    · skip
      rw [inR_nI (by omega) (by omega)] at b1; simp at b1; omega

set_option maxHeartbeats 4000000 in
set_option maxRecDepth 100000 in
theorem c_Web_targetsOfOne (l : Launch) (D : va_G) (E : Nat → ClassId) (h : Nat) (t : Nat) (u : Nat) (n : Nat) (T : Nat → Nat) (U : Nat → Nat) (i : Nat) (hn : n ≤ 12) (hi : i < 12) : MI l D E y_Web_targetsOfOne (.code y_Web_targetsOfOne k_Web_targetsOfOne 2 (some .int)) ({ frames := 1, cells := 0, slots := 0, locals := 21 } : Room) [.ref h, .int (nI i)] [(h, .inr (6, [.ref t, .ref u, .int (nI n)])), (t, .inl (E 0, 12, .inl (aN T))), (u, .inl (E 0, 12, .inl (aN U)))] (fun (r : Int32) (_ : Unit) => r = nI (if i < n then T i else 0)) (fun _ : Unit => [(h, .inr (6, [.ref t, .ref u, .int (nI n)])), (t, .inl (E 0, 12, .inl (aN T))), (u, .inl (E 0, 12, .inl (aN U)))]) := by
  refine MI.of (by decide) (Nat.le_of_ble_eq_true rfl) ?_
  intro p e s m args below meth c A C hrt hlk hnm
  refine g_lv (lv' := [(0, .ref h), (1, .int (nI i))]) rfl ?_
  refine g_aload_n C d_Web_targetsOfOne_0 rfl 0 rfl ?_
  refine g_iload_n C d_Web_targetsOfOne_1 rfl 1 rfl ?_
  refine g_iV (rest := []) (wr := []) C (c_Web_has l D E h t u n T U (nI i) ) rd_Web_has m_227 m_220 m_221 rfl rfl (Nat.le_of_ble_eq_true rfl) (Nat.le_of_ble_eq_true rfl) (Nat.le_of_ble_eq_true rfl) (Nat.le_of_ble_eq_true rfl) rfl rfl (Nat.le_of_ble_eq_true rfl) d_Web_targetsOfOne_2 [0, 1, 2] [] rfl (by decide) rfl (by decide) (by decide) (fun r2 _ (hr2 : r2 = bI (inR (nI i) n)) => ?_)
  subst hr2
  refine g_cells (ws' := [(h, .inr (6, [.ref t, .ref u, .int (nI n)])), (t, .inl (E 0, 12, .inl (aN T))), (u, .inl (E 0, 12, .inl (aN U)))]) [0, 1, 2] (by decide) rfl ?_
  refine g_if_eqB (tgt := 17) C d_Web_targetsOfOne_5 (by decide) (fun b0 => ?_) (fun b0 => ?_)
  · skip
    refine g_iconst (v := nI 0) C d_Web_targetsOfOne_17 (by decide) ?_
    exact g_iret C hrt hlk () (congrArg nI (by rw [inR_nI (by omega) (by omega)] at b0; simp at b0; first | (rw [if_pos b0]; done) | rw [if_neg (by omega)])) rfl d_Web_targetsOfOne_18
  · skip
    refine g_aload_n C d_Web_targetsOfOne_8 rfl 0 rfl ?_
    refine g_get C lay_Web 0 rfl rfl 0 (by decide) m_65 rfl d_Web_targetsOfOne_9 ?_
    refine g_iload_n C d_Web_targetsOfOne_12 rfl 1 rfl ?_
    refine g_ialdN C 1 rfl (by omega) (by decide) d_Web_targetsOfOne_13 ?_
    refine g_top (show (aN T) i = nI (T i) from rfl) ?_
    refine g_goto (tgt := 18) C d_Web_targetsOfOne_14 (by decide) ?_
    exact g_iret C hrt hlk () (congrArg nI (by rw [inR_nI (by omega) (by omega)] at b0; simp at b0; first | (rw [if_pos b0]; done) | rw [if_neg (by omega)])) rfl d_Web_targetsOfOne_18

set_option maxHeartbeats 4000000 in
set_option maxRecDepth 100000 in
theorem c_Web_attackersOfOne (l : Launch) (D : va_G) (E : Nat → ClassId) (h : Nat) (t : Nat) (u : Nat) (n : Nat) (T : Nat → Nat) (U : Nat → Nat) (i : Nat) (hn : n ≤ 12) (hi : i < 12) : MI l D E y_Web_attackersOfOne (.code y_Web_attackersOfOne k_Web_attackersOfOne 2 (some .int)) ({ frames := 1, cells := 0, slots := 0, locals := 21 } : Room) [.ref h, .int (nI i)] [(h, .inr (6, [.ref t, .ref u, .int (nI n)])), (t, .inl (E 0, 12, .inl (aN T))), (u, .inl (E 0, 12, .inl (aN U)))] (fun (r : Int32) (_ : Unit) => r = nI (if i < n then U i else 0)) (fun _ : Unit => [(h, .inr (6, [.ref t, .ref u, .int (nI n)])), (t, .inl (E 0, 12, .inl (aN T))), (u, .inl (E 0, 12, .inl (aN U)))]) := by
  refine MI.of (by decide) (Nat.le_of_ble_eq_true rfl) ?_
  intro p e s m args below meth c A C hrt hlk hnm
  refine g_lv (lv' := [(0, .ref h), (1, .int (nI i))]) rfl ?_
  refine g_aload_n C d_Web_attackersOfOne_0 rfl 0 rfl ?_
  refine g_iload_n C d_Web_attackersOfOne_1 rfl 1 rfl ?_
  refine g_iV (rest := []) (wr := []) C (c_Web_has l D E h t u n T U (nI i) ) rd_Web_has m_227 m_220 m_221 rfl rfl (Nat.le_of_ble_eq_true rfl) (Nat.le_of_ble_eq_true rfl) (Nat.le_of_ble_eq_true rfl) (Nat.le_of_ble_eq_true rfl) rfl rfl (Nat.le_of_ble_eq_true rfl) d_Web_attackersOfOne_2 [0, 1, 2] [] rfl (by decide) rfl (by decide) (by decide) (fun r2 _ (hr2 : r2 = bI (inR (nI i) n)) => ?_)
  subst hr2
  refine g_cells (ws' := [(h, .inr (6, [.ref t, .ref u, .int (nI n)])), (t, .inl (E 0, 12, .inl (aN T))), (u, .inl (E 0, 12, .inl (aN U)))]) [0, 1, 2] (by decide) rfl ?_
  refine g_if_eqB (tgt := 17) C d_Web_attackersOfOne_5 (by decide) (fun b0 => ?_) (fun b0 => ?_)
  · skip
    refine g_iconst (v := nI 0) C d_Web_attackersOfOne_17 (by decide) ?_
    exact g_iret C hrt hlk () (congrArg nI (by rw [inR_nI (by omega) (by omega)] at b0; simp at b0; first | (rw [if_pos b0]; done) | rw [if_neg (by omega)])) rfl d_Web_attackersOfOne_18
  · skip
    refine g_aload_n C d_Web_attackersOfOne_8 rfl 0 rfl ?_
    refine g_get C lay_Web 0 rfl rfl 1 (by decide) m_66 rfl d_Web_attackersOfOne_9 ?_
    refine g_iload_n C d_Web_attackersOfOne_12 rfl 1 rfl ?_
    refine g_ialdN C 2 rfl (by omega) (by decide) d_Web_attackersOfOne_13 ?_
    refine g_top (show (aN U) i = nI (U i) from rfl) ?_
    refine g_goto (tgt := 18) C d_Web_attackersOfOne_14 (by decide) ?_
    exact g_iret C hrt hlk () (congrArg nI (by rw [inR_nI (by omega) (by omega)] at b0; simp at b0; first | (rw [if_pos b0]; done) | rw [if_neg (by omega)])) rfl d_Web_attackersOfOne_18

set_option maxHeartbeats 4000000 in
set_option maxRecDepth 100000 in
theorem c_Web_targetsOf (l : Launch) (D : va_G) (E : Nat → ClassId) (h : Nat) (t : Nat) (u : Nat) (n : Nat) (T : Nat → Nat) (U : Nat → Nat) (k : Nat) (hn : n ≤ 12) (hk : k < 2 ^ 31) (hT : ∀ a, T a < 4096) : MI l D E y_Web_targetsOf (.code y_Web_targetsOf k_Web_targetsOf 4 (some .int)) ({ frames := 1, cells := 0, slots := 0, locals := 21 } : Room) [.ref h, .int (nI k)] [(h, .inr (6, [.ref t, .ref u, .int (nI n)])), (t, .inl (E 0, 12, .inl (aN T))), (u, .inl (E 0, 12, .inl (aN U)))] (fun (r : Int32) (_ : Unit) => r = nI (tgU T k n)) (fun _ : Unit => [(h, .inr (6, [.ref t, .ref u, .int (nI n)])), (t, .inl (E 0, 12, .inl (aN T))), (u, .inl (E 0, 12, .inl (aN U)))]) := by
  refine MI.of (by decide) (Nat.le_of_ble_eq_true rfl) ?_
  intro p e s m args below meth c A C hrt hlk hnm
  refine g_lv (lv' := [(0, .ref h), (1, .int (nI k))]) rfl ?_
  refine g_iconst (v := nI 0) C d_Web_targetsOf_0 (by decide) ?_
  refine g_istore_n (lv' := [(2, .int (nI 0)), (0, .ref h), (1, .int (nI k))]) C d_Web_targetsOf_1 rfl (by decide) rfl ?_
  refine g_iconst (v := nI 0) C d_Web_targetsOf_2 (by decide) ?_
  refine g_istore_n (lv' := [(3, .int (nI 0)), (2, .int (nI 0)), (0, .ref h), (1, .int (nI k))]) C d_Web_targetsOf_3 rfl (by decide) rfl ?_
  have loop4 : ∀ (f : Nat) (i : Nat) (acc : Nat), (i ≤ n) → (acc = tgU T k i) → n - i < f → GG p l e ({ frames := 1, cells := 0, slots := 0, locals := 21 } : Room) s m args below meth c (MQ below (va_Qi (fun (r : Int32) (_ : Unit) => r = nI (tgU T k n)) (BC D A (fun _ : Unit => [(h, .inr (6, [.ref t, .ref u, .int (nI n)])), (t, .inl (E 0, 12, .inl (aN T))), (u, .inl (E 0, 12, .inl (aN U)))])) A) args s (({ frames := 1, cells := 0, slots := 0, locals := 21 } : Room)).cells (({ frames := 1, cells := 0, slots := 0, locals := 21 } : Room)).slots A) D A 4 0 0 4 [(0, .ref h), (1, .int (nI k)), (2, .int (nI acc)), (3, .int (nI i))] [] [(h, .inr (6, [.ref t, .ref u, .int (nI n)])), (t, .inl (E 0, 12, .inl (aN T))), (u, .inl (E 0, 12, .inl (aN U)))] := by
    intro f
    induction f with
    | zero => intro i acc hi ha hf; exact absurd hf (Nat.not_lt_zero _)
    | succ f ih =>
      intro i acc hi ha hf
      have ih4 := ih
      refine g_iload_n C d_Web_targetsOf_4 rfl 3 rfl ?_
      refine g_aload_n C d_Web_targetsOf_5 rfl 0 rfl ?_
      refine g_get C lay_Web 0 rfl rfl 2 (by decide) m_67 rfl d_Web_targetsOf_6 ?_
      refine g_icmp_geN (tgt := 35) C (by omega) (by omega) d_Web_targetsOf_9 (by decide) (fun b0 => ?_) (fun b0 => ?_)
      · skip
        refine g_iload_n C d_Web_targetsOf_35 rfl 2 rfl ?_
        exact g_iret C hrt hlk () (by rw [ha, show i = n by omega]) rfl d_Web_targetsOf_36
      · skip
        refine g_iload_n C d_Web_targetsOf_12 rfl 3 rfl ?_
        refine g_iload_n C d_Web_targetsOf_13 rfl 1 rfl ?_
        refine g_iSN (rest := []) (wr := [(h, .inr (6, [.ref t, .ref u, .int (nI n)])), (t, .inl (E 0, 12, .inl (aN T))), (u, .inl (E 0, 12, .inl (aN U)))]) C (c_isIn l D E i k (by omega) hk) rd_AB_isIn m_228 m_229 (Nat.le_of_ble_eq_true rfl) (Nat.le_of_ble_eq_true rfl) (Nat.le_of_ble_eq_true rfl) (Nat.le_of_ble_eq_true rfl) rfl rfl (Nat.le_of_ble_eq_true rfl) d_Web_targetsOf_14 [] [0, 1, 2] rfl (by decide) rfl (by decide) (by decide) (fun r14 _ (hr14 : r14 = bI (k.testBit i)) => ?_)
        subst hr14
        refine g_cells (ws' := [(h, .inr (6, [.ref t, .ref u, .int (nI n)])), (t, .inl (E 0, 12, .inl (aN T))), (u, .inl (E 0, 12, .inl (aN U)))]) [0, 1, 2] (by decide) rfl ?_
        refine g_if_eqB (tgt := 29) C d_Web_targetsOf_17 (by decide) (fun b1 => ?_) (fun b1 => ?_)
        · skip
          refine g_iinc (lv' := [(3, .int (nI (i + 1))), (0, .ref h), (1, .int (nI k)), (2, .int (nI acc))]) C d_Web_targetsOf_29 3 rfl (nI_1 _) (by decide) rfl ?_
          refine g_goto (tgt := 4) C d_Web_targetsOf_32 (by decide) ?_
          refine g_perm [1, 2, 3, 0] rfl ?_
          exact ih4 (i + 1) acc (by omega) (by simp [tgU, *]) (by omega)
        · skip
          refine g_iload_n C d_Web_targetsOf_20 rfl 2 rfl ?_
          refine g_aload_n C d_Web_targetsOf_21 rfl 0 rfl ?_
          refine g_get C lay_Web 0 rfl rfl 0 (by decide) m_65 rfl d_Web_targetsOf_22 ?_
          refine g_iload_n C d_Web_targetsOf_25 rfl 3 rfl ?_
          refine g_ialdN C 1 rfl (by omega) (by decide) d_Web_targetsOf_26 ?_
          refine g_top (show (aN T) i = nI (T i) from rfl) ?_
          refine g_iorN C d_Web_targetsOf_27 ?_
          refine g_istore_n (lv' := [(2, .int (nI (acc ||| (T i)))), (0, .ref h), (1, .int (nI k)), (3, .int (nI i))]) C d_Web_targetsOf_28 rfl (by decide) rfl ?_
          refine g_iinc (lv' := [(3, .int (nI (i + 1))), (2, .int (nI (acc ||| (T i)))), (0, .ref h), (1, .int (nI k))]) C d_Web_targetsOf_29 3 rfl (nI_1 _) (by decide) rfl ?_
          refine g_goto (tgt := 4) C d_Web_targetsOf_32 (by decide) ?_
          refine g_perm [2, 3, 1, 0] rfl ?_
          exact ih4 (i + 1) (acc ||| (T i)) (by omega) (by simp [tgU, *]) (by omega)
  refine g_perm [2, 3, 1, 0] rfl ?_
  exact loop4 (n - 0 + 1) 0 0 (Nat.zero_le _) (rfl) (Nat.lt_succ_self _)

set_option maxHeartbeats 4000000 in
set_option maxRecDepth 100000 in
theorem c_Web_attackersOf (l : Launch) (D : va_G) (E : Nat → ClassId) (h : Nat) (t : Nat) (u : Nat) (n : Nat) (T : Nat → Nat) (U : Nat → Nat) (k : Nat) (hn : n ≤ 12) (hk : k < 2 ^ 31) (hU : ∀ a, U a < 4096) : MI l D E y_Web_attackersOf (.code y_Web_attackersOf k_Web_attackersOf 4 (some .int)) ({ frames := 1, cells := 0, slots := 0, locals := 21 } : Room) [.ref h, .int (nI k)] [(h, .inr (6, [.ref t, .ref u, .int (nI n)])), (t, .inl (E 0, 12, .inl (aN T))), (u, .inl (E 0, 12, .inl (aN U)))] (fun (r : Int32) (_ : Unit) => r = nI (tgU U k n)) (fun _ : Unit => [(h, .inr (6, [.ref t, .ref u, .int (nI n)])), (t, .inl (E 0, 12, .inl (aN T))), (u, .inl (E 0, 12, .inl (aN U)))]) := by
  refine MI.of (by decide) (Nat.le_of_ble_eq_true rfl) ?_
  intro p e s m args below meth c A C hrt hlk hnm
  refine g_lv (lv' := [(0, .ref h), (1, .int (nI k))]) rfl ?_
  refine g_iconst (v := nI 0) C d_Web_attackersOf_0 (by decide) ?_
  refine g_istore_n (lv' := [(2, .int (nI 0)), (0, .ref h), (1, .int (nI k))]) C d_Web_attackersOf_1 rfl (by decide) rfl ?_
  refine g_iconst (v := nI 0) C d_Web_attackersOf_2 (by decide) ?_
  refine g_istore_n (lv' := [(3, .int (nI 0)), (2, .int (nI 0)), (0, .ref h), (1, .int (nI k))]) C d_Web_attackersOf_3 rfl (by decide) rfl ?_
  have loop4 : ∀ (f : Nat) (i : Nat) (acc : Nat), (i ≤ n) → (acc = tgU U k i) → n - i < f → GG p l e ({ frames := 1, cells := 0, slots := 0, locals := 21 } : Room) s m args below meth c (MQ below (va_Qi (fun (r : Int32) (_ : Unit) => r = nI (tgU U k n)) (BC D A (fun _ : Unit => [(h, .inr (6, [.ref t, .ref u, .int (nI n)])), (t, .inl (E 0, 12, .inl (aN T))), (u, .inl (E 0, 12, .inl (aN U)))])) A) args s (({ frames := 1, cells := 0, slots := 0, locals := 21 } : Room)).cells (({ frames := 1, cells := 0, slots := 0, locals := 21 } : Room)).slots A) D A 4 0 0 4 [(0, .ref h), (1, .int (nI k)), (2, .int (nI acc)), (3, .int (nI i))] [] [(h, .inr (6, [.ref t, .ref u, .int (nI n)])), (t, .inl (E 0, 12, .inl (aN T))), (u, .inl (E 0, 12, .inl (aN U)))] := by
    intro f
    induction f with
    | zero => intro i acc hi ha hf; exact absurd hf (Nat.not_lt_zero _)
    | succ f ih =>
      intro i acc hi ha hf
      have ih4 := ih
      refine g_iload_n C d_Web_attackersOf_4 rfl 3 rfl ?_
      refine g_aload_n C d_Web_attackersOf_5 rfl 0 rfl ?_
      refine g_get C lay_Web 0 rfl rfl 2 (by decide) m_67 rfl d_Web_attackersOf_6 ?_
      refine g_icmp_geN (tgt := 35) C (by omega) (by omega) d_Web_attackersOf_9 (by decide) (fun b0 => ?_) (fun b0 => ?_)
      · skip
        refine g_iload_n C d_Web_attackersOf_35 rfl 2 rfl ?_
        exact g_iret C hrt hlk () (by rw [ha, show i = n by omega]) rfl d_Web_attackersOf_36
      · skip
        refine g_iload_n C d_Web_attackersOf_12 rfl 3 rfl ?_
        refine g_iload_n C d_Web_attackersOf_13 rfl 1 rfl ?_
        refine g_iSN (rest := []) (wr := [(h, .inr (6, [.ref t, .ref u, .int (nI n)])), (t, .inl (E 0, 12, .inl (aN T))), (u, .inl (E 0, 12, .inl (aN U)))]) C (c_isIn l D E i k (by omega) hk) rd_AB_isIn m_228 m_229 (Nat.le_of_ble_eq_true rfl) (Nat.le_of_ble_eq_true rfl) (Nat.le_of_ble_eq_true rfl) (Nat.le_of_ble_eq_true rfl) rfl rfl (Nat.le_of_ble_eq_true rfl) d_Web_attackersOf_14 [] [0, 1, 2] rfl (by decide) rfl (by decide) (by decide) (fun r14 _ (hr14 : r14 = bI (k.testBit i)) => ?_)
        subst hr14
        refine g_cells (ws' := [(h, .inr (6, [.ref t, .ref u, .int (nI n)])), (t, .inl (E 0, 12, .inl (aN T))), (u, .inl (E 0, 12, .inl (aN U)))]) [0, 1, 2] (by decide) rfl ?_
        refine g_if_eqB (tgt := 29) C d_Web_attackersOf_17 (by decide) (fun b1 => ?_) (fun b1 => ?_)
        · skip
          refine g_iinc (lv' := [(3, .int (nI (i + 1))), (0, .ref h), (1, .int (nI k)), (2, .int (nI acc))]) C d_Web_attackersOf_29 3 rfl (nI_1 _) (by decide) rfl ?_
          refine g_goto (tgt := 4) C d_Web_attackersOf_32 (by decide) ?_
          refine g_perm [1, 2, 3, 0] rfl ?_
          exact ih4 (i + 1) acc (by omega) (by simp [tgU, *]) (by omega)
        · skip
          refine g_iload_n C d_Web_attackersOf_20 rfl 2 rfl ?_
          refine g_aload_n C d_Web_attackersOf_21 rfl 0 rfl ?_
          refine g_get C lay_Web 0 rfl rfl 1 (by decide) m_66 rfl d_Web_attackersOf_22 ?_
          refine g_iload_n C d_Web_attackersOf_25 rfl 3 rfl ?_
          refine g_ialdN C 2 rfl (by omega) (by decide) d_Web_attackersOf_26 ?_
          refine g_top (show (aN U) i = nI (U i) from rfl) ?_
          refine g_iorN C d_Web_attackersOf_27 ?_
          refine g_istore_n (lv' := [(2, .int (nI (acc ||| (U i)))), (0, .ref h), (1, .int (nI k)), (3, .int (nI i))]) C d_Web_attackersOf_28 rfl (by decide) rfl ?_
          refine g_iinc (lv' := [(3, .int (nI (i + 1))), (2, .int (nI (acc ||| (U i)))), (0, .ref h), (1, .int (nI k))]) C d_Web_attackersOf_29 3 rfl (nI_1 _) (by decide) rfl ?_
          refine g_goto (tgt := 4) C d_Web_attackersOf_32 (by decide) ?_
          refine g_perm [2, 3, 1, 0] rfl ?_
          exact ih4 (i + 1) (acc ||| (U i)) (by omega) (by simp [tgU, *]) (by omega)
  refine g_perm [2, 3, 1, 0] rfl ?_
  exact loop4 (n - 0 + 1) 0 0 (Nat.zero_le _) (rfl) (Nat.lt_succ_self _)

set_option maxHeartbeats 4000000 in
set_option maxRecDepth 100000 in
theorem c_Web_defendedOf (l : Launch) (D : va_G) (E : Nat → ClassId) (h : Nat) (t : Nat) (u : Nat) (n : Nat) (T : Nat → Nat) (U : Nat → Nat) (k : Nat) (hn : n ≤ 12) (hk : k < 2 ^ 31) (hT : ∀ a, T a < 4096) : MI l D E y_Web_defendedOf (.code y_Web_defendedOf k_Web_defendedOf 3 (some .int)) ({ frames := 2, cells := 0, slots := 0, locals := 44 } : Room) [.ref h, .int (nI k)] [(h, .inr (6, [.ref t, .ref u, .int (nI n)])), (t, .inl (E 0, 12, .inl (aN T))), (u, .inl (E 0, 12, .inl (aN U)))] (fun (r : Int32) (_ : Unit) => r = nI (dif (2 ^ n - 1) (tgU T (dif (2 ^ n - 1) (tgU T k n)) n))) (fun _ : Unit => [(h, .inr (6, [.ref t, .ref u, .int (nI n)])), (t, .inl (E 0, 12, .inl (aN T))), (u, .inl (E 0, 12, .inl (aN U)))]) := by
  refine MI.of (by decide) (Nat.le_of_ble_eq_true rfl) ?_
  intro p e s m args below meth c A C hrt hlk hnm
  refine g_lv (lv' := [(0, .ref h), (1, .int (nI k))]) rfl ?_
  refine g_aload_n C d_Web_defendedOf_0 rfl 0 rfl ?_
  refine g_iV (rest := []) (wr := []) C (c_Web_everything l D E h t u n T U (by omega)) rd_Web_everything m_263 m_264 m_265 rfl rfl (Nat.le_of_ble_eq_true rfl) (Nat.le_of_ble_eq_true rfl) (Nat.le_of_ble_eq_true rfl) (Nat.le_of_ble_eq_true rfl) rfl rfl (Nat.le_of_ble_eq_true rfl) d_Web_defendedOf_1 [0, 1, 2] [] rfl (by decide) rfl (by decide) (by decide) (fun r1 _ (hr1 : r1 = nI (2 ^ n - 1)) => ?_)
  subst hr1
  refine g_cells (ws' := [(h, .inr (6, [.ref t, .ref u, .int (nI n)])), (t, .inl (E 0, 12, .inl (aN T))), (u, .inl (E 0, 12, .inl (aN U)))]) [0, 1, 2] (by decide) rfl ?_
  refine g_aload_n C d_Web_defendedOf_4 rfl 0 rfl ?_
  refine g_iload_n C d_Web_defendedOf_5 rfl 1 rfl ?_
  refine g_iV (rest := [.int (nI (2 ^ n - 1))]) (wr := []) C (c_Web_targetsOf l D E h t u n T U k hn hk hT) rd_Web_targetsOf m_351 m_271 m_272 rfl rfl (Nat.le_of_ble_eq_true rfl) (Nat.le_of_ble_eq_true rfl) (Nat.le_of_ble_eq_true rfl) (Nat.le_of_ble_eq_true rfl) rfl rfl (Nat.le_of_ble_eq_true rfl) d_Web_defendedOf_6 [0, 1, 2] [] rfl (by decide) rfl (by decide) (by decide) (fun r6 _ (hr6 : r6 = nI (tgU T k n)) => ?_)
  subst hr6
  refine g_cells (ws' := [(h, .inr (6, [.ref t, .ref u, .int (nI n)])), (t, .inl (E 0, 12, .inl (aN T))), (u, .inl (E 0, 12, .inl (aN U)))]) [0, 1, 2] (by decide) rfl ?_
  refine g_iconst (v := (-1)) C d_Web_defendedOf_9 (by decide) ?_
  refine g_ixor C d_Web_defendedOf_10 ?_
  refine g_iandD C d_Web_defendedOf_11 ?_
  refine g_istore_n (lv' := [(2, .int (nI (dif (2 ^ n - 1) (tgU T k n)))), (0, .ref h), (1, .int (nI k))]) C d_Web_defendedOf_12 rfl (by decide) rfl ?_
  refine g_aload_n C d_Web_defendedOf_13 rfl 1 rfl ?_
  refine g_iV (rest := []) (wr := []) C (c_Web_everything l D E h t u n T U (by omega)) rd_Web_everything m_263 m_264 m_265 rfl rfl (Nat.le_of_ble_eq_true rfl) (Nat.le_of_ble_eq_true rfl) (Nat.le_of_ble_eq_true rfl) (Nat.le_of_ble_eq_true rfl) rfl rfl (Nat.le_of_ble_eq_true rfl) d_Web_defendedOf_14 [0, 1, 2] [] rfl (by decide) rfl (by decide) (by decide) (fun r14 _ (hr14 : r14 = nI (2 ^ n - 1)) => ?_)
  subst hr14
  refine g_cells (ws' := [(h, .inr (6, [.ref t, .ref u, .int (nI n)])), (t, .inl (E 0, 12, .inl (aN T))), (u, .inl (E 0, 12, .inl (aN U)))]) [0, 1, 2] (by decide) rfl ?_
  refine g_aload_n C d_Web_defendedOf_17 rfl 1 rfl ?_
  refine g_iload_n C d_Web_defendedOf_18 rfl 0 rfl ?_
  refine g_iV (rest := [.int (nI (2 ^ n - 1))]) (wr := []) C (c_Web_targetsOf l D E h t u n T U (dif (2 ^ n - 1) (tgU T k n)) hn (dif_lt (ev_lt hn)) hT) rd_Web_targetsOf m_351 m_271 m_272 rfl rfl (Nat.le_of_ble_eq_true rfl) (Nat.le_of_ble_eq_true rfl) (Nat.le_of_ble_eq_true rfl) (Nat.le_of_ble_eq_true rfl) rfl rfl (Nat.le_of_ble_eq_true rfl) d_Web_defendedOf_19 [0, 1, 2] [] rfl (by decide) rfl (by decide) (by decide) (fun r19 _ (hr19 : r19 = nI (tgU T (dif (2 ^ n - 1) (tgU T k n)) n)) => ?_)
  subst hr19
  refine g_cells (ws' := [(h, .inr (6, [.ref t, .ref u, .int (nI n)])), (t, .inl (E 0, 12, .inl (aN T))), (u, .inl (E 0, 12, .inl (aN U)))]) [0, 1, 2] (by decide) rfl ?_
  refine g_iconst (v := (-1)) C d_Web_defendedOf_22 (by decide) ?_
  refine g_ixor C d_Web_defendedOf_23 ?_
  refine g_iandD C d_Web_defendedOf_24 ?_
  exact g_iret C hrt hlk () (rfl) rfl d_Web_defendedOf_25
