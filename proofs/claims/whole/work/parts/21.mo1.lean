set_option maxHeartbeats 4000000 in
set_option maxRecDepth 100000 in
theorem o_thrown (l : Launch) (D : va_G) (E : Nat → ClassId) (mo : Nat) (m1 : Nat) (m2 : Nat) (m3 : Nat) (m4 : Nat) (m5 : Nat) (m6 : Nat) (m7 : Nat) (m8 : Nat) (m9 : Nat) (m10 : Nat) (m11 : Nat) (m12 : Nat) (m13 : Nat) (m14 : Nat) (m15 : Nat) (th : Nat) (n : Nat) (kn : Bool) (lg : Bool) (td : Bool) (ld : Nat) (lt : Nat) (gr : Nat) (mv : Nat) (la : Nat)  : MI l D E y_Mo_thrown (.code y_Mo_thrown k_Mo_thrown 1 (some .int)) ({ frames := 0, cells := 0, slots := 0, locals := 0 } : Room) [.ref mo] [(mo, .inr (7, [.int (nI th), .int (nI n), .ref m1, .ref m2, .ref m3, .ref m4, .ref m5, .ref m6, .int (bI kn), .int (bI lg), .int (bI td), .int (nI ld), .int (pI lt), .ref m7, .int (nI gr), .int (nI mv), .ref m8, .ref m9, .ref m10, .ref m11, .ref m12, .ref m13, .int (nI la), .ref m14, .ref m15]))] (fun (r : Int32) (_ : Unit) => r = nI th) (fun _ : Unit => [(mo, .inr (7, [.int (nI th), .int (nI n), .ref m1, .ref m2, .ref m3, .ref m4, .ref m5, .ref m6, .int (bI kn), .int (bI lg), .int (bI td), .int (nI ld), .int (pI lt), .ref m7, .int (nI gr), .int (nI mv), .ref m8, .ref m9, .ref m10, .ref m11, .ref m12, .ref m13, .int (nI la), .ref m14, .ref m15]))]) := by
  refine MI.of (by decide) (Nat.le_of_ble_eq_true rfl) ?_
  intro p e s m args below meth c A C hrt hlk hnm
  refine g_lv (lv' := [(0, .ref mo)]) rfl ?_
  refine g_aload_n C d_Mo_thrown_0 rfl 0 rfl ?_
  refine g_get C lay_Mo 0 rfl rfl 0 (by decide) m_634 rfl d_Mo_thrown_1 ?_
  exact g_iret C hrt hlk () (rfl) rfl d_Mo_thrown_4

set_option maxHeartbeats 4000000 in
set_option maxRecDepth 100000 in
theorem o_isArgument (l : Launch) (D : va_G) (E : Nat → ClassId) (mo : Nat) (m1 : Nat) (m2 : Nat) (m3 : Nat) (m4 : Nat) (m5 : Nat) (m6 : Nat) (m7 : Nat) (m8 : Nat) (m9 : Nat) (m10 : Nat) (m11 : Nat) (m12 : Nat) (m13 : Nat) (m14 : Nat) (m15 : Nat) (th : Nat) (n : Nat) (kn : Bool) (lg : Bool) (td : Bool) (ld : Nat) (lt : Nat) (gr : Nat) (mv : Nat) (la : Nat) (x : Int32)  : MI l D E y_Mo_isArgument (.code y_Mo_isArgument k_Mo_isArgument 2 (some .boolean)) ({ frames := 0, cells := 0, slots := 0, locals := 0 } : Room) [.ref mo, .int x] [(mo, .inr (7, [.int (nI th), .int (nI n), .ref m1, .ref m2, .ref m3, .ref m4, .ref m5, .ref m6, .int (bI kn), .int (bI lg), .int (bI td), .int (nI ld), .int (pI lt), .ref m7, .int (nI gr), .int (nI mv), .ref m8, .ref m9, .ref m10, .ref m11, .ref m12, .ref m13, .int (nI la), .ref m14, .ref m15]))] (fun (r : Int32) (_ : Unit) => r = bI (inR x n)) (fun _ : Unit => [(mo, .inr (7, [.int (nI th), .int (nI n), .ref m1, .ref m2, .ref m3, .ref m4, .ref m5, .ref m6, .int (bI kn), .int (bI lg), .int (bI td), .int (nI ld), .int (pI lt), .ref m7, .int (nI gr), .int (nI mv), .ref m8, .ref m9, .ref m10, .ref m11, .ref m12, .ref m13, .int (nI la), .ref m14, .ref m15]))]) := by
  refine MI.of (by decide) (Nat.le_of_ble_eq_true rfl) ?_
  intro p e s m args below meth c A C hrt hlk hnm
  refine g_lv (lv' := [(0, .ref mo), (1, .int x)]) rfl ?_
  refine g_iload_n C d_Mo_isArgument_0 rfl 1 rfl ?_
  refine g_if_lt (tgt := 16) C d_Mo_isArgument_1 (by decide) (fun b0 => ?_) (fun b0 => ?_)
  · skip
    refine g_iconst (v := nI 0) C d_Mo_isArgument_16 (by decide) ?_
    refine g_top (show nI 0 = bI false from rfl) ?_
    exact g_zret C hrt hlk () (congrArg bI (by simp_all [inR])) rfl d_Mo_isArgument_17
  · skip
    refine g_iload_n C d_Mo_isArgument_4 rfl 1 rfl ?_
    refine g_aload_n C d_Mo_isArgument_5 rfl 0 rfl ?_
    refine g_get C lay_Mo 0 rfl rfl 1 (by decide) m_635 rfl d_Mo_isArgument_6 ?_
    refine g_icmp_ge (tgt := 16) C d_Mo_isArgument_9 (by decide) (fun b1 => ?_) (fun b1 => ?_)
    · skip
      refine g_iconst (v := nI 0) C d_Mo_isArgument_16 (by decide) ?_
      refine g_top (show nI 0 = bI false from rfl) ?_
      exact g_zret C hrt hlk () (congrArg bI (by simp_all [inR])) rfl d_Mo_isArgument_17
    · skip
      refine g_iconst (v := nI 1) C d_Mo_isArgument_12 (by decide) ?_
      refine g_goto (tgt := 17) C d_Mo_isArgument_13 (by decide) ?_
      refine g_top (show nI 1 = bI true from rfl) ?_
      exact g_zret C hrt hlk () (congrArg bI (by simp_all [inR])) rfl d_Mo_isArgument_17

set_option maxHeartbeats 4000000 in
set_option maxRecDepth 100000 in
theorem o_isSet (l : Launch) (D : va_G) (E : Nat → ClassId) (mo : Nat) (m1 : Nat) (m2 : Nat) (m3 : Nat) (m4 : Nat) (m5 : Nat) (m6 : Nat) (m7 : Nat) (m8 : Nat) (m9 : Nat) (m10 : Nat) (m11 : Nat) (m12 : Nat) (m13 : Nat) (m14 : Nat) (m15 : Nat) (th : Nat) (n : Nat) (kn : Bool) (lg : Bool) (td : Bool) (ld : Nat) (lt : Nat) (gr : Nat) (mv : Nat) (la : Nat) (x : Int32) (hn : n ≤ 12) : MI l D E y_Mo_isSet (.code y_Mo_isSet k_Mo_isSet 2 (some .boolean)) ({ frames := 0, cells := 0, slots := 0, locals := 0 } : Room) [.ref mo, .int x] [(mo, .inr (7, [.int (nI th), .int (nI n), .ref m1, .ref m2, .ref m3, .ref m4, .ref m5, .ref m6, .int (bI kn), .int (bI lg), .int (bI td), .int (nI ld), .int (pI lt), .ref m7, .int (nI gr), .int (nI mv), .ref m8, .ref m9, .ref m10, .ref m11, .ref m12, .ref m13, .int (nI la), .ref m14, .ref m15]))] (fun (r : Int32) (_ : Unit) => r = bI (inR x (2 ^ n))) (fun _ : Unit => [(mo, .inr (7, [.int (nI th), .int (nI n), .ref m1, .ref m2, .ref m3, .ref m4, .ref m5, .ref m6, .int (bI kn), .int (bI lg), .int (bI td), .int (nI ld), .int (pI lt), .ref m7, .int (nI gr), .int (nI mv), .ref m8, .ref m9, .ref m10, .ref m11, .ref m12, .ref m13, .int (nI la), .ref m14, .ref m15]))]) := by
  refine MI.of (by decide) (Nat.le_of_ble_eq_true rfl) ?_
  intro p e s m args below meth c A C hrt hlk hnm
  refine g_lv (lv' := [(0, .ref mo), (1, .int x)]) rfl ?_
  refine g_iload_n C d_Mo_isSet_0 rfl 1 rfl ?_
  refine g_if_lt (tgt := 18) C d_Mo_isSet_1 (by decide) (fun b0 => ?_) (fun b0 => ?_)
  · skip
    refine g_iconst (v := nI 0) C d_Mo_isSet_18 (by decide) ?_
    refine g_top (show nI 0 = bI false from rfl) ?_
    exact g_zret C hrt hlk () (congrArg bI (by simp_all [inR])) rfl d_Mo_isSet_19
  · skip
    refine g_iload_n C d_Mo_isSet_4 rfl 1 rfl ?_
    refine g_iconst (v := nI 1) C d_Mo_isSet_5 (by decide) ?_
    refine g_aload_n C d_Mo_isSet_6 rfl 0 rfl ?_
    refine g_get C lay_Mo 0 rfl rfl 1 (by decide) m_635 rfl d_Mo_isSet_7 ?_
    refine g_ishl1N C (by omega) d_Mo_isSet_10 ?_
    refine g_icmp_ge (tgt := 18) C d_Mo_isSet_11 (by decide) (fun b1 => ?_) (fun b1 => ?_)
    · skip
      refine g_iconst (v := nI 0) C d_Mo_isSet_18 (by decide) ?_
      refine g_top (show nI 0 = bI false from rfl) ?_
      exact g_zret C hrt hlk () (congrArg bI (by simp_all [inR])) rfl d_Mo_isSet_19
    · skip
      refine g_iconst (v := nI 1) C d_Mo_isSet_14 (by decide) ?_
      refine g_goto (tgt := 19) C d_Mo_isSet_15 (by decide) ?_
      refine g_top (show nI 1 = bI true from rfl) ?_
      exact g_zret C hrt hlk () (congrArg bI (by simp_all [inR])) rfl d_Mo_isSet_19

set_option maxHeartbeats 4000000 in
set_option maxRecDepth 100000 in
theorem o_isKind (l : Launch) (D : va_G) (E : Nat → ClassId) (x : Int32)  : MI l D E y_Mo_isKind (.code y_Mo_isKind k_Mo_isKind 1 (some .boolean)) ({ frames := 0, cells := 0, slots := 0, locals := 0 } : Room) [.int x] [] (fun (r : Int32) (_ : Unit) => r = bI (inR x 5)) (fun _ : Unit => []) := by
  refine MI.of (by decide) (Nat.le_of_ble_eq_true rfl) ?_
  intro p e s m args below meth c A C hrt hlk hnm
  refine g_lv (lv' := [(0, .int x)]) rfl ?_
  refine g_iload_n C d_Mo_isKind_0 rfl 0 rfl ?_
  refine g_if_lt (tgt := 13) C d_Mo_isKind_1 (by decide) (fun b0 => ?_) (fun b0 => ?_)
  · skip
    refine g_iconst (v := nI 0) C d_Mo_isKind_13 (by decide) ?_
    refine g_top (show nI 0 = bI false from rfl) ?_
    exact g_zret C hrt hlk () (congrArg bI (by simp_all [inR])) rfl d_Mo_isKind_14
  · skip
    refine g_iload_n C d_Mo_isKind_4 rfl 0 rfl ?_
    refine g_iconst (v := nI 5) C d_Mo_isKind_5 (by decide) ?_
    refine g_icmp_ge (tgt := 13) C d_Mo_isKind_6 (by decide) (fun b1 => ?_) (fun b1 => ?_)
    · skip
      refine g_iconst (v := nI 0) C d_Mo_isKind_13 (by decide) ?_
      refine g_top (show nI 0 = bI false from rfl) ?_
      exact g_zret C hrt hlk () (congrArg bI (by simp_all [inR])) rfl d_Mo_isKind_14
    · skip
      refine g_iconst (v := nI 1) C d_Mo_isKind_9 (by decide) ?_
      refine g_goto (tgt := 14) C d_Mo_isKind_10 (by decide) ?_
      refine g_top (show nI 1 = bI true from rfl) ?_
      exact g_zret C hrt hlk () (congrArg bI (by simp_all [inR])) rfl d_Mo_isKind_14

set_option maxHeartbeats 4000000 in
set_option maxRecDepth 100000 in
theorem o_changes (l : Launch) (D : va_G) (E : Nat → ClassId) (mo : Nat) (m1 : Nat) (m2 : Nat) (m3 : Nat) (m4 : Nat) (m5 : Nat) (m6 : Nat) (m7 : Nat) (m8 : Nat) (m9 : Nat) (m10 : Nat) (m11 : Nat) (m12 : Nat) (m13 : Nat) (m14 : Nat) (m15 : Nat) (th : Nat) (n : Nat) (kn : Bool) (lg : Bool) (td : Bool) (ld : Nat) (lt : Nat) (gr : Nat) (mv : Nat) (la : Nat)  : MV l D E y_Mo_changes (.code y_Mo_changes k_Mo_changes 1 none) ({ frames := 0, cells := 0, slots := 0, locals := 0 } : Room) [.ref mo] [(mo, .inr (7, [.int (nI th), .int (nI n), .ref m1, .ref m2, .ref m3, .ref m4, .ref m5, .ref m6, .int (bI kn), .int (bI lg), .int (bI td), .int (nI ld), .int (pI lt), .ref m7, .int (nI gr), .int (nI mv), .ref m8, .ref m9, .ref m10, .ref m11, .ref m12, .ref m13, .int (nI la), .ref m14, .ref m15]))] (fun _ : Unit => True) (fun _ : Unit => [(mo, .inr (7, [.int (nI th), .int (nI n), .ref m1, .ref m2, .ref m3, .ref m4, .ref m5, .ref m6, .int (bI false), .int (bI false), .int (bI false), .int (nI ld), .int (pI lt), .ref m7, .int (nI gr), .int (nI mv), .ref m8, .ref m9, .ref m10, .ref m11, .ref m12, .ref m13, .int (nI la), .ref m14, .ref m15]))]) := by
  refine MV.of (by decide) (Nat.le_of_ble_eq_true rfl) ?_
  intro p e s m args below meth c A C hrt hlk hnm
  refine g_lv (lv' := [(0, .ref mo)]) rfl ?_
  refine g_aload_n C d_Mo_changes_0 rfl 0 rfl ?_
  refine g_iconst (v := nI 0) C d_Mo_changes_1 (by decide) ?_
  refine g_top (show nI 0 = bI false from rfl) ?_
  refine g_put (ws' := [(mo, .inr (7, [.int (nI th), .int (nI n), .ref m1, .ref m2, .ref m3, .ref m4, .ref m5, .ref m6, .int (bI false), .int (bI lg), .int (bI td), .int (nI ld), .int (pI lt), .ref m7, .int (nI gr), .int (nI mv), .ref m8, .ref m9, .ref m10, .ref m11, .ref m12, .ref m13, .int (nI la), .ref m14, .ref m15]))]) C lay_Mo ty_Mo nm_Mo 0 rfl rfl 8 (by decide) m_642 rfl (bI_nar _) (bI_fit _) (Nat.le_of_ble_eq_true rfl) rfl d_Mo_changes_2 ?_
  refine g_aload_n C d_Mo_changes_5 rfl 0 rfl ?_
  refine g_iconst (v := nI 0) C d_Mo_changes_6 (by decide) ?_
  refine g_top (show nI 0 = bI false from rfl) ?_
  refine g_put (ws' := [(mo, .inr (7, [.int (nI th), .int (nI n), .ref m1, .ref m2, .ref m3, .ref m4, .ref m5, .ref m6, .int (bI false), .int (bI false), .int (bI td), .int (nI ld), .int (pI lt), .ref m7, .int (nI gr), .int (nI mv), .ref m8, .ref m9, .ref m10, .ref m11, .ref m12, .ref m13, .int (nI la), .ref m14, .ref m15]))]) C lay_Mo ty_Mo nm_Mo 0 rfl rfl 9 (by decide) m_643 rfl (bI_nar _) (bI_fit _) (Nat.le_of_ble_eq_true rfl) rfl d_Mo_changes_7 ?_
  refine g_aload_n C d_Mo_changes_10 rfl 0 rfl ?_
  refine g_iconst (v := nI 0) C d_Mo_changes_11 (by decide) ?_
  refine g_top (show nI 0 = bI false from rfl) ?_
  refine g_put (ws' := [(mo, .inr (7, [.int (nI th), .int (nI n), .ref m1, .ref m2, .ref m3, .ref m4, .ref m5, .ref m6, .int (bI false), .int (bI false), .int (bI false), .int (nI ld), .int (pI lt), .ref m7, .int (nI gr), .int (nI mv), .ref m8, .ref m9, .ref m10, .ref m11, .ref m12, .ref m13, .int (nI la), .ref m14, .ref m15]))]) C lay_Mo ty_Mo nm_Mo 0 rfl rfl 10 (by decide) m_644 rfl (bI_nar _) (bI_fit _) (Nat.le_of_ble_eq_true rfl) rfl d_Mo_changes_12 ?_
  exact g_vret C hrt hlk () (trivial) rfl d_Mo_changes_15

set_option maxHeartbeats 4000000 in
set_option maxRecDepth 100000 in
theorem o_comes (l : Launch) (D : va_G) (E : Nat → ClassId) (mo : Nat) (m1 : Nat) (m2 : Nat) (m3 : Nat) (m4 : Nat) (m5 : Nat) (m6 : Nat) (m7 : Nat) (m8 : Nat) (m9 : Nat) (m10 : Nat) (m11 : Nat) (m12 : Nat) (m13 : Nat) (m14 : Nat) (m15 : Nat) (th : Nat) (n : Nat) (kn : Bool) (lg : Bool) (td : Bool) (ld : Nat) (lt : Nat) (gr : Nat) (mv : Nat) (la : Nat) (T : Nat → Nat) (U : Nat → Nat) (hn : n < 12) : MI l D E y_Mo_comes (.code y_Mo_comes k_Mo_comes 1 (some .int)) ({ frames := 1, cells := 0, slots := 0, locals := 20 } : Room) [.ref mo] [(mo, .inr (7, [.int (nI th), .int (nI n), .ref m1, .ref m2, .ref m3, .ref m4, .ref m5, .ref m6, .int (bI kn), .int (bI lg), .int (bI td), .int (nI ld), .int (pI lt), .ref m7, .int (nI gr), .int (nI mv), .ref m8, .ref m9, .ref m10, .ref m11, .ref m12, .ref m13, .int (nI la), .ref m14, .ref m15])), (m1, .inl (E 0, 12, .inl (aN T))), (m2, .inl (E 0, 12, .inl (aN U)))] (fun (r : Int32) (_ : Unit) => r = nI n) (fun _ : Unit => [(mo, .inr (7, [.int (nI th), .int (nI (n + 1)), .ref m1, .ref m2, .ref m3, .ref m4, .ref m5, .ref m6, .int (bI false), .int (bI false), .int (bI false), .int (nI ld), .int (pI lt), .ref m7, .int (nI gr), .int (nI mv), .ref m8, .ref m9, .ref m10, .ref m11, .ref m12, .ref m13, .int (nI la), .ref m14, .ref m15])), (m1, .inl (E 0, 12, .inl (aN (va_up T n 0)))), (m2, .inl (E 0, 12, .inl (aN (va_up U n 0))))]) := by
  refine MI.of (by decide) (Nat.le_of_ble_eq_true rfl) ?_
  intro p e s m args below meth c A C hrt hlk hnm
  refine g_lv (lv' := [(0, .ref mo)]) rfl ?_
  refine g_aload_n C d_Mo_comes_0 rfl 0 rfl ?_
  refine g_get C lay_Mo 0 rfl rfl 2 (by decide) m_636 rfl d_Mo_comes_1 ?_
  refine g_aload_n C d_Mo_comes_4 rfl 0 rfl ?_
  refine g_get C lay_Mo 0 rfl rfl 1 (by decide) m_635 rfl d_Mo_comes_5 ?_
  refine g_iconst (v := nI 0) C d_Mo_comes_8 (by decide) ?_
  refine g_iastN (f' := aN (va_up T n 0)) (ws' := [(mo, .inr (7, [.int (nI th), .int (nI n), .ref m1, .ref m2, .ref m3, .ref m4, .ref m5, .ref m6, .int (bI kn), .int (bI lg), .int (bI td), .int (nI ld), .int (pI lt), .ref m7, .int (nI gr), .int (nI mv), .ref m8, .ref m9, .ref m10, .ref m11, .ref m12, .ref m13, .int (nI la), .ref m14, .ref m15])), (m1, .inl (E 0, 12, .inl (aN (va_up T n 0)))), (m2, .inl (E 0, 12, .inl (aN U)))]) C 1 rfl (by omega) (by decide) (aN_up _ _ _) rfl d_Mo_comes_9 ?_
  refine g_aload_n C d_Mo_comes_10 rfl 0 rfl ?_
  refine g_get C lay_Mo 0 rfl rfl 3 (by decide) m_637 rfl d_Mo_comes_11 ?_
  refine g_aload_n C d_Mo_comes_14 rfl 0 rfl ?_
  refine g_get C lay_Mo 0 rfl rfl 1 (by decide) m_635 rfl d_Mo_comes_15 ?_
  refine g_iconst (v := nI 0) C d_Mo_comes_18 (by decide) ?_
  refine g_iastN (f' := aN (va_up U n 0)) (ws' := [(mo, .inr (7, [.int (nI th), .int (nI n), .ref m1, .ref m2, .ref m3, .ref m4, .ref m5, .ref m6, .int (bI kn), .int (bI lg), .int (bI td), .int (nI ld), .int (pI lt), .ref m7, .int (nI gr), .int (nI mv), .ref m8, .ref m9, .ref m10, .ref m11, .ref m12, .ref m13, .int (nI la), .ref m14, .ref m15])), (m1, .inl (E 0, 12, .inl (aN (va_up T n 0)))), (m2, .inl (E 0, 12, .inl (aN (va_up U n 0))))]) C 2 rfl (by omega) (by decide) (aN_up _ _ _) rfl d_Mo_comes_19 ?_
  refine g_aload_n C d_Mo_comes_20 rfl 0 rfl ?_
  refine g_dup C d_Mo_comes_21 rfl ?_
  refine g_get C lay_Mo 0 rfl rfl 1 (by decide) m_635 rfl d_Mo_comes_22 ?_
  refine g_iconst (v := nI 1) C d_Mo_comes_25 (by decide) ?_
  refine g_iaddN C d_Mo_comes_26 ?_
  refine g_put (ws' := [(mo, .inr (7, [.int (nI th), .int (nI (n + 1)), .ref m1, .ref m2, .ref m3, .ref m4, .ref m5, .ref m6, .int (bI kn), .int (bI lg), .int (bI td), .int (nI ld), .int (pI lt), .ref m7, .int (nI gr), .int (nI mv), .ref m8, .ref m9, .ref m10, .ref m11, .ref m12, .ref m13, .int (nI la), .ref m14, .ref m15])), (m1, .inl (E 0, 12, .inl (aN (va_up T n 0)))), (m2, .inl (E 0, 12, .inl (aN (va_up U n 0))))]) C lay_Mo ty_Mo nm_Mo 0 rfl rfl 1 (by decide) m_635 rfl rfl rfl (Nat.le_of_ble_eq_true rfl) rfl d_Mo_comes_27 ?_
  refine g_aload_n C d_Mo_comes_30 rfl 0 rfl ?_
  refine g_vV (rest := []) (wr := [(m1, .inl (E 0, 12, .inl (aN (va_up T n 0)))), (m2, .inl (E 0, 12, .inl (aN (va_up U n 0))))]) C (o_changes l D E mo m1 m2 m3 m4 m5 m6 m7 m8 m9 m10 m11 m12 m13 m14 m15 th (n + 1) kn lg td ld lt gr mv la ) rd_Mo_changes m_723 m_725 m_21 rfl rfl (Nat.le_of_ble_eq_true rfl) (Nat.le_of_ble_eq_true rfl) (Nat.le_of_ble_eq_true rfl) (Nat.le_of_ble_eq_true rfl) rfl rfl (Nat.le_of_ble_eq_true rfl) d_Mo_comes_31 [0] [1, 2] rfl (by decide) rfl (by decide) (by decide) (fun _ _ => ?_)
  refine g_cells (ws' := [(mo, .inr (7, [.int (nI th), .int (nI (n + 1)), .ref m1, .ref m2, .ref m3, .ref m4, .ref m5, .ref m6, .int (bI false), .int (bI false), .int (bI false), .int (nI ld), .int (pI lt), .ref m7, .int (nI gr), .int (nI mv), .ref m8, .ref m9, .ref m10, .ref m11, .ref m12, .ref m13, .int (nI la), .ref m14, .ref m15])), (m1, .inl (E 0, 12, .inl (aN (va_up T n 0)))), (m2, .inl (E 0, 12, .inl (aN (va_up U n 0))))]) [2, 0, 1] (by decide) rfl ?_
  refine g_aload_n C d_Mo_comes_34 rfl 0 rfl ?_
  refine g_get C lay_Mo 0 rfl rfl 1 (by decide) m_635 rfl d_Mo_comes_35 ?_
  refine g_iconst (v := nI 1) C d_Mo_comes_38 (by decide) ?_
  refine g_isubN C (by omega) d_Mo_comes_39 ?_
  exact g_iret C hrt hlk () (by rw [Nat.add_sub_cancel]) rfl d_Mo_comes_40

set_option maxHeartbeats 4000000 in
set_option maxRecDepth 100000 in
theorem o_claim (l : Launch) (D : va_G) (E : Nat → ClassId) (mo : Nat) (m1 : Nat) (m2 : Nat) (m3 : Nat) (m4 : Nat) (m5 : Nat) (m6 : Nat) (m7 : Nat) (m8 : Nat) (m9 : Nat) (m10 : Nat) (m11 : Nat) (m12 : Nat) (m13 : Nat) (m14 : Nat) (m15 : Nat) (th : Nat) (n : Nat) (kn : Bool) (lg : Bool) (td : Bool) (ld : Nat) (lt : Nat) (gr : Nat) (mv : Nat) (la : Nat) (T : Nat → Nat) (U : Nat → Nat) (hn : n < 12) : MI l D E y_Mo_claim (.code y_Mo_claim k_Mo_claim 1 (some .int)) ({ frames := 2, cells := 0, slots := 0, locals := 40 } : Room) [.ref mo] [(mo, .inr (7, [.int (nI th), .int (nI n), .ref m1, .ref m2, .ref m3, .ref m4, .ref m5, .ref m6, .int (bI kn), .int (bI lg), .int (bI td), .int (nI ld), .int (pI lt), .ref m7, .int (nI gr), .int (nI mv), .ref m8, .ref m9, .ref m10, .ref m11, .ref m12, .ref m13, .int (nI la), .ref m14, .ref m15])), (m1, .inl (E 0, 12, .inl (aN T))), (m2, .inl (E 0, 12, .inl (aN U)))] (fun (r : Int32) (_ : Unit) => r = nI n) (fun _ : Unit => [(mo, .inr (7, [.int (nI 0), .int (nI (n + 1)), .ref m1, .ref m2, .ref m3, .ref m4, .ref m5, .ref m6, .int (bI false), .int (bI false), .int (bI false), .int (nI ld), .int (pI lt), .ref m7, .int (nI gr), .int (nI mv), .ref m8, .ref m9, .ref m10, .ref m11, .ref m12, .ref m13, .int (nI la), .ref m14, .ref m15])), (m1, .inl (E 0, 12, .inl (aN (va_up T n 0)))), (m2, .inl (E 0, 12, .inl (aN (va_up U n 0))))]) := by
  refine MI.of (by decide) (Nat.le_of_ble_eq_true rfl) ?_
  intro p e s m args below meth c A C hrt hlk hnm
  refine g_lv (lv' := [(0, .ref mo)]) rfl ?_
  refine g_aload_n C d_Mo_claim_0 rfl 0 rfl ?_
  refine g_iconst (v := nI 0) C d_Mo_claim_1 (by decide) ?_
  refine g_put (ws' := [(mo, .inr (7, [.int (nI 0), .int (nI n), .ref m1, .ref m2, .ref m3, .ref m4, .ref m5, .ref m6, .int (bI kn), .int (bI lg), .int (bI td), .int (nI ld), .int (pI lt), .ref m7, .int (nI gr), .int (nI mv), .ref m8, .ref m9, .ref m10, .ref m11, .ref m12, .ref m13, .int (nI la), .ref m14, .ref m15])), (m1, .inl (E 0, 12, .inl (aN T))), (m2, .inl (E 0, 12, .inl (aN U)))]) C lay_Mo ty_Mo nm_Mo 0 rfl rfl 0 (by decide) m_634 rfl rfl rfl (Nat.le_of_ble_eq_true rfl) rfl d_Mo_claim_2 ?_
  refine g_aload_n C d_Mo_claim_5 rfl 0 rfl ?_
  refine g_get C lay_Mo 0 rfl rfl 1 (by decide) m_635 rfl d_Mo_claim_6 ?_
  refine g_bipush (v := nI 12) C d_Mo_claim_9 (by decide) ?_
  refine g_icmp_neN (tgt := 18) C (by omega) (by decide) d_Mo_claim_11 (by decide) (fun b0 => ?_) (fun b0 => ?_)
  · skip
    refine g_aload_n C d_Mo_claim_18 rfl 0 rfl ?_
    refine g_iV (rest := []) (wr := []) C (o_comes l D E mo m1 m2 m3 m4 m5 m6 m7 m8 m9 m10 m11 m12 m13 m14 m15 0 n kn lg td ld lt gr mv la T U (by omega)) rd_Mo_comes m_719 m_721 m_20 rfl rfl (Nat.le_of_ble_eq_true rfl) (Nat.le_of_ble_eq_true rfl) (Nat.le_of_ble_eq_true rfl) (Nat.le_of_ble_eq_true rfl) rfl rfl (Nat.le_of_ble_eq_true rfl) d_Mo_claim_19 [0, 1, 2] [] rfl (by decide) rfl (by decide) (by decide) (fun r19 _ (hr19 : r19 = nI n) => ?_)
    subst hr19
    refine g_cells (ws' := [(mo, .inr (7, [.int (nI 0), .int (nI (n + 1)), .ref m1, .ref m2, .ref m3, .ref m4, .ref m5, .ref m6, .int (bI false), .int (bI false), .int (bI false), .int (nI ld), .int (pI lt), .ref m7, .int (nI gr), .int (nI mv), .ref m8, .ref m9, .ref m10, .ref m11, .ref m12, .ref m13, .int (nI la), .ref m14, .ref m15])), (m1, .inl (E 0, 12, .inl (aN (va_up T n 0)))), (m2, .inl (E 0, 12, .inl (aN (va_up U n 0))))]) [0, 1, 2] (by decide) rfl ?_
    exact g_iret C hrt hlk () (rfl) rfl d_Mo_claim_22
  · skip
    exact absurd b0 (by omega)

set_option maxHeartbeats 4000000 in
set_option maxRecDepth 100000 in
theorem o_claimFull (l : Launch) (D : va_G) (E : Nat → ClassId) (mo : Nat) (m1 : Nat) (m2 : Nat) (m3 : Nat) (m4 : Nat) (m5 : Nat) (m6 : Nat) (m7 : Nat) (m8 : Nat) (m9 : Nat) (m10 : Nat) (m11 : Nat) (m12 : Nat) (m13 : Nat) (m14 : Nat) (m15 : Nat) (th : Nat) (n : Nat) (kn : Bool) (lg : Bool) (td : Bool) (ld : Nat) (lt : Nat) (gr : Nat) (mv : Nat) (la : Nat) (T : Nat → Nat) (U : Nat → Nat) (hn : n = 12) : MI l D E y_Mo_claim (.code y_Mo_claim k_Mo_claim 1 (some .int)) ({ frames := 0, cells := 0, slots := 0, locals := 0 } : Room) [.ref mo] [(mo, .inr (7, [.int (nI th), .int (nI n), .ref m1, .ref m2, .ref m3, .ref m4, .ref m5, .ref m6, .int (bI kn), .int (bI lg), .int (bI td), .int (nI ld), .int (pI lt), .ref m7, .int (nI gr), .int (nI mv), .ref m8, .ref m9, .ref m10, .ref m11, .ref m12, .ref m13, .int (nI la), .ref m14, .ref m15])), (m1, .inl (E 0, 12, .inl (aN T))), (m2, .inl (E 0, 12, .inl (aN U)))] (fun (r : Int32) (_ : Unit) => r = (-1)) (fun _ : Unit => [(mo, .inr (7, [.int (nI 0), .int (nI n), .ref m1, .ref m2, .ref m3, .ref m4, .ref m5, .ref m6, .int (bI kn), .int (bI lg), .int (bI td), .int (nI ld), .int (pI lt), .ref m7, .int (nI gr), .int (nI mv), .ref m8, .ref m9, .ref m10, .ref m11, .ref m12, .ref m13, .int (nI la), .ref m14, .ref m15])), (m1, .inl (E 0, 12, .inl (aN T))), (m2, .inl (E 0, 12, .inl (aN U)))]) := by
  refine MI.of (by decide) (Nat.le_of_ble_eq_true rfl) ?_
  intro p e s m args below meth c A C hrt hlk hnm
  refine g_lv (lv' := [(0, .ref mo)]) rfl ?_
  refine g_aload_n C d_Mo_claim_0 rfl 0 rfl ?_
  refine g_iconst (v := nI 0) C d_Mo_claim_1 (by decide) ?_
  refine g_put (ws' := [(mo, .inr (7, [.int (nI 0), .int (nI n), .ref m1, .ref m2, .ref m3, .ref m4, .ref m5, .ref m6, .int (bI kn), .int (bI lg), .int (bI td), .int (nI ld), .int (pI lt), .ref m7, .int (nI gr), .int (nI mv), .ref m8, .ref m9, .ref m10, .ref m11, .ref m12, .ref m13, .int (nI la), .ref m14, .ref m15])), (m1, .inl (E 0, 12, .inl (aN T))), (m2, .inl (E 0, 12, .inl (aN U)))]) C lay_Mo ty_Mo nm_Mo 0 rfl rfl 0 (by decide) m_634 rfl rfl rfl (Nat.le_of_ble_eq_true rfl) rfl d_Mo_claim_2 ?_
  refine g_aload_n C d_Mo_claim_5 rfl 0 rfl ?_
  refine g_get C lay_Mo 0 rfl rfl 1 (by decide) m_635 rfl d_Mo_claim_6 ?_
  refine g_bipush (v := nI 12) C d_Mo_claim_9 (by decide) ?_
  refine g_icmp_neN (tgt := 18) C (by omega) (by decide) d_Mo_claim_11 (by decide) (fun b0 => ?_) (fun b0 => ?_)
  · skip
    exact absurd hn b0
  · skip
    refine g_iconst (v := (-1)) C d_Mo_claim_14 (by decide) ?_
    refine g_goto (tgt := 22) C d_Mo_claim_15 (by decide) ?_
    exact g_iret C hrt hlk () (rfl) rfl d_Mo_claim_22

set_option maxHeartbeats 4000000 in
set_option maxRecDepth 100000 in
theorem o_setsSame (l : Launch) (D : va_G) (E : Nat → ClassId) (mo : Nat) (m1 : Nat) (m2 : Nat) (m3 : Nat) (m4 : Nat) (m5 : Nat) (m6 : Nat) (m7 : Nat) (m8 : Nat) (m9 : Nat) (m10 : Nat) (m11 : Nat) (m12 : Nat) (m13 : Nat) (m14 : Nat) (m15 : Nat) (th : Nat) (n : Nat) (kn : Bool) (lg : Bool) (td : Bool) (ld : Nat) (lt : Nat) (gr : Nat) (mv : Nat) (la : Nat) (T : Nat → Nat) (U : Nat → Nat) (i : Nat) (j : Nat) (on : Bool) (hn : n ≤ 12) (hi : i < n) (hj : j < n) (hs : (T i).testBit j = on) (hT : ∀ a, T a < 4096) : MV l D E y_Mo_sets (.code y_Mo_sets k_Mo_sets 4 none) ({ frames := 0, cells := 0, slots := 0, locals := 0 } : Room) [.ref mo, .int (nI i), .int (nI j), .int (bI on)] [(mo, .inr (7, [.int (nI th), .int (nI n), .ref m1, .ref m2, .ref m3, .ref m4, .ref m5, .ref m6, .int (bI kn), .int (bI lg), .int (bI td), .int (nI ld), .int (pI lt), .ref m7, .int (nI gr), .int (nI mv), .ref m8, .ref m9, .ref m10, .ref m11, .ref m12, .ref m13, .int (nI la), .ref m14, .ref m15])), (m1, .inl (E 0, 12, .inl (aN T))), (m2, .inl (E 0, 12, .inl (aN U)))] (fun _ : Unit => True) (fun _ : Unit => [(mo, .inr (7, [.int (nI th), .int (nI n), .ref m1, .ref m2, .ref m3, .ref m4, .ref m5, .ref m6, .int (bI kn), .int (bI lg), .int (bI td), .int (nI ld), .int (pI lt), .ref m7, .int (nI gr), .int (nI mv), .ref m8, .ref m9, .ref m10, .ref m11, .ref m12, .ref m13, .int (nI la), .ref m14, .ref m15])), (m1, .inl (E 0, 12, .inl (aN T))), (m2, .inl (E 0, 12, .inl (aN U)))]) := by
  refine MV.of (by decide) (Nat.le_of_ble_eq_true rfl) ?_
  intro p e s m args below meth c A C hrt hlk hnm
  refine g_lv (lv' := [(0, .ref mo), (1, .int (nI i)), (2, .int (nI j)), (3, .int (bI on))]) rfl ?_
  refine g_aload_n C d_Mo_sets_0 rfl 0 rfl ?_
  refine g_get C lay_Mo 0 rfl rfl 2 (by decide) m_636 rfl d_Mo_sets_1 ?_
  refine g_iload_n C d_Mo_sets_4 rfl 1 rfl ?_
  refine g_ialdN C 1 rfl (by omega) (by decide) d_Mo_sets_5 ?_
  refine g_top (show (aN T) i = nI (T i) from rfl) ?_
  refine g_iload_n C d_Mo_sets_6 rfl 2 rfl ?_
  refine g_ishrN C (lt4 (hT _)) (by omega) d_Mo_sets_7 ?_
  refine g_iconst (v := nI 1) C d_Mo_sets_8 (by decide) ?_
  refine g_iandB C d_Mo_sets_9 ?_
  refine g_iload_n C d_Mo_sets_10 rfl 3 rfl ?_
  refine g_if_eqB (tgt := 18) C d_Mo_sets_11 (by decide) (fun b0 => ?_) (fun b0 => ?_)
  · skip
    refine g_iconst (v := nI 0) C d_Mo_sets_18 (by decide) ?_
    refine g_top (show nI 0 = bI false from rfl) ?_
    refine g_icmp_neB (tgt := 23) C d_Mo_sets_19 (by decide) (fun b1 => ?_) (fun b1 => ?_)
    · skip
      simp_all
    · skip
      exact g_vret C hrt hlk () (trivial) rfl d_Mo_sets_22
  · skip
    refine g_iconst (v := nI 1) C d_Mo_sets_14 (by decide) ?_
    refine g_goto (tgt := 19) C d_Mo_sets_15 (by decide) ?_
    refine g_top (show nI 1 = bI true from rfl) ?_
    refine g_icmp_neB (tgt := 23) C d_Mo_sets_19 (by decide) (fun b1 => ?_) (fun b1 => ?_)
    · skip
      simp_all
    · skip
      exact g_vret C hrt hlk () (trivial) rfl d_Mo_sets_22

set_option maxHeartbeats 4000000 in
set_option maxRecDepth 100000 in
theorem o_sets (l : Launch) (D : va_G) (E : Nat → ClassId) (mo : Nat) (m1 : Nat) (m2 : Nat) (m3 : Nat) (m4 : Nat) (m5 : Nat) (m6 : Nat) (m7 : Nat) (m8 : Nat) (m9 : Nat) (m10 : Nat) (m11 : Nat) (m12 : Nat) (m13 : Nat) (m14 : Nat) (m15 : Nat) (th : Nat) (n : Nat) (kn : Bool) (lg : Bool) (td : Bool) (ld : Nat) (lt : Nat) (gr : Nat) (mv : Nat) (la : Nat) (T : Nat → Nat) (U : Nat → Nat) (i : Nat) (j : Nat) (on : Bool) (hn : n ≤ 12) (hi : i < n) (hj : j < n) (hs : (T i).testBit j ≠ on) (hT : ∀ a, T a < 4096) (hU : ∀ a, U a < 4096) : MV l D E y_Mo_sets (.code y_Mo_sets k_Mo_sets 4 none) ({ frames := 1, cells := 0, slots := 0, locals := 20 } : Room) [.ref mo, .int (nI i), .int (nI j), .int (bI on)] [(mo, .inr (7, [.int (nI th), .int (nI n), .ref m1, .ref m2, .ref m3, .ref m4, .ref m5, .ref m6, .int (bI kn), .int (bI lg), .int (bI td), .int (nI ld), .int (pI lt), .ref m7, .int (nI gr), .int (nI mv), .ref m8, .ref m9, .ref m10, .ref m11, .ref m12, .ref m13, .int (nI la), .ref m14, .ref m15])), (m1, .inl (E 0, 12, .inl (aN T))), (m2, .inl (E 0, 12, .inl (aN U)))] (fun _ : Unit => True) (fun _ : Unit => [(mo, .inr (7, [.int (nI th), .int (nI n), .ref m1, .ref m2, .ref m3, .ref m4, .ref m5, .ref m6, .int (bI false), .int (bI false), .int (bI false), .int (nI ld), .int (pI lt), .ref m7, .int (nI gr), .int (nI mv), .ref m8, .ref m9, .ref m10, .ref m11, .ref m12, .ref m13, .int (nI la), .ref m14, .ref m15])), (m1, .inl (E 0, 12, .inl (aN (va_up T i (T i ^^^ 2 ^ j))))), (m2, .inl (E 0, 12, .inl (aN (va_up U j (U j ^^^ 2 ^ i)))))]) := by
  refine MV.of (by decide) (Nat.le_of_ble_eq_true rfl) ?_
  intro p e s m args below meth c A C hrt hlk hnm
  refine g_lv (lv' := [(0, .ref mo), (1, .int (nI i)), (2, .int (nI j)), (3, .int (bI on))]) rfl ?_
  refine g_aload_n C d_Mo_sets_0 rfl 0 rfl ?_
  refine g_get C lay_Mo 0 rfl rfl 2 (by decide) m_636 rfl d_Mo_sets_1 ?_
  refine g_iload_n C d_Mo_sets_4 rfl 1 rfl ?_
  refine g_ialdN C 1 rfl (by omega) (by decide) d_Mo_sets_5 ?_
  refine g_top (show (aN T) i = nI (T i) from rfl) ?_
  refine g_iload_n C d_Mo_sets_6 rfl 2 rfl ?_
  refine g_ishrN C (lt4 (hT _)) (by omega) d_Mo_sets_7 ?_
  refine g_iconst (v := nI 1) C d_Mo_sets_8 (by decide) ?_
  refine g_iandB C d_Mo_sets_9 ?_
  refine g_iload_n C d_Mo_sets_10 rfl 3 rfl ?_
  refine g_if_eqB (tgt := 18) C d_Mo_sets_11 (by decide) (fun b0 => ?_) (fun b0 => ?_)
  · skip
    refine g_iconst (v := nI 0) C d_Mo_sets_18 (by decide) ?_
    refine g_top (show nI 0 = bI false from rfl) ?_
    refine g_icmp_neB (tgt := 23) C d_Mo_sets_19 (by decide) (fun b1 => ?_) (fun b1 => ?_)
    · skip
      refine g_aload_n C d_Mo_sets_23 rfl 0 rfl ?_
      refine g_get C lay_Mo 0 rfl rfl 2 (by decide) m_636 rfl d_Mo_sets_24 ?_
      refine g_iload_n C d_Mo_sets_27 rfl 1 rfl ?_
      refine g_aload_n C d_Mo_sets_28 rfl 0 rfl ?_
      refine g_get C lay_Mo 0 rfl rfl 2 (by decide) m_636 rfl d_Mo_sets_29 ?_
      refine g_iload_n C d_Mo_sets_32 rfl 1 rfl ?_
      refine g_ialdN C 1 rfl (by omega) (by decide) d_Mo_sets_33 ?_
      refine g_top (show (aN T) i = nI (T i) from rfl) ?_
      refine g_iconst (v := nI 1) C d_Mo_sets_34 (by decide) ?_
      refine g_iload_n C d_Mo_sets_35 rfl 2 rfl ?_
      refine g_ishl1N C (by omega) d_Mo_sets_36 ?_
      refine g_ixorN C d_Mo_sets_37 ?_
      refine g_iastN (f' := aN (va_up T i ((T i) ^^^ (2 ^ j)))) (ws' := [(mo, .inr (7, [.int (nI th), .int (nI n), .ref m1, .ref m2, .ref m3, .ref m4, .ref m5, .ref m6, .int (bI kn), .int (bI lg), .int (bI td), .int (nI ld), .int (pI lt), .ref m7, .int (nI gr), .int (nI mv), .ref m8, .ref m9, .ref m10, .ref m11, .ref m12, .ref m13, .int (nI la), .ref m14, .ref m15])), (m1, .inl (E 0, 12, .inl (aN (va_up T i ((T i) ^^^ (2 ^ j)))))), (m2, .inl (E 0, 12, .inl (aN U)))]) C 1 rfl (by omega) (by decide) (aN_up _ _ _) rfl d_Mo_sets_38 ?_
      refine g_aload_n C d_Mo_sets_39 rfl 0 rfl ?_
      refine g_get C lay_Mo 0 rfl rfl 3 (by decide) m_637 rfl d_Mo_sets_40 ?_
      refine g_iload_n C d_Mo_sets_43 rfl 2 rfl ?_
      refine g_aload_n C d_Mo_sets_44 rfl 0 rfl ?_
      refine g_get C lay_Mo 0 rfl rfl 3 (by decide) m_637 rfl d_Mo_sets_45 ?_
      refine g_iload_n C d_Mo_sets_48 rfl 2 rfl ?_
      refine g_ialdN C 2 rfl (by omega) (by decide) d_Mo_sets_49 ?_
      refine g_top (show (aN U) j = nI (U j) from rfl) ?_
      refine g_iconst (v := nI 1) C d_Mo_sets_50 (by decide) ?_
      refine g_iload_n C d_Mo_sets_51 rfl 1 rfl ?_
      refine g_ishl1N C (by omega) d_Mo_sets_52 ?_
      refine g_ixorN C d_Mo_sets_53 ?_
      refine g_iastN (f' := aN (va_up U j ((U j) ^^^ (2 ^ i)))) (ws' := [(mo, .inr (7, [.int (nI th), .int (nI n), .ref m1, .ref m2, .ref m3, .ref m4, .ref m5, .ref m6, .int (bI kn), .int (bI lg), .int (bI td), .int (nI ld), .int (pI lt), .ref m7, .int (nI gr), .int (nI mv), .ref m8, .ref m9, .ref m10, .ref m11, .ref m12, .ref m13, .int (nI la), .ref m14, .ref m15])), (m1, .inl (E 0, 12, .inl (aN (va_up T i ((T i) ^^^ (2 ^ j)))))), (m2, .inl (E 0, 12, .inl (aN (va_up U j ((U j) ^^^ (2 ^ i))))))]) C 2 rfl (by omega) (by decide) (aN_up _ _ _) rfl d_Mo_sets_54 ?_
      refine g_aload_n C d_Mo_sets_55 rfl 0 rfl ?_
      refine g_vV (rest := []) (wr := [(m1, .inl (E 0, 12, .inl (aN (va_up T i ((T i) ^^^ (2 ^ j)))))), (m2, .inl (E 0, 12, .inl (aN (va_up U j ((U j) ^^^ (2 ^ i))))))]) C (o_changes l D E mo m1 m2 m3 m4 m5 m6 m7 m8 m9 m10 m11 m12 m13 m14 m15 th n kn lg td ld lt gr mv la ) rd_Mo_changes m_723 m_725 m_21 rfl rfl (Nat.le_of_ble_eq_true rfl) (Nat.le_of_ble_eq_true rfl) (Nat.le_of_ble_eq_true rfl) (Nat.le_of_ble_eq_true rfl) rfl rfl (Nat.le_of_ble_eq_true rfl) d_Mo_sets_56 [0] [1, 2] rfl (by decide) rfl (by decide) (by decide) (fun _ _ => ?_)
      refine g_cells (ws' := [(mo, .inr (7, [.int (nI th), .int (nI n), .ref m1, .ref m2, .ref m3, .ref m4, .ref m5, .ref m6, .int (bI false), .int (bI false), .int (bI false), .int (nI ld), .int (pI lt), .ref m7, .int (nI gr), .int (nI mv), .ref m8, .ref m9, .ref m10, .ref m11, .ref m12, .ref m13, .int (nI la), .ref m14, .ref m15])), (m1, .inl (E 0, 12, .inl (aN (va_up T i ((T i) ^^^ (2 ^ j)))))), (m2, .inl (E 0, 12, .inl (aN (va_up U j ((U j) ^^^ (2 ^ i))))))]) [2, 0, 1] (by decide) rfl ?_
      exact g_vret C hrt hlk () (trivial) rfl d_Mo_sets_59
    · skip
      simp_all
  · skip
    refine g_iconst (v := nI 1) C d_Mo_sets_14 (by decide) ?_
    refine g_goto (tgt := 19) C d_Mo_sets_15 (by decide) ?_
    refine g_top (show nI 1 = bI true from rfl) ?_
    refine g_icmp_neB (tgt := 23) C d_Mo_sets_19 (by decide) (fun b1 => ?_) (fun b1 => ?_)
    · skip
      refine g_aload_n C d_Mo_sets_23 rfl 0 rfl ?_
      refine g_get C lay_Mo 0 rfl rfl 2 (by decide) m_636 rfl d_Mo_sets_24 ?_
      refine g_iload_n C d_Mo_sets_27 rfl 1 rfl ?_
      refine g_aload_n C d_Mo_sets_28 rfl 0 rfl ?_
      refine g_get C lay_Mo 0 rfl rfl 2 (by decide) m_636 rfl d_Mo_sets_29 ?_
      refine g_iload_n C d_Mo_sets_32 rfl 1 rfl ?_
      refine g_ialdN C 1 rfl (by omega) (by decide) d_Mo_sets_33 ?_
      refine g_top (show (aN T) i = nI (T i) from rfl) ?_
      refine g_iconst (v := nI 1) C d_Mo_sets_34 (by decide) ?_
      refine g_iload_n C d_Mo_sets_35 rfl 2 rfl ?_
      refine g_ishl1N C (by omega) d_Mo_sets_36 ?_
      refine g_ixorN C d_Mo_sets_37 ?_
      refine g_iastN (f' := aN (va_up T i ((T i) ^^^ (2 ^ j)))) (ws' := [(mo, .inr (7, [.int (nI th), .int (nI n), .ref m1, .ref m2, .ref m3, .ref m4, .ref m5, .ref m6, .int (bI kn), .int (bI lg), .int (bI td), .int (nI ld), .int (pI lt), .ref m7, .int (nI gr), .int (nI mv), .ref m8, .ref m9, .ref m10, .ref m11, .ref m12, .ref m13, .int (nI la), .ref m14, .ref m15])), (m1, .inl (E 0, 12, .inl (aN (va_up T i ((T i) ^^^ (2 ^ j)))))), (m2, .inl (E 0, 12, .inl (aN U)))]) C 1 rfl (by omega) (by decide) (aN_up _ _ _) rfl d_Mo_sets_38 ?_
      refine g_aload_n C d_Mo_sets_39 rfl 0 rfl ?_
      refine g_get C lay_Mo 0 rfl rfl 3 (by decide) m_637 rfl d_Mo_sets_40 ?_
      refine g_iload_n C d_Mo_sets_43 rfl 2 rfl ?_
      refine g_aload_n C d_Mo_sets_44 rfl 0 rfl ?_
      refine g_get C lay_Mo 0 rfl rfl 3 (by decide) m_637 rfl d_Mo_sets_45 ?_
      refine g_iload_n C d_Mo_sets_48 rfl 2 rfl ?_
      refine g_ialdN C 2 rfl (by omega) (by decide) d_Mo_sets_49 ?_
      refine g_top (show (aN U) j = nI (U j) from rfl) ?_
      refine g_iconst (v := nI 1) C d_Mo_sets_50 (by decide) ?_
      refine g_iload_n C d_Mo_sets_51 rfl 1 rfl ?_
      refine g_ishl1N C (by omega) d_Mo_sets_52 ?_
      refine g_ixorN C d_Mo_sets_53 ?_
      refine g_iastN (f' := aN (va_up U j ((U j) ^^^ (2 ^ i)))) (ws' := [(mo, .inr (7, [.int (nI th), .int (nI n), .ref m1, .ref m2, .ref m3, .ref m4, .ref m5, .ref m6, .int (bI kn), .int (bI lg), .int (bI td), .int (nI ld), .int (pI lt), .ref m7, .int (nI gr), .int (nI mv), .ref m8, .ref m9, .ref m10, .ref m11, .ref m12, .ref m13, .int (nI la), .ref m14, .ref m15])), (m1, .inl (E 0, 12, .inl (aN (va_up T i ((T i) ^^^ (2 ^ j)))))), (m2, .inl (E 0, 12, .inl (aN (va_up U j ((U j) ^^^ (2 ^ i))))))]) C 2 rfl (by omega) (by decide) (aN_up _ _ _) rfl d_Mo_sets_54 ?_
      refine g_aload_n C d_Mo_sets_55 rfl 0 rfl ?_
      refine g_vV (rest := []) (wr := [(m1, .inl (E 0, 12, .inl (aN (va_up T i ((T i) ^^^ (2 ^ j)))))), (m2, .inl (E 0, 12, .inl (aN (va_up U j ((U j) ^^^ (2 ^ i))))))]) C (o_changes l D E mo m1 m2 m3 m4 m5 m6 m7 m8 m9 m10 m11 m12 m13 m14 m15 th n kn lg td ld lt gr mv la ) rd_Mo_changes m_723 m_725 m_21 rfl rfl (Nat.le_of_ble_eq_true rfl) (Nat.le_of_ble_eq_true rfl) (Nat.le_of_ble_eq_true rfl) (Nat.le_of_ble_eq_true rfl) rfl rfl (Nat.le_of_ble_eq_true rfl) d_Mo_sets_56 [0] [1, 2] rfl (by decide) rfl (by decide) (by decide) (fun _ _ => ?_)
      refine g_cells (ws' := [(mo, .inr (7, [.int (nI th), .int (nI n), .ref m1, .ref m2, .ref m3, .ref m4, .ref m5, .ref m6, .int (bI false), .int (bI false), .int (bI false), .int (nI ld), .int (pI lt), .ref m7, .int (nI gr), .int (nI mv), .ref m8, .ref m9, .ref m10, .ref m11, .ref m12, .ref m13, .int (nI la), .ref m14, .ref m15])), (m1, .inl (E 0, 12, .inl (aN (va_up T i ((T i) ^^^ (2 ^ j)))))), (m2, .inl (E 0, 12, .inl (aN (va_up U j ((U j) ^^^ (2 ^ i))))))]) [2, 0, 1] (by decide) rfl ?_
      exact g_vret C hrt hlk () (trivial) rfl d_Mo_sets_59
    · skip
      simp_all

set_option maxHeartbeats 4000000 in
set_option maxRecDepth 100000 in
theorem o_attackSame (l : Launch) (D : va_G) (E : Nat → ClassId) (mo : Nat) (m1 : Nat) (m2 : Nat) (m3 : Nat) (m4 : Nat) (m5 : Nat) (m6 : Nat) (m7 : Nat) (m8 : Nat) (m9 : Nat) (m10 : Nat) (m11 : Nat) (m12 : Nat) (m13 : Nat) (m14 : Nat) (m15 : Nat) (th : Nat) (n : Nat) (kn : Bool) (lg : Bool) (td : Bool) (ld : Nat) (lt : Nat) (gr : Nat) (mv : Nat) (la : Nat) (T : Nat → Nat) (U : Nat → Nat) (i : Nat) (j : Nat) (on : Bool) (hn : n ≤ 12) (hi : i < n) (hj : j < n) (hs : (T i).testBit j = on) (hT : ∀ a, T a < 4096) : MI l D E y_Mo_attack (.code y_Mo_attack k_Mo_attack 4 (some .boolean)) ({ frames := 1, cells := 0, slots := 0, locals := 23 } : Room) [.ref mo, .int (nI i), .int (nI j), .int (bI on)] [(mo, .inr (7, [.int (nI th), .int (nI n), .ref m1, .ref m2, .ref m3, .ref m4, .ref m5, .ref m6, .int (bI kn), .int (bI lg), .int (bI td), .int (nI ld), .int (pI lt), .ref m7, .int (nI gr), .int (nI mv), .ref m8, .ref m9, .ref m10, .ref m11, .ref m12, .ref m13, .int (nI la), .ref m14, .ref m15])), (m1, .inl (E 0, 12, .inl (aN T))), (m2, .inl (E 0, 12, .inl (aN U)))] (fun (r : Int32) (_ : Unit) => r = bI true) (fun _ : Unit => [(mo, .inr (7, [.int (nI 0), .int (nI n), .ref m1, .ref m2, .ref m3, .ref m4, .ref m5, .ref m6, .int (bI kn), .int (bI lg), .int (bI td), .int (nI ld), .int (pI lt), .ref m7, .int (nI gr), .int (nI mv), .ref m8, .ref m9, .ref m10, .ref m11, .ref m12, .ref m13, .int (nI la), .ref m14, .ref m15])), (m1, .inl (E 0, 12, .inl (aN T))), (m2, .inl (E 0, 12, .inl (aN U)))]) := by
  refine MI.of (by decide) (Nat.le_of_ble_eq_true rfl) ?_
  intro p e s m args below meth c A C hrt hlk hnm
  refine g_lv (lv' := [(0, .ref mo), (1, .int (nI i)), (2, .int (nI j)), (3, .int (bI on))]) rfl ?_
  refine g_aload_n C d_Mo_attack_0 rfl 0 rfl ?_
  refine g_iconst (v := nI 0) C d_Mo_attack_1 (by decide) ?_
  refine g_put (ws' := [(mo, .inr (7, [.int (nI 0), .int (nI n), .ref m1, .ref m2, .ref m3, .ref m4, .ref m5, .ref m6, .int (bI kn), .int (bI lg), .int (bI td), .int (nI ld), .int (pI lt), .ref m7, .int (nI gr), .int (nI mv), .ref m8, .ref m9, .ref m10, .ref m11, .ref m12, .ref m13, .int (nI la), .ref m14, .ref m15])), (m1, .inl (E 0, 12, .inl (aN T))), (m2, .inl (E 0, 12, .inl (aN U)))]) C lay_Mo ty_Mo nm_Mo 0 rfl rfl 0 (by decide) m_634 rfl rfl rfl (Nat.le_of_ble_eq_true rfl) rfl d_Mo_attack_2 ?_
  refine g_aload_n C d_Mo_attack_5 rfl 0 rfl ?_
  refine g_iload_n C d_Mo_attack_6 rfl 1 rfl ?_
  refine g_iV (rest := []) (wr := [(m1, .inl (E 0, 12, .inl (aN T))), (m2, .inl (E 0, 12, .inl (aN U)))]) C (o_isArgument l D E mo m1 m2 m3 m4 m5 m6 m7 m8 m9 m10 m11 m12 m13 m14 m15 0 n kn lg td ld lt gr mv la (nI i) ) rd_Mo_isArgument m_731 m_733 m_22 rfl rfl (Nat.le_of_ble_eq_true rfl) (Nat.le_of_ble_eq_true rfl) (Nat.le_of_ble_eq_true rfl) (Nat.le_of_ble_eq_true rfl) rfl rfl (Nat.le_of_ble_eq_true rfl) d_Mo_attack_7 [0] [1, 2] rfl (by decide) rfl (by decide) (by decide) (fun r7 _ (hr7 : r7 = bI (inR (nI i) n)) => ?_)
  subst hr7
  refine g_cells (ws' := [(mo, .inr (7, [.int (nI 0), .int (nI n), .ref m1, .ref m2, .ref m3, .ref m4, .ref m5, .ref m6, .int (bI kn), .int (bI lg), .int (bI td), .int (nI ld), .int (pI lt), .ref m7, .int (nI gr), .int (nI mv), .ref m8, .ref m9, .ref m10, .ref m11, .ref m12, .ref m13, .int (nI la), .ref m14, .ref m15])), (m1, .inl (E 0, 12, .inl (aN T))), (m2, .inl (E 0, 12, .inl (aN U)))]) [2, 0, 1] (by decide) rfl ?_
  refine g_if_eqB (tgt := 21) C d_Mo_attack_10 (by decide) (fun b0 => ?_) (fun b0 => ?_)
  · skip
    rw [inR_nI (by omega) (by omega)] at b0; simp at b0; omega
  · skip
    refine g_aload_n C d_Mo_attack_13 rfl 0 rfl ?_
    refine g_iload_n C d_Mo_attack_14 rfl 2 rfl ?_
    refine g_iV (rest := []) (wr := [(m1, .inl (E 0, 12, .inl (aN T))), (m2, .inl (E 0, 12, .inl (aN U)))]) C (o_isArgument l D E mo m1 m2 m3 m4 m5 m6 m7 m8 m9 m10 m11 m12 m13 m14 m15 0 n kn lg td ld lt gr mv la (nI j) ) rd_Mo_isArgument m_731 m_733 m_22 rfl rfl (Nat.le_of_ble_eq_true rfl) (Nat.le_of_ble_eq_true rfl) (Nat.le_of_ble_eq_true rfl) (Nat.le_of_ble_eq_true rfl) rfl rfl (Nat.le_of_ble_eq_true rfl) d_Mo_attack_15 [0] [1, 2] rfl (by decide) rfl (by decide) (by decide) (fun r15 _ (hr15 : r15 = bI (inR (nI j) n)) => ?_)
    subst hr15
    refine g_cells (ws' := [(mo, .inr (7, [.int (nI 0), .int (nI n), .ref m1, .ref m2, .ref m3, .ref m4, .ref m5, .ref m6, .int (bI kn), .int (bI lg), .int (bI td), .int (nI ld), .int (pI lt), .ref m7, .int (nI gr), .int (nI mv), .ref m8, .ref m9, .ref m10, .ref m11, .ref m12, .ref m13, .int (nI la), .ref m14, .ref m15])), (m1, .inl (E 0, 12, .inl (aN T))), (m2, .inl (E 0, 12, .inl (aN U)))]) [2, 0, 1] (by decide) rfl ?_
    refine g_if_neB (tgt := 23) C d_Mo_attack_18 (by decide) (fun b1 => ?_) (fun b1 => ?_)
    · skip
      refine g_aload_n C d_Mo_attack_23 rfl 0 rfl ?_
      refine g_iload_n C d_Mo_attack_24 rfl 1 rfl ?_
      refine g_iload_n C d_Mo_attack_25 rfl 2 rfl ?_
      refine g_iload_n C d_Mo_attack_26 rfl 3 rfl ?_
      refine g_vV (rest := []) (wr := []) C (o_setsSame l D E mo m1 m2 m3 m4 m5 m6 m7 m8 m9 m10 m11 m12 m13 m14 m15 0 n kn lg td ld lt gr mv la T U i j on hn hi hj hs hT) rd_Mo_sets m_735 m_737 m_23 rfl rfl (Nat.le_of_ble_eq_true rfl) (Nat.le_of_ble_eq_true rfl) (Nat.le_of_ble_eq_true rfl) (Nat.le_of_ble_eq_true rfl) rfl rfl (Nat.le_of_ble_eq_true rfl) d_Mo_attack_27 [0, 1, 2] [] rfl (by decide) rfl (by decide) (by decide) (fun _ _ => ?_)
      refine g_cells (ws' := [(mo, .inr (7, [.int (nI 0), .int (nI n), .ref m1, .ref m2, .ref m3, .ref m4, .ref m5, .ref m6, .int (bI kn), .int (bI lg), .int (bI td), .int (nI ld), .int (pI lt), .ref m7, .int (nI gr), .int (nI mv), .ref m8, .ref m9, .ref m10, .ref m11, .ref m12, .ref m13, .int (nI la), .ref m14, .ref m15])), (m1, .inl (E 0, 12, .inl (aN T))), (m2, .inl (E 0, 12, .inl (aN U)))]) [0, 1, 2] (by decide) rfl ?_
      refine g_iconst (v := nI 1) C d_Mo_attack_30 (by decide) ?_
      refine g_top (show nI 1 = bI true from rfl) ?_
      exact g_zret C hrt hlk () (rfl) rfl d_Mo_attack_31
    · skip
      rw [inR_nI (by omega) (by omega)] at b1; simp at b1; omega

set_option maxHeartbeats 4000000 in
set_option maxRecDepth 100000 in
theorem o_attack (l : Launch) (D : va_G) (E : Nat → ClassId) (mo : Nat) (m1 : Nat) (m2 : Nat) (m3 : Nat) (m4 : Nat) (m5 : Nat) (m6 : Nat) (m7 : Nat) (m8 : Nat) (m9 : Nat) (m10 : Nat) (m11 : Nat) (m12 : Nat) (m13 : Nat) (m14 : Nat) (m15 : Nat) (th : Nat) (n : Nat) (kn : Bool) (lg : Bool) (td : Bool) (ld : Nat) (lt : Nat) (gr : Nat) (mv : Nat) (la : Nat) (T : Nat → Nat) (U : Nat → Nat) (i : Nat) (j : Nat) (on : Bool) (hn : n ≤ 12) (hi : i < n) (hj : j < n) (hs : (T i).testBit j ≠ on) (hT : ∀ a, T a < 4096) (hU : ∀ a, U a < 4096) : MI l D E y_Mo_attack (.code y_Mo_attack k_Mo_attack 4 (some .boolean)) ({ frames := 2, cells := 0, slots := 0, locals := 43 } : Room) [.ref mo, .int (nI i), .int (nI j), .int (bI on)] [(mo, .inr (7, [.int (nI th), .int (nI n), .ref m1, .ref m2, .ref m3, .ref m4, .ref m5, .ref m6, .int (bI kn), .int (bI lg), .int (bI td), .int (nI ld), .int (pI lt), .ref m7, .int (nI gr), .int (nI mv), .ref m8, .ref m9, .ref m10, .ref m11, .ref m12, .ref m13, .int (nI la), .ref m14, .ref m15])), (m1, .inl (E 0, 12, .inl (aN T))), (m2, .inl (E 0, 12, .inl (aN U)))] (fun (r : Int32) (_ : Unit) => r = bI true) (fun _ : Unit => [(mo, .inr (7, [.int (nI 0), .int (nI n), .ref m1, .ref m2, .ref m3, .ref m4, .ref m5, .ref m6, .int (bI false), .int (bI false), .int (bI false), .int (nI ld), .int (pI lt), .ref m7, .int (nI gr), .int (nI mv), .ref m8, .ref m9, .ref m10, .ref m11, .ref m12, .ref m13, .int (nI la), .ref m14, .ref m15])), (m1, .inl (E 0, 12, .inl (aN (va_up T i (T i ^^^ 2 ^ j))))), (m2, .inl (E 0, 12, .inl (aN (va_up U j (U j ^^^ 2 ^ i)))))]) := by
  refine MI.of (by decide) (Nat.le_of_ble_eq_true rfl) ?_
  intro p e s m args below meth c A C hrt hlk hnm
  refine g_lv (lv' := [(0, .ref mo), (1, .int (nI i)), (2, .int (nI j)), (3, .int (bI on))]) rfl ?_
  refine g_aload_n C d_Mo_attack_0 rfl 0 rfl ?_
  refine g_iconst (v := nI 0) C d_Mo_attack_1 (by decide) ?_
  refine g_put (ws' := [(mo, .inr (7, [.int (nI 0), .int (nI n), .ref m1, .ref m2, .ref m3, .ref m4, .ref m5, .ref m6, .int (bI kn), .int (bI lg), .int (bI td), .int (nI ld), .int (pI lt), .ref m7, .int (nI gr), .int (nI mv), .ref m8, .ref m9, .ref m10, .ref m11, .ref m12, .ref m13, .int (nI la), .ref m14, .ref m15])), (m1, .inl (E 0, 12, .inl (aN T))), (m2, .inl (E 0, 12, .inl (aN U)))]) C lay_Mo ty_Mo nm_Mo 0 rfl rfl 0 (by decide) m_634 rfl rfl rfl (Nat.le_of_ble_eq_true rfl) rfl d_Mo_attack_2 ?_
  refine g_aload_n C d_Mo_attack_5 rfl 0 rfl ?_
  refine g_iload_n C d_Mo_attack_6 rfl 1 rfl ?_
  refine g_iV (rest := []) (wr := [(m1, .inl (E 0, 12, .inl (aN T))), (m2, .inl (E 0, 12, .inl (aN U)))]) C (o_isArgument l D E mo m1 m2 m3 m4 m5 m6 m7 m8 m9 m10 m11 m12 m13 m14 m15 0 n kn lg td ld lt gr mv la (nI i) ) rd_Mo_isArgument m_731 m_733 m_22 rfl rfl (Nat.le_of_ble_eq_true rfl) (Nat.le_of_ble_eq_true rfl) (Nat.le_of_ble_eq_true rfl) (Nat.le_of_ble_eq_true rfl) rfl rfl (Nat.le_of_ble_eq_true rfl) d_Mo_attack_7 [0] [1, 2] rfl (by decide) rfl (by decide) (by decide) (fun r7 _ (hr7 : r7 = bI (inR (nI i) n)) => ?_)
  subst hr7
  refine g_cells (ws' := [(mo, .inr (7, [.int (nI 0), .int (nI n), .ref m1, .ref m2, .ref m3, .ref m4, .ref m5, .ref m6, .int (bI kn), .int (bI lg), .int (bI td), .int (nI ld), .int (pI lt), .ref m7, .int (nI gr), .int (nI mv), .ref m8, .ref m9, .ref m10, .ref m11, .ref m12, .ref m13, .int (nI la), .ref m14, .ref m15])), (m1, .inl (E 0, 12, .inl (aN T))), (m2, .inl (E 0, 12, .inl (aN U)))]) [2, 0, 1] (by decide) rfl ?_
  refine g_if_eqB (tgt := 21) C d_Mo_attack_10 (by decide) (fun b0 => ?_) (fun b0 => ?_)
  · skip
    rw [inR_nI (by omega) (by omega)] at b0; simp at b0; omega
  · skip
    refine g_aload_n C d_Mo_attack_13 rfl 0 rfl ?_
    refine g_iload_n C d_Mo_attack_14 rfl 2 rfl ?_
    refine g_iV (rest := []) (wr := [(m1, .inl (E 0, 12, .inl (aN T))), (m2, .inl (E 0, 12, .inl (aN U)))]) C (o_isArgument l D E mo m1 m2 m3 m4 m5 m6 m7 m8 m9 m10 m11 m12 m13 m14 m15 0 n kn lg td ld lt gr mv la (nI j) ) rd_Mo_isArgument m_731 m_733 m_22 rfl rfl (Nat.le_of_ble_eq_true rfl) (Nat.le_of_ble_eq_true rfl) (Nat.le_of_ble_eq_true rfl) (Nat.le_of_ble_eq_true rfl) rfl rfl (Nat.le_of_ble_eq_true rfl) d_Mo_attack_15 [0] [1, 2] rfl (by decide) rfl (by decide) (by decide) (fun r15 _ (hr15 : r15 = bI (inR (nI j) n)) => ?_)
    subst hr15
    refine g_cells (ws' := [(mo, .inr (7, [.int (nI 0), .int (nI n), .ref m1, .ref m2, .ref m3, .ref m4, .ref m5, .ref m6, .int (bI kn), .int (bI lg), .int (bI td), .int (nI ld), .int (pI lt), .ref m7, .int (nI gr), .int (nI mv), .ref m8, .ref m9, .ref m10, .ref m11, .ref m12, .ref m13, .int (nI la), .ref m14, .ref m15])), (m1, .inl (E 0, 12, .inl (aN T))), (m2, .inl (E 0, 12, .inl (aN U)))]) [2, 0, 1] (by decide) rfl ?_
    refine g_if_neB (tgt := 23) C d_Mo_attack_18 (by decide) (fun b1 => ?_) (fun b1 => ?_)
    · skip
      refine g_aload_n C d_Mo_attack_23 rfl 0 rfl ?_
      refine g_iload_n C d_Mo_attack_24 rfl 1 rfl ?_
      refine g_iload_n C d_Mo_attack_25 rfl 2 rfl ?_
      refine g_iload_n C d_Mo_attack_26 rfl 3 rfl ?_
      refine g_vV (rest := []) (wr := []) C (o_sets l D E mo m1 m2 m3 m4 m5 m6 m7 m8 m9 m10 m11 m12 m13 m14 m15 0 n kn lg td ld lt gr mv la T U i j on hn hi hj hs hT hU) rd_Mo_sets m_735 m_737 m_23 rfl rfl (Nat.le_of_ble_eq_true rfl) (Nat.le_of_ble_eq_true rfl) (Nat.le_of_ble_eq_true rfl) (Nat.le_of_ble_eq_true rfl) rfl rfl (Nat.le_of_ble_eq_true rfl) d_Mo_attack_27 [0, 1, 2] [] rfl (by decide) rfl (by decide) (by decide) (fun _ _ => ?_)
      refine g_cells (ws' := [(mo, .inr (7, [.int (nI 0), .int (nI n), .ref m1, .ref m2, .ref m3, .ref m4, .ref m5, .ref m6, .int (bI false), .int (bI false), .int (bI false), .int (nI ld), .int (pI lt), .ref m7, .int (nI gr), .int (nI mv), .ref m8, .ref m9, .ref m10, .ref m11, .ref m12, .ref m13, .int (nI la), .ref m14, .ref m15])), (m1, .inl (E 0, 12, .inl (aN (va_up T i (T i ^^^ 2 ^ j))))), (m2, .inl (E 0, 12, .inl (aN (va_up U j (U j ^^^ 2 ^ i)))))]) [0, 1, 2] (by decide) rfl ?_
      refine g_iconst (v := nI 1) C d_Mo_attack_30 (by decide) ?_
      refine g_top (show nI 1 = bI true from rfl) ?_
      exact g_zret C hrt hlk () (rfl) rfl d_Mo_attack_31
    · skip
      rw [inR_nI (by omega) (by omega)] at b1; simp at b1; omega

set_option maxHeartbeats 4000000 in
set_option maxRecDepth 100000 in
theorem o_attackBad (l : Launch) (D : va_G) (E : Nat → ClassId) (mo : Nat) (m1 : Nat) (m2 : Nat) (m3 : Nat) (m4 : Nat) (m5 : Nat) (m6 : Nat) (m7 : Nat) (m8 : Nat) (m9 : Nat) (m10 : Nat) (m11 : Nat) (m12 : Nat) (m13 : Nat) (m14 : Nat) (m15 : Nat) (th : Nat) (n : Nat) (kn : Bool) (lg : Bool) (td : Bool) (ld : Nat) (lt : Nat) (gr : Nat) (mv : Nat) (la : Nat) (T : Nat → Nat) (U : Nat → Nat) (x : Int32) (y : Int32) (on : Bool) (hb : (inR x n && inR y n) = false) : MI l D E y_Mo_attack (.code y_Mo_attack k_Mo_attack 4 (some .boolean)) ({ frames := 1, cells := 0, slots := 0, locals := 21 } : Room) [.ref mo, .int x, .int y, .int (bI on)] [(mo, .inr (7, [.int (nI th), .int (nI n), .ref m1, .ref m2, .ref m3, .ref m4, .ref m5, .ref m6, .int (bI kn), .int (bI lg), .int (bI td), .int (nI ld), .int (pI lt), .ref m7, .int (nI gr), .int (nI mv), .ref m8, .ref m9, .ref m10, .ref m11, .ref m12, .ref m13, .int (nI la), .ref m14, .ref m15])), (m1, .inl (E 0, 12, .inl (aN T))), (m2, .inl (E 0, 12, .inl (aN U)))] (fun (r : Int32) (_ : Unit) => r = bI false) (fun _ : Unit => [(mo, .inr (7, [.int (nI 0), .int (nI n), .ref m1, .ref m2, .ref m3, .ref m4, .ref m5, .ref m6, .int (bI kn), .int (bI lg), .int (bI td), .int (nI ld), .int (pI lt), .ref m7, .int (nI gr), .int (nI mv), .ref m8, .ref m9, .ref m10, .ref m11, .ref m12, .ref m13, .int (nI la), .ref m14, .ref m15])), (m1, .inl (E 0, 12, .inl (aN T))), (m2, .inl (E 0, 12, .inl (aN U)))]) := by
  refine MI.of (by decide) (Nat.le_of_ble_eq_true rfl) ?_
  intro p e s m args below meth c A C hrt hlk hnm
  refine g_lv (lv' := [(0, .ref mo), (1, .int x), (2, .int y), (3, .int (bI on))]) rfl ?_
  refine g_aload_n C d_Mo_attack_0 rfl 0 rfl ?_
  refine g_iconst (v := nI 0) C d_Mo_attack_1 (by decide) ?_
  refine g_put (ws' := [(mo, .inr (7, [.int (nI 0), .int (nI n), .ref m1, .ref m2, .ref m3, .ref m4, .ref m5, .ref m6, .int (bI kn), .int (bI lg), .int (bI td), .int (nI ld), .int (pI lt), .ref m7, .int (nI gr), .int (nI mv), .ref m8, .ref m9, .ref m10, .ref m11, .ref m12, .ref m13, .int (nI la), .ref m14, .ref m15])), (m1, .inl (E 0, 12, .inl (aN T))), (m2, .inl (E 0, 12, .inl (aN U)))]) C lay_Mo ty_Mo nm_Mo 0 rfl rfl 0 (by decide) m_634 rfl rfl rfl (Nat.le_of_ble_eq_true rfl) rfl d_Mo_attack_2 ?_
  refine g_aload_n C d_Mo_attack_5 rfl 0 rfl ?_
  refine g_iload_n C d_Mo_attack_6 rfl 1 rfl ?_
  refine g_iV (rest := []) (wr := [(m1, .inl (E 0, 12, .inl (aN T))), (m2, .inl (E 0, 12, .inl (aN U)))]) C (o_isArgument l D E mo m1 m2 m3 m4 m5 m6 m7 m8 m9 m10 m11 m12 m13 m14 m15 0 n kn lg td ld lt gr mv la x ) rd_Mo_isArgument m_731 m_733 m_22 rfl rfl (Nat.le_of_ble_eq_true rfl) (Nat.le_of_ble_eq_true rfl) (Nat.le_of_ble_eq_true rfl) (Nat.le_of_ble_eq_true rfl) rfl rfl (Nat.le_of_ble_eq_true rfl) d_Mo_attack_7 [0] [1, 2] rfl (by decide) rfl (by decide) (by decide) (fun r7 _ (hr7 : r7 = bI (inR x n)) => ?_)
  subst hr7
  refine g_cells (ws' := [(mo, .inr (7, [.int (nI 0), .int (nI n), .ref m1, .ref m2, .ref m3, .ref m4, .ref m5, .ref m6, .int (bI kn), .int (bI lg), .int (bI td), .int (nI ld), .int (pI lt), .ref m7, .int (nI gr), .int (nI mv), .ref m8, .ref m9, .ref m10, .ref m11, .ref m12, .ref m13, .int (nI la), .ref m14, .ref m15])), (m1, .inl (E 0, 12, .inl (aN T))), (m2, .inl (E 0, 12, .inl (aN U)))]) [2, 0, 1] (by decide) rfl ?_
  refine g_if_eqB (tgt := 21) C d_Mo_attack_10 (by decide) (fun b0 => ?_) (fun b0 => ?_)
  · skip
    refine g_iconst (v := nI 0) C d_Mo_attack_21 (by decide) ?_
    refine g_top (show nI 0 = bI false from rfl) ?_
    exact g_zret C hrt hlk () (rfl) rfl d_Mo_attack_22
  · skip
    refine g_aload_n C d_Mo_attack_13 rfl 0 rfl ?_
    refine g_iload_n C d_Mo_attack_14 rfl 2 rfl ?_
    refine g_iV (rest := []) (wr := [(m1, .inl (E 0, 12, .inl (aN T))), (m2, .inl (E 0, 12, .inl (aN U)))]) C (o_isArgument l D E mo m1 m2 m3 m4 m5 m6 m7 m8 m9 m10 m11 m12 m13 m14 m15 0 n kn lg td ld lt gr mv la y ) rd_Mo_isArgument m_731 m_733 m_22 rfl rfl (Nat.le_of_ble_eq_true rfl) (Nat.le_of_ble_eq_true rfl) (Nat.le_of_ble_eq_true rfl) (Nat.le_of_ble_eq_true rfl) rfl rfl (Nat.le_of_ble_eq_true rfl) d_Mo_attack_15 [0] [1, 2] rfl (by decide) rfl (by decide) (by decide) (fun r15 _ (hr15 : r15 = bI (inR y n)) => ?_)
    subst hr15
    refine g_cells (ws' := [(mo, .inr (7, [.int (nI 0), .int (nI n), .ref m1, .ref m2, .ref m3, .ref m4, .ref m5, .ref m6, .int (bI kn), .int (bI lg), .int (bI td), .int (nI ld), .int (pI lt), .ref m7, .int (nI gr), .int (nI mv), .ref m8, .ref m9, .ref m10, .ref m11, .ref m12, .ref m13, .int (nI la), .ref m14, .ref m15])), (m1, .inl (E 0, 12, .inl (aN T))), (m2, .inl (E 0, 12, .inl (aN U)))]) [2, 0, 1] (by decide) rfl ?_
    refine g_if_neB (tgt := 23) C d_Mo_attack_18 (by decide) (fun b1 => ?_) (fun b1 => ?_)
    · skip
      simp_all
    · skip
      refine g_iconst (v := nI 0) C d_Mo_attack_21 (by decide) ?_
      refine g_top (show nI 0 = bI false from rfl) ?_
      exact g_zret C hrt hlk () (rfl) rfl d_Mo_attack_22

set_option maxHeartbeats 4000000 in
set_option maxRecDepth 100000 in
theorem o_attacks (l : Launch) (D : va_G) (E : Nat → ClassId) (mo : Nat) (m1 : Nat) (m2 : Nat) (m3 : Nat) (m4 : Nat) (m5 : Nat) (m6 : Nat) (m7 : Nat) (m8 : Nat) (m9 : Nat) (m10 : Nat) (m11 : Nat) (m12 : Nat) (m13 : Nat) (m14 : Nat) (m15 : Nat) (th : Nat) (n : Nat) (kn : Bool) (lg : Bool) (td : Bool) (ld : Nat) (lt : Nat) (gr : Nat) (mv : Nat) (la : Nat) (T : Nat → Nat) (x : Int32) (y : Int32) (hn : n ≤ 12) (hT : ∀ a, T a < 4096) : MI l D E y_Mo_attacks (.code y_Mo_attacks k_Mo_attacks 3 (some .boolean)) ({ frames := 1, cells := 0, slots := 0, locals := 21 } : Room) [.ref mo, .int x, .int y] [(mo, .inr (7, [.int (nI th), .int (nI n), .ref m1, .ref m2, .ref m3, .ref m4, .ref m5, .ref m6, .int (bI kn), .int (bI lg), .int (bI td), .int (nI ld), .int (pI lt), .ref m7, .int (nI gr), .int (nI mv), .ref m8, .ref m9, .ref m10, .ref m11, .ref m12, .ref m13, .int (nI la), .ref m14, .ref m15])), (m1, .inl (E 0, 12, .inl (aN T)))] (fun (r : Int32) (_ : Unit) => r = bI (inR x n && inR y n && (T x.toNatClampNeg).testBit y.toNatClampNeg)) (fun _ : Unit => [(mo, .inr (7, [.int (nI 0), .int (nI n), .ref m1, .ref m2, .ref m3, .ref m4, .ref m5, .ref m6, .int (bI kn), .int (bI lg), .int (bI td), .int (nI ld), .int (pI lt), .ref m7, .int (nI gr), .int (nI mv), .ref m8, .ref m9, .ref m10, .ref m11, .ref m12, .ref m13, .int (nI la), .ref m14, .ref m15])), (m1, .inl (E 0, 12, .inl (aN T)))]) := by
  refine MI.of (by decide) (Nat.le_of_ble_eq_true rfl) ?_
  intro p e s m args below meth c A C hrt hlk hnm
  refine g_lv (lv' := [(0, .ref mo), (1, .int x), (2, .int y)]) rfl ?_
  refine g_aload_n C d_Mo_attacks_0 rfl 0 rfl ?_
  refine g_iconst (v := nI 0) C d_Mo_attacks_1 (by decide) ?_
  refine g_put (ws' := [(mo, .inr (7, [.int (nI 0), .int (nI n), .ref m1, .ref m2, .ref m3, .ref m4, .ref m5, .ref m6, .int (bI kn), .int (bI lg), .int (bI td), .int (nI ld), .int (pI lt), .ref m7, .int (nI gr), .int (nI mv), .ref m8, .ref m9, .ref m10, .ref m11, .ref m12, .ref m13, .int (nI la), .ref m14, .ref m15])), (m1, .inl (E 0, 12, .inl (aN T)))]) C lay_Mo ty_Mo nm_Mo 0 rfl rfl 0 (by decide) m_634 rfl rfl rfl (Nat.le_of_ble_eq_true rfl) rfl d_Mo_attacks_2 ?_
  refine g_aload_n C d_Mo_attacks_5 rfl 0 rfl ?_
  refine g_iload_n C d_Mo_attacks_6 rfl 1 rfl ?_
  refine g_iV (rest := []) (wr := [(m1, .inl (E 0, 12, .inl (aN T)))]) C (o_isArgument l D E mo m1 m2 m3 m4 m5 m6 m7 m8 m9 m10 m11 m12 m13 m14 m15 0 n kn lg td ld lt gr mv la x ) rd_Mo_isArgument m_731 m_733 m_22 rfl rfl (Nat.le_of_ble_eq_true rfl) (Nat.le_of_ble_eq_true rfl) (Nat.le_of_ble_eq_true rfl) (Nat.le_of_ble_eq_true rfl) rfl rfl (Nat.le_of_ble_eq_true rfl) d_Mo_attacks_7 [0] [1] rfl (by decide) rfl (by decide) (by decide) (fun r7 _ (hr7 : r7 = bI (inR x n)) => ?_)
  subst hr7
  refine g_cells (ws' := [(mo, .inr (7, [.int (nI 0), .int (nI n), .ref m1, .ref m2, .ref m3, .ref m4, .ref m5, .ref m6, .int (bI kn), .int (bI lg), .int (bI td), .int (nI ld), .int (pI lt), .ref m7, .int (nI gr), .int (nI mv), .ref m8, .ref m9, .ref m10, .ref m11, .ref m12, .ref m13, .int (nI la), .ref m14, .ref m15])), (m1, .inl (E 0, 12, .inl (aN T)))]) [1, 0] (by decide) rfl ?_
  refine g_if_eqB (tgt := 39) C d_Mo_attacks_10 (by decide) (fun b0 => ?_) (fun b0 => ?_)
  · skip
    refine g_iconst (v := nI 0) C d_Mo_attacks_39 (by decide) ?_
    refine g_top (show nI 0 = bI false from rfl) ?_
    exact g_zret C hrt hlk () (congrArg bI (by first | (simp_all; done) | (rw [b0, b1, nI_clamp (by omega), nI_clamp (by omega)]; simp_all))) rfl d_Mo_attacks_40
  · skip
    refine g_aload_n C d_Mo_attacks_13 rfl 0 rfl ?_
    refine g_iload_n C d_Mo_attacks_14 rfl 2 rfl ?_
    refine g_iV (rest := []) (wr := [(m1, .inl (E 0, 12, .inl (aN T)))]) C (o_isArgument l D E mo m1 m2 m3 m4 m5 m6 m7 m8 m9 m10 m11 m12 m13 m14 m15 0 n kn lg td ld lt gr mv la y ) rd_Mo_isArgument m_731 m_733 m_22 rfl rfl (Nat.le_of_ble_eq_true rfl) (Nat.le_of_ble_eq_true rfl) (Nat.le_of_ble_eq_true rfl) (Nat.le_of_ble_eq_true rfl) rfl rfl (Nat.le_of_ble_eq_true rfl) d_Mo_attacks_15 [0] [1] rfl (by decide) rfl (by decide) (by decide) (fun r15 _ (hr15 : r15 = bI (inR y n)) => ?_)
    subst hr15
    refine g_cells (ws' := [(mo, .inr (7, [.int (nI 0), .int (nI n), .ref m1, .ref m2, .ref m3, .ref m4, .ref m5, .ref m6, .int (bI kn), .int (bI lg), .int (bI td), .int (nI ld), .int (pI lt), .ref m7, .int (nI gr), .int (nI mv), .ref m8, .ref m9, .ref m10, .ref m11, .ref m12, .ref m13, .int (nI la), .ref m14, .ref m15])), (m1, .inl (E 0, 12, .inl (aN T)))]) [1, 0] (by decide) rfl ?_
    refine g_if_eqB (tgt := 39) C d_Mo_attacks_18 (by decide) (fun b1 => ?_) (fun b1 => ?_)
    · skip
      refine g_iconst (v := nI 0) C d_Mo_attacks_39 (by decide) ?_
      refine g_top (show nI 0 = bI false from rfl) ?_
      exact g_zret C hrt hlk () (congrArg bI (by first | (simp_all; done) | (rw [b0, b1, nI_clamp (by omega), nI_clamp (by omega)]; simp_all))) rfl d_Mo_attacks_40
    · skip
      refine g_aload_n C d_Mo_attacks_21 rfl 0 rfl ?_
      refine g_get C lay_Mo 0 rfl rfl 2 (by decide) m_636 rfl d_Mo_attacks_22 ?_
      refine g_iload_n C d_Mo_attacks_25 rfl 1 rfl ?_
      obtain ⟨i, hi, rfl⟩ := inR_of b0
      obtain ⟨j, hj, rfl⟩ := inR_of b1
      refine g_ialdN C 1 rfl (by omega) (by decide) d_Mo_attacks_26 ?_
      refine g_top (show (aN T) i = nI (T i) from rfl) ?_
      refine g_iload_n C d_Mo_attacks_27 rfl 2 rfl ?_
      refine g_ishrN C (lt4 (hT _)) (by omega) d_Mo_attacks_28 ?_
      refine g_iconst (v := nI 1) C d_Mo_attacks_29 (by decide) ?_
      refine g_iandB C d_Mo_attacks_30 ?_
      refine g_iconst (v := nI 1) C d_Mo_attacks_31 (by decide) ?_
      refine g_top (show nI 1 = bI true from rfl) ?_
      refine g_icmp_neB (tgt := 39) C d_Mo_attacks_32 (by decide) (fun b2 => ?_) (fun b2 => ?_)
      · skip
        refine g_iconst (v := nI 0) C d_Mo_attacks_39 (by decide) ?_
        refine g_top (show nI 0 = bI false from rfl) ?_
        exact g_zret C hrt hlk () (congrArg bI (by first | (simp_all; done) | (rw [b0, b1, nI_clamp (by omega), nI_clamp (by omega)]; simp_all))) rfl d_Mo_attacks_40
      · skip
        refine g_iconst (v := nI 1) C d_Mo_attacks_35 (by decide) ?_
        refine g_goto (tgt := 40) C d_Mo_attacks_36 (by decide) ?_
        refine g_top (show nI 1 = bI true from rfl) ?_
        exact g_zret C hrt hlk () (congrArg bI (by first | (simp_all; done) | (rw [b0, b1, nI_clamp (by omega), nI_clamp (by omega)]; simp_all))) rfl d_Mo_attacks_40

set_option maxHeartbeats 4000000 in
set_option maxRecDepth 100000 in
theorem o_arguments (l : Launch) (D : va_G) (E : Nat → ClassId) (mo : Nat) (m1 : Nat) (m2 : Nat) (m3 : Nat) (m4 : Nat) (m5 : Nat) (m6 : Nat) (m7 : Nat) (m8 : Nat) (m9 : Nat) (m10 : Nat) (m11 : Nat) (m12 : Nat) (m13 : Nat) (m14 : Nat) (m15 : Nat) (th : Nat) (n : Nat) (kn : Bool) (lg : Bool) (td : Bool) (ld : Nat) (lt : Nat) (gr : Nat) (mv : Nat) (la : Nat)  : MI l D E y_Mo_arguments (.code y_Mo_arguments k_Mo_arguments 1 (some .int)) ({ frames := 0, cells := 0, slots := 0, locals := 0 } : Room) [.ref mo] [(mo, .inr (7, [.int (nI th), .int (nI n), .ref m1, .ref m2, .ref m3, .ref m4, .ref m5, .ref m6, .int (bI kn), .int (bI lg), .int (bI td), .int (nI ld), .int (pI lt), .ref m7, .int (nI gr), .int (nI mv), .ref m8, .ref m9, .ref m10, .ref m11, .ref m12, .ref m13, .int (nI la), .ref m14, .ref m15]))] (fun (r : Int32) (_ : Unit) => r = nI n) (fun _ : Unit => [(mo, .inr (7, [.int (nI 0), .int (nI n), .ref m1, .ref m2, .ref m3, .ref m4, .ref m5, .ref m6, .int (bI kn), .int (bI lg), .int (bI td), .int (nI ld), .int (pI lt), .ref m7, .int (nI gr), .int (nI mv), .ref m8, .ref m9, .ref m10, .ref m11, .ref m12, .ref m13, .int (nI la), .ref m14, .ref m15]))]) := by
  refine MI.of (by decide) (Nat.le_of_ble_eq_true rfl) ?_
  intro p e s m args below meth c A C hrt hlk hnm
  refine g_lv (lv' := [(0, .ref mo)]) rfl ?_
  refine g_aload_n C d_Mo_arguments_0 rfl 0 rfl ?_
  refine g_iconst (v := nI 0) C d_Mo_arguments_1 (by decide) ?_
  refine g_put (ws' := [(mo, .inr (7, [.int (nI 0), .int (nI n), .ref m1, .ref m2, .ref m3, .ref m4, .ref m5, .ref m6, .int (bI kn), .int (bI lg), .int (bI td), .int (nI ld), .int (pI lt), .ref m7, .int (nI gr), .int (nI mv), .ref m8, .ref m9, .ref m10, .ref m11, .ref m12, .ref m13, .int (nI la), .ref m14, .ref m15]))]) C lay_Mo ty_Mo nm_Mo 0 rfl rfl 0 (by decide) m_634 rfl rfl rfl (Nat.le_of_ble_eq_true rfl) rfl d_Mo_arguments_2 ?_
  refine g_aload_n C d_Mo_arguments_5 rfl 0 rfl ?_
  refine g_get C lay_Mo 0 rfl rfl 1 (by decide) m_635 rfl d_Mo_arguments_6 ?_
  exact g_iret C hrt hlk () (rfl) rfl d_Mo_arguments_9

set_option maxHeartbeats 4000000 in
set_option maxRecDepth 100000 in
theorem o_defended (l : Launch) (D : va_G) (E : Nat → ClassId) (mo : Nat) (m1 : Nat) (m2 : Nat) (m3 : Nat) (m4 : Nat) (m5 : Nat) (m6 : Nat) (m7 : Nat) (m8 : Nat) (m9 : Nat) (m10 : Nat) (m11 : Nat) (m12 : Nat) (m13 : Nat) (m14 : Nat) (m15 : Nat) (th : Nat) (n : Nat) (kn : Bool) (lg : Bool) (td : Bool) (ld : Nat) (lt : Nat) (gr : Nat) (mv : Nat) (la : Nat) (U : Nat → Nat) (k : Nat) (hn : n ≤ 12) (hU : ∀ a, U a < 4096) : MI l D E y_Mo_defended (.code y_Mo_defended k_Mo_defended 4 (some .int)) ({ frames := 0, cells := 0, slots := 0, locals := 0 } : Room) [.ref mo, .int (nI k)] [(mo, .inr (7, [.int (nI th), .int (nI n), .ref m1, .ref m2, .ref m3, .ref m4, .ref m5, .ref m6, .int (bI kn), .int (bI lg), .int (bI td), .int (nI ld), .int (pI lt), .ref m7, .int (nI gr), .int (nI mv), .ref m8, .ref m9, .ref m10, .ref m11, .ref m12, .ref m13, .int (nI la), .ref m14, .ref m15])), (m2, .inl (E 0, 12, .inl (aN U)))] (fun (r : Int32) (_ : Unit) => r = nI (dfM U k n)) (fun _ : Unit => [(mo, .inr (7, [.int (nI th), .int (nI n), .ref m1, .ref m2, .ref m3, .ref m4, .ref m5, .ref m6, .int (bI kn), .int (bI lg), .int (bI td), .int (nI ld), .int (pI lt), .ref m7, .int (nI gr), .int (nI mv), .ref m8, .ref m9, .ref m10, .ref m11, .ref m12, .ref m13, .int (nI la), .ref m14, .ref m15])), (m2, .inl (E 0, 12, .inl (aN U)))]) := by
  refine MI.of (by decide) (Nat.le_of_ble_eq_true rfl) ?_
  intro p e s m args below meth c A C hrt hlk hnm
  refine g_lv (lv' := [(0, .ref mo), (1, .int (nI k))]) rfl ?_
  refine g_iconst (v := nI 0) C d_Mo_defended_0 (by decide) ?_
  refine g_istore_n (lv' := [(2, .int (nI 0)), (0, .ref mo), (1, .int (nI k))]) C d_Mo_defended_1 rfl (by decide) rfl ?_
  refine g_iconst (v := nI 0) C d_Mo_defended_2 (by decide) ?_
  refine g_istore_n (lv' := [(3, .int (nI 0)), (2, .int (nI 0)), (0, .ref mo), (1, .int (nI k))]) C d_Mo_defended_3 rfl (by decide) rfl ?_
  have loop4 : ∀ (f : Nat) (i : Nat) (acc : Nat), (i ≤ n) → (acc = dfM U k i) → n - i < f → GG p l e ({ frames := 0, cells := 0, slots := 0, locals := 0 } : Room) s m args below meth c (MQ below (va_Qi (fun (r : Int32) (_ : Unit) => r = nI (dfM U k n)) (BC D A (fun _ : Unit => [(mo, .inr (7, [.int (nI th), .int (nI n), .ref m1, .ref m2, .ref m3, .ref m4, .ref m5, .ref m6, .int (bI kn), .int (bI lg), .int (bI td), .int (nI ld), .int (pI lt), .ref m7, .int (nI gr), .int (nI mv), .ref m8, .ref m9, .ref m10, .ref m11, .ref m12, .ref m13, .int (nI la), .ref m14, .ref m15])), (m2, .inl (E 0, 12, .inl (aN U)))])) A) args s (({ frames := 0, cells := 0, slots := 0, locals := 0 } : Room)).cells (({ frames := 0, cells := 0, slots := 0, locals := 0 } : Room)).slots A) D A 4 0 0 4 [(0, .ref mo), (1, .int (nI k)), (2, .int (nI acc)), (3, .int (nI i))] [] [(mo, .inr (7, [.int (nI th), .int (nI n), .ref m1, .ref m2, .ref m3, .ref m4, .ref m5, .ref m6, .int (bI kn), .int (bI lg), .int (bI td), .int (nI ld), .int (pI lt), .ref m7, .int (nI gr), .int (nI mv), .ref m8, .ref m9, .ref m10, .ref m11, .ref m12, .ref m13, .int (nI la), .ref m14, .ref m15])), (m2, .inl (E 0, 12, .inl (aN U)))] := by
    intro f
    induction f with
    | zero => intro i acc hi ha hf; exact absurd hf (Nat.not_lt_zero _)
    | succ f ih =>
      intro i acc hi ha hf
      have ih4 := ih
      refine g_iload_n C d_Mo_defended_4 rfl 3 rfl ?_
      refine g_aload_n C d_Mo_defended_5 rfl 0 rfl ?_
      refine g_get C lay_Mo 0 rfl rfl 1 (by decide) m_635 rfl d_Mo_defended_6 ?_
      refine g_icmp_geN (tgt := 41) C (by omega) (by omega) d_Mo_defended_9 (by decide) (fun b0 => ?_) (fun b0 => ?_)
      · skip
        refine g_iload_n C d_Mo_defended_41 rfl 2 rfl ?_
        exact g_iret C hrt hlk () (by rw [ha, show i = n by omega]) rfl d_Mo_defended_42
      · skip
        refine g_aload_n C d_Mo_defended_12 rfl 0 rfl ?_
        refine g_get C lay_Mo 0 rfl rfl 3 (by decide) m_637 rfl d_Mo_defended_13 ?_
        refine g_iload_n C d_Mo_defended_16 rfl 3 rfl ?_
        refine g_ialdN C 1 rfl (by omega) (by decide) d_Mo_defended_17 ?_
        refine g_top (show (aN U) i = nI (U i) from rfl) ?_
        refine g_iload_n C d_Mo_defended_18 rfl 1 rfl ?_
        refine g_iconst (v := (-1)) C d_Mo_defended_19 (by decide) ?_
        refine g_ixor C d_Mo_defended_20 ?_
        refine g_iandD C d_Mo_defended_21 ?_
        refine g_if_neN (tgt := 33) C (dif_lt (lt4 (hU _))) d_Mo_defended_22 (by decide) (fun b1 => ?_) (fun b1 => ?_)
        · skip
          refine g_iload_n C d_Mo_defended_33 rfl 2 rfl ?_
          refine g_istore_n (lv' := [(2, .int (nI acc)), (0, .ref mo), (1, .int (nI k)), (3, .int (nI i))]) C d_Mo_defended_34 rfl (by decide) rfl ?_
          refine g_iinc (lv' := [(3, .int (nI (i + 1))), (2, .int (nI acc)), (0, .ref mo), (1, .int (nI k))]) C d_Mo_defended_35 3 rfl (nI_1 _) (by decide) rfl ?_
          refine g_goto (tgt := 4) C d_Mo_defended_38 (by decide) ?_
          refine g_perm [2, 3, 1, 0] rfl ?_
          exact ih4 (i + 1) acc (by omega) (by simp [dfM, *]) (by omega)
        · skip
          refine g_iload_n C d_Mo_defended_25 rfl 2 rfl ?_
          refine g_iconst (v := nI 1) C d_Mo_defended_26 (by decide) ?_
          refine g_iload_n C d_Mo_defended_27 rfl 3 rfl ?_
          refine g_ishl1N C (by omega) d_Mo_defended_28 ?_
          refine g_iorN C d_Mo_defended_29 ?_
          refine g_goto (tgt := 34) C d_Mo_defended_30 (by decide) ?_
          refine g_istore_n (lv' := [(2, .int (nI (acc ||| (2 ^ i)))), (0, .ref mo), (1, .int (nI k)), (3, .int (nI i))]) C d_Mo_defended_34 rfl (by decide) rfl ?_
          refine g_iinc (lv' := [(3, .int (nI (i + 1))), (2, .int (nI (acc ||| (2 ^ i)))), (0, .ref mo), (1, .int (nI k))]) C d_Mo_defended_35 3 rfl (nI_1 _) (by decide) rfl ?_
          refine g_goto (tgt := 4) C d_Mo_defended_38 (by decide) ?_
          refine g_perm [2, 3, 1, 0] rfl ?_
          exact ih4 (i + 1) (acc ||| (2 ^ i)) (by omega) (by simp [dfM, *]) (by omega)
  refine g_perm [2, 3, 1, 0] rfl ?_
  exact loop4 (n - 0 + 1) 0 0 (Nat.zero_le _) (rfl) (Nat.lt_succ_self _)

set_option maxHeartbeats 4000000 in
set_option maxRecDepth 100000 in
theorem o_adds (l : Launch) (D : va_G) (E : Nat → ClassId) (mo : Nat) (m1 : Nat) (m2 : Nat) (m3 : Nat) (m4 : Nat) (m5 : Nat) (m6 : Nat) (m7 : Nat) (m8 : Nat) (m9 : Nat) (m10 : Nat) (m11 : Nat) (m12 : Nat) (m13 : Nat) (m14 : Nat) (m15 : Nat) (th : Nat) (n : Nat) (kn : Bool) (lg : Bool) (td : Bool) (ld : Nat) (lt : Nat) (gr : Nat) (mv : Nat) (la : Nat) (KD : Nat → Nat) (x : Nat) (k : Nat) (hx : x < 4096) (hk : k < 5) (hKD : KD x < 32) : MV l D E y_Mo_adds (.code y_Mo_adds k_Mo_adds 3 none) ({ frames := 0, cells := 0, slots := 0, locals := 0 } : Room) [.ref mo, .int (nI x), .int (nI k)] [(mo, .inr (7, [.int (nI th), .int (nI n), .ref m1, .ref m2, .ref m3, .ref m4, .ref m5, .ref m6, .int (bI kn), .int (bI lg), .int (bI td), .int (nI ld), .int (pI lt), .ref m7, .int (nI gr), .int (nI mv), .ref m8, .ref m9, .ref m10, .ref m11, .ref m12, .ref m13, .int (nI la), .ref m14, .ref m15])), (m4, .inl (E 2, 4096, .inl (aN KD)))] (fun _ : Unit => True) (fun _ : Unit => [(mo, .inr (7, [.int (nI th), .int (nI n), .ref m1, .ref m2, .ref m3, .ref m4, .ref m5, .ref m6, .int (bI kn), .int (bI lg), .int (bI td), .int (nI ld), .int (pI lt), .ref m7, .int (nI gr), .int (nI mv), .ref m8, .ref m9, .ref m10, .ref m11, .ref m12, .ref m13, .int (nI la), .ref m14, .ref m15])), (m4, .inl (E 2, 4096, .inl (aN (va_up KD x (KD x ||| 2 ^ k)))))]) := by
  refine MV.of (by decide) (Nat.le_of_ble_eq_true rfl) ?_
  intro p e s m args below meth c A C hrt hlk hnm
  refine g_lv (lv' := [(0, .ref mo), (1, .int (nI x)), (2, .int (nI k))]) rfl ?_
  refine g_aload_n C d_Mo_adds_0 rfl 0 rfl ?_
  refine g_get C lay_Mo 0 rfl rfl 5 (by decide) m_639 rfl d_Mo_adds_1 ?_
  refine g_iload_n C d_Mo_adds_4 rfl 1 rfl ?_
  refine g_aload_n C d_Mo_adds_5 rfl 0 rfl ?_
  refine g_get C lay_Mo 0 rfl rfl 5 (by decide) m_639 rfl d_Mo_adds_6 ?_
  refine g_iload_n C d_Mo_adds_9 rfl 1 rfl ?_
  refine g_baldN C 1 rfl (by omega) (by decide) d_Mo_adds_10 ?_
  refine g_top (show (aN KD) x = nI (KD x) from rfl) ?_
  refine g_iconst (v := nI 1) C d_Mo_adds_11 (by decide) ?_
  refine g_iload_n C d_Mo_adds_12 rfl 2 rfl ?_
  refine g_ishl1N C (by omega) d_Mo_adds_13 ?_
  refine g_iorN C d_Mo_adds_14 ?_
  refine g_i2bN C (Nat.lt_trans (Nat.or_lt_two_pow (n := 5) hKD (Nat.pow_lt_pow_right (by decide) hk)) (by decide)) d_Mo_adds_15 ?_
  refine g_bastN (f' := aN (va_up KD x ((KD x) ||| (2 ^ k)))) (ws' := [(mo, .inr (7, [.int (nI th), .int (nI n), .ref m1, .ref m2, .ref m3, .ref m4, .ref m5, .ref m6, .int (bI kn), .int (bI lg), .int (bI td), .int (nI ld), .int (pI lt), .ref m7, .int (nI gr), .int (nI mv), .ref m8, .ref m9, .ref m10, .ref m11, .ref m12, .ref m13, .int (nI la), .ref m14, .ref m15])), (m4, .inl (E 2, 4096, .inl (aN (va_up KD x ((KD x) ||| (2 ^ k))))))]) C 1 rfl (by omega) (by decide) (aN_upB _ _ (Nat.lt_trans (Nat.or_lt_two_pow (n := 5) hKD (Nat.pow_lt_pow_right (by decide) hk)) (by decide))) rfl d_Mo_adds_16 ?_
  exact g_vret C hrt hlk () (trivial) rfl d_Mo_adds_17

set_option maxHeartbeats 4000000 in
set_option maxRecDepth 100000 in
theorem o_isFreeSet (l : Launch) (D : va_G) (E : Nat → ClassId) (mo : Nat) (m1 : Nat) (m2 : Nat) (m3 : Nat) (m4 : Nat) (m5 : Nat) (m6 : Nat) (m7 : Nat) (m8 : Nat) (m9 : Nat) (m10 : Nat) (m11 : Nat) (m12 : Nat) (m13 : Nat) (m14 : Nat) (m15 : Nat) (th : Nat) (n : Nat) (kn : Bool) (lg : Bool) (td : Bool) (ld : Nat) (lt : Nat) (gr : Nat) (mv : Nat) (la : Nat) (HI : Nat → Nat) (x : Nat) (hx : x < 4096) : MI l D E y_Mo_isFreeSet (.code y_Mo_isFreeSet k_Mo_isFreeSet 2 (some .boolean)) ({ frames := 0, cells := 0, slots := 0, locals := 0 } : Room) [.ref mo, .int (nI x)] [(mo, .inr (7, [.int (nI th), .int (nI n), .ref m1, .ref m2, .ref m3, .ref m4, .ref m5, .ref m6, .int (bI kn), .int (bI lg), .int (bI td), .int (nI ld), .int (pI lt), .ref m7, .int (nI gr), .int (nI mv), .ref m8, .ref m9, .ref m10, .ref m11, .ref m12, .ref m13, .int (nI la), .ref m14, .ref m15])), (m3, .inl (E 0, 4096, .inl (aN HI)))] (fun (r : Int32) (_ : Unit) => r = bI (HI x &&& x == 0)) (fun _ : Unit => [(mo, .inr (7, [.int (nI th), .int (nI n), .ref m1, .ref m2, .ref m3, .ref m4, .ref m5, .ref m6, .int (bI kn), .int (bI lg), .int (bI td), .int (nI ld), .int (pI lt), .ref m7, .int (nI gr), .int (nI mv), .ref m8, .ref m9, .ref m10, .ref m11, .ref m12, .ref m13, .int (nI la), .ref m14, .ref m15])), (m3, .inl (E 0, 4096, .inl (aN HI)))]) := by
  refine MI.of (by decide) (Nat.le_of_ble_eq_true rfl) ?_
  intro p e s m args below meth c A C hrt hlk hnm
  refine g_lv (lv' := [(0, .ref mo), (1, .int (nI x))]) rfl ?_
  refine g_aload_n C d_Mo_isFreeSet_0 rfl 0 rfl ?_
  refine g_get C lay_Mo 0 rfl rfl 4 (by decide) m_638 rfl d_Mo_isFreeSet_1 ?_
  refine g_iload_n C d_Mo_isFreeSet_4 rfl 1 rfl ?_
  refine g_ialdN C 1 rfl (by omega) (by decide) d_Mo_isFreeSet_5 ?_
  refine g_top (show (aN HI) x = nI (HI x) from rfl) ?_
  refine g_iload_n C d_Mo_isFreeSet_6 rfl 1 rfl ?_
  refine g_iandN C d_Mo_isFreeSet_7 ?_
  refine g_if_neN (tgt := 15) C (and_lt (show x < 2 ^ 31 by omega)) d_Mo_isFreeSet_8 (by decide) (fun b0 => ?_) (fun b0 => ?_)
  · skip
    refine g_iconst (v := nI 0) C d_Mo_isFreeSet_15 (by decide) ?_
    refine g_top (show nI 0 = bI false from rfl) ?_
    exact g_zret C hrt hlk () (congrArg bI (by simp [b0])) rfl d_Mo_isFreeSet_16
  · skip
    refine g_iconst (v := nI 1) C d_Mo_isFreeSet_11 (by decide) ?_
    refine g_goto (tgt := 16) C d_Mo_isFreeSet_12 (by decide) ?_
    refine g_top (show nI 1 = bI true from rfl) ?_
    exact g_zret C hrt hlk () (congrArg bI (by simp [b0])) rfl d_Mo_isFreeSet_16

set_option maxHeartbeats 4000000 in
set_option maxRecDepth 100000 in
theorem o_puts (l : Launch) (D : va_G) (E : Nat → ClassId) (mo : Nat) (m1 : Nat) (m2 : Nat) (m3 : Nat) (m4 : Nat) (m5 : Nat) (m6 : Nat) (m7 : Nat) (m8 : Nat) (m9 : Nat) (m10 : Nat) (m11 : Nat) (m12 : Nat) (m13 : Nat) (m14 : Nat) (m15 : Nat) (th : Nat) (n : Nat) (kn : Bool) (lg : Bool) (td : Bool) (ld : Nat) (lt : Nat) (gr : Nat) (mv : Nat) (la : Nat) (Sl : Nat → Nat) (Al : Nat → Int32) (Dl : Nat → Nat) (x : Nat) (y : Int32) (sd : Nat) (hla : la < 600) : MV l D E y_Mo_puts (.code y_Mo_puts k_Mo_puts 4 none) ({ frames := 0, cells := 0, slots := 0, locals := 0 } : Room) [.ref mo, .int (nI x), .int y, .int (nI sd)] [(mo, .inr (7, [.int (nI th), .int (nI n), .ref m1, .ref m2, .ref m3, .ref m4, .ref m5, .ref m6, .int (bI kn), .int (bI lg), .int (bI td), .int (nI ld), .int (pI lt), .ref m7, .int (nI gr), .int (nI mv), .ref m8, .ref m9, .ref m10, .ref m11, .ref m12, .ref m13, .int (nI la), .ref m14, .ref m15])), (m11, .inl (E 0, 600, .inl (aN Sl))), (m12, .inl (E 0, 600, .inl Al)), (m13, .inl (E 0, 600, .inl (aN Dl)))] (fun _ : Unit => True) (fun _ : Unit => [(mo, .inr (7, [.int (nI th), .int (nI n), .ref m1, .ref m2, .ref m3, .ref m4, .ref m5, .ref m6, .int (bI kn), .int (bI lg), .int (bI td), .int (nI ld), .int (pI lt), .ref m7, .int (nI gr), .int (nI mv), .ref m8, .ref m9, .ref m10, .ref m11, .ref m12, .ref m13, .int (nI (la + 1)), .ref m14, .ref m15])), (m11, .inl (E 0, 600, .inl (aN (va_up Sl la x)))), (m12, .inl (E 0, 600, .inl (upd Al la y))), (m13, .inl (E 0, 600, .inl (aN (va_up Dl la sd))))]) := by
  refine MV.of (by decide) (Nat.le_of_ble_eq_true rfl) ?_
  intro p e s m args below meth c A C hrt hlk hnm
  refine g_lv (lv' := [(0, .ref mo), (1, .int (nI x)), (2, .int y), (3, .int (nI sd))]) rfl ?_
  refine g_aload_n C d_Mo_puts_0 rfl 0 rfl ?_
  refine g_get C lay_Mo 0 rfl rfl 19 (by decide) m_653 rfl d_Mo_puts_1 ?_
  refine g_aload_n C d_Mo_puts_4 rfl 0 rfl ?_
  refine g_get C lay_Mo 0 rfl rfl 22 (by decide) m_656 rfl d_Mo_puts_5 ?_
  refine g_iload_n C d_Mo_puts_8 rfl 1 rfl ?_
  refine g_iastN (f' := aN (va_up Sl la x)) (ws' := [(mo, .inr (7, [.int (nI th), .int (nI n), .ref m1, .ref m2, .ref m3, .ref m4, .ref m5, .ref m6, .int (bI kn), .int (bI lg), .int (bI td), .int (nI ld), .int (pI lt), .ref m7, .int (nI gr), .int (nI mv), .ref m8, .ref m9, .ref m10, .ref m11, .ref m12, .ref m13, .int (nI la), .ref m14, .ref m15])), (m11, .inl (E 0, 600, .inl (aN (va_up Sl la x)))), (m12, .inl (E 0, 600, .inl Al)), (m13, .inl (E 0, 600, .inl (aN Dl)))]) C 1 rfl (by omega) (by decide) (aN_up _ _ _) rfl d_Mo_puts_9 ?_
  refine g_aload_n C d_Mo_puts_10 rfl 0 rfl ?_
  refine g_get C lay_Mo 0 rfl rfl 20 (by decide) m_654 rfl d_Mo_puts_11 ?_
  refine g_aload_n C d_Mo_puts_14 rfl 0 rfl ?_
  refine g_get C lay_Mo 0 rfl rfl 22 (by decide) m_656 rfl d_Mo_puts_15 ?_
  refine g_iload_n C d_Mo_puts_18 rfl 2 rfl ?_
  refine g_iastN (f' := upd Al la y) (ws' := [(mo, .inr (7, [.int (nI th), .int (nI n), .ref m1, .ref m2, .ref m3, .ref m4, .ref m5, .ref m6, .int (bI kn), .int (bI lg), .int (bI td), .int (nI ld), .int (pI lt), .ref m7, .int (nI gr), .int (nI mv), .ref m8, .ref m9, .ref m10, .ref m11, .ref m12, .ref m13, .int (nI la), .ref m14, .ref m15])), (m11, .inl (E 0, 600, .inl (aN (va_up Sl la x)))), (m12, .inl (E 0, 600, .inl (upd Al la y))), (m13, .inl (E 0, 600, .inl (aN Dl)))]) C 2 rfl (by omega) (by decide) rfl rfl d_Mo_puts_19 ?_
  refine g_aload_n C d_Mo_puts_20 rfl 0 rfl ?_
  refine g_get C lay_Mo 0 rfl rfl 21 (by decide) m_655 rfl d_Mo_puts_21 ?_
  refine g_aload_n C d_Mo_puts_24 rfl 0 rfl ?_
  refine g_get C lay_Mo 0 rfl rfl 22 (by decide) m_656 rfl d_Mo_puts_25 ?_
  refine g_iload_n C d_Mo_puts_28 rfl 3 rfl ?_
  refine g_iastN (f' := aN (va_up Dl la sd)) (ws' := [(mo, .inr (7, [.int (nI th), .int (nI n), .ref m1, .ref m2, .ref m3, .ref m4, .ref m5, .ref m6, .int (bI kn), .int (bI lg), .int (bI td), .int (nI ld), .int (pI lt), .ref m7, .int (nI gr), .int (nI mv), .ref m8, .ref m9, .ref m10, .ref m11, .ref m12, .ref m13, .int (nI la), .ref m14, .ref m15])), (m11, .inl (E 0, 600, .inl (aN (va_up Sl la x)))), (m12, .inl (E 0, 600, .inl (upd Al la y))), (m13, .inl (E 0, 600, .inl (aN (va_up Dl la sd))))]) C 3 rfl (by omega) (by decide) (aN_up _ _ _) rfl d_Mo_puts_29 ?_
  refine g_aload_n C d_Mo_puts_30 rfl 0 rfl ?_
  refine g_dup C d_Mo_puts_31 rfl ?_
  refine g_get C lay_Mo 0 rfl rfl 22 (by decide) m_656 rfl d_Mo_puts_32 ?_
  refine g_iconst (v := nI 1) C d_Mo_puts_35 (by decide) ?_
  refine g_iaddN C d_Mo_puts_36 ?_
  refine g_put (ws' := [(mo, .inr (7, [.int (nI th), .int (nI n), .ref m1, .ref m2, .ref m3, .ref m4, .ref m5, .ref m6, .int (bI kn), .int (bI lg), .int (bI td), .int (nI ld), .int (pI lt), .ref m7, .int (nI gr), .int (nI mv), .ref m8, .ref m9, .ref m10, .ref m11, .ref m12, .ref m13, .int (nI (la + 1)), .ref m14, .ref m15])), (m11, .inl (E 0, 600, .inl (aN (va_up Sl la x)))), (m12, .inl (E 0, 600, .inl (upd Al la y))), (m13, .inl (E 0, 600, .inl (aN (va_up Dl la sd))))]) C lay_Mo ty_Mo nm_Mo 0 rfl rfl 22 (by decide) m_656 rfl rfl rfl (Nat.le_of_ble_eq_true rfl) rfl d_Mo_puts_37 ?_
  exact g_vret C hrt hlk () (trivial) rfl d_Mo_puts_40

set_option maxHeartbeats 4000000 in
set_option maxRecDepth 100000 in
theorem o_from (l : Launch) (D : va_G) (E : Nat → ClassId) (mo : Nat) (m1 : Nat) (m2 : Nat) (m3 : Nat) (m4 : Nat) (m5 : Nat) (m6 : Nat) (m7 : Nat) (m8 : Nat) (m9 : Nat) (m10 : Nat) (m11 : Nat) (m12 : Nat) (m13 : Nat) (m14 : Nat) (m15 : Nat) (th : Nat) (n : Nat) (kn : Bool) (lg : Bool) (td : Bool) (ld : Nat) (lt : Nat) (gr : Nat) (mv : Nat) (la : Nat) (MX : Nat → Nat) (a : Nat) (hn : n ≤ 12) (ha : a < 12) (hX : ∀ a, a < 12 → MX a < 4096) : MI l D E y_Mo_from (.code y_Mo_from k_Mo_from 4 (some .int)) ({ frames := 0, cells := 0, slots := 0, locals := 0 } : Room) [.ref mo, .int (nI a)] [(mo, .inr (7, [.int (nI th), .int (nI n), .ref m1, .ref m2, .ref m3, .ref m4, .ref m5, .ref m6, .int (bI kn), .int (bI lg), .int (bI td), .int (nI ld), .int (pI lt), .ref m7, .int (nI gr), .int (nI mv), .ref m8, .ref m9, .ref m10, .ref m11, .ref m12, .ref m13, .int (nI la), .ref m14, .ref m15])), (m14, .inl (E 0, 12, .inl (aN MX)))] (fun (r : Int32) (_ : Unit) => r = nI (frM MX a n)) (fun _ : Unit => [(mo, .inr (7, [.int (nI th), .int (nI n), .ref m1, .ref m2, .ref m3, .ref m4, .ref m5, .ref m6, .int (bI kn), .int (bI lg), .int (bI td), .int (nI ld), .int (pI lt), .ref m7, .int (nI gr), .int (nI mv), .ref m8, .ref m9, .ref m10, .ref m11, .ref m12, .ref m13, .int (nI la), .ref m14, .ref m15])), (m14, .inl (E 0, 12, .inl (aN MX)))]) := by
  refine MI.of (by decide) (Nat.le_of_ble_eq_true rfl) ?_
  intro p e s m args below meth c A C hrt hlk hnm
  refine g_lv (lv' := [(0, .ref mo), (1, .int (nI a))]) rfl ?_
  refine g_iconst (v := nI 0) C d_Mo_from_0 (by decide) ?_
  refine g_istore_n (lv' := [(2, .int (nI 0)), (0, .ref mo), (1, .int (nI a))]) C d_Mo_from_1 rfl (by decide) rfl ?_
  refine g_iconst (v := nI 0) C d_Mo_from_2 (by decide) ?_
  refine g_istore_n (lv' := [(3, .int (nI 0)), (2, .int (nI 0)), (0, .ref mo), (1, .int (nI a))]) C d_Mo_from_3 rfl (by decide) rfl ?_
  have loop4 : ∀ (f : Nat) (i : Nat) (acc : Nat), (i ≤ n) → (acc = frM MX a i) → n - i < f → GG p l e ({ frames := 0, cells := 0, slots := 0, locals := 0 } : Room) s m args below meth c (MQ below (va_Qi (fun (r : Int32) (_ : Unit) => r = nI (frM MX a n)) (BC D A (fun _ : Unit => [(mo, .inr (7, [.int (nI th), .int (nI n), .ref m1, .ref m2, .ref m3, .ref m4, .ref m5, .ref m6, .int (bI kn), .int (bI lg), .int (bI td), .int (nI ld), .int (pI lt), .ref m7, .int (nI gr), .int (nI mv), .ref m8, .ref m9, .ref m10, .ref m11, .ref m12, .ref m13, .int (nI la), .ref m14, .ref m15])), (m14, .inl (E 0, 12, .inl (aN MX)))])) A) args s (({ frames := 0, cells := 0, slots := 0, locals := 0 } : Room)).cells (({ frames := 0, cells := 0, slots := 0, locals := 0 } : Room)).slots A) D A 4 0 0 4 [(0, .ref mo), (1, .int (nI a)), (2, .int (nI acc)), (3, .int (nI i))] [] [(mo, .inr (7, [.int (nI th), .int (nI n), .ref m1, .ref m2, .ref m3, .ref m4, .ref m5, .ref m6, .int (bI kn), .int (bI lg), .int (bI td), .int (nI ld), .int (pI lt), .ref m7, .int (nI gr), .int (nI mv), .ref m8, .ref m9, .ref m10, .ref m11, .ref m12, .ref m13, .int (nI la), .ref m14, .ref m15])), (m14, .inl (E 0, 12, .inl (aN MX)))] := by
    intro f
    induction f with
    | zero => intro i acc hi hc hf; exact absurd hf (Nat.not_lt_zero _)
    | succ f ih =>
      intro i acc hi hc hf
      have ih4 := ih
      refine g_iload_n C d_Mo_from_4 rfl 3 rfl ?_
      refine g_aload_n C d_Mo_from_5 rfl 0 rfl ?_
      refine g_get C lay_Mo 0 rfl rfl 1 (by decide) m_635 rfl d_Mo_from_6 ?_
      refine g_icmp_geN (tgt := 42) C (by omega) (by omega) d_Mo_from_9 (by decide) (fun b0 => ?_) (fun b0 => ?_)
      · skip
        refine g_iload_n C d_Mo_from_42 rfl 2 rfl ?_
        exact g_iret C hrt hlk () (by rw [hc, show i = n by omega]) rfl d_Mo_from_43
      · skip
        refine g_aload_n C d_Mo_from_12 rfl 0 rfl ?_
        refine g_get C lay_Mo 0 rfl rfl 23 (by decide) m_657 rfl d_Mo_from_13 ?_
        refine g_iload_n C d_Mo_from_16 rfl 3 rfl ?_
        refine g_ialdN C 1 rfl (by omega) (by decide) d_Mo_from_17 ?_
        refine g_top (show (aN MX) i = nI (MX i) from rfl) ?_
        refine g_iload_n C d_Mo_from_18 rfl 1 rfl ?_
        refine g_ishrN C (lt4 (hX _ (by omega))) (by omega) d_Mo_from_19 ?_
        refine g_iconst (v := nI 1) C d_Mo_from_20 (by decide) ?_
        refine g_iandB C d_Mo_from_21 ?_
        refine g_iconst (v := nI 1) C d_Mo_from_22 (by decide) ?_
        refine g_top (show nI 1 = bI true from rfl) ?_
        refine g_icmp_neB (tgt := 34) C d_Mo_from_23 (by decide) (fun b1 => ?_) (fun b1 => ?_)
        · skip
          refine g_iload_n C d_Mo_from_34 rfl 2 rfl ?_
          refine g_istore_n (lv' := [(2, .int (nI acc)), (0, .ref mo), (1, .int (nI a)), (3, .int (nI i))]) C d_Mo_from_35 rfl (by decide) rfl ?_
          refine g_iinc (lv' := [(3, .int (nI (i + 1))), (2, .int (nI acc)), (0, .ref mo), (1, .int (nI a))]) C d_Mo_from_36 3 rfl (nI_1 _) (by decide) rfl ?_
          refine g_goto (tgt := 4) C d_Mo_from_39 (by decide) ?_
          refine g_perm [2, 3, 1, 0] rfl ?_
          exact ih4 (i + 1) acc (by omega) (by simp [frM, *]) (by omega)
        · skip
          refine g_iload_n C d_Mo_from_26 rfl 2 rfl ?_
          refine g_iconst (v := nI 1) C d_Mo_from_27 (by decide) ?_
          refine g_iload_n C d_Mo_from_28 rfl 3 rfl ?_
          refine g_ishl1N C (by omega) d_Mo_from_29 ?_
          refine g_iorN C d_Mo_from_30 ?_
          refine g_goto (tgt := 35) C d_Mo_from_31 (by decide) ?_
          refine g_istore_n (lv' := [(2, .int (nI (acc ||| (2 ^ i)))), (0, .ref mo), (1, .int (nI a)), (3, .int (nI i))]) C d_Mo_from_35 rfl (by decide) rfl ?_
          refine g_iinc (lv' := [(3, .int (nI (i + 1))), (2, .int (nI (acc ||| (2 ^ i)))), (0, .ref mo), (1, .int (nI a))]) C d_Mo_from_36 3 rfl (nI_1 _) (by decide) rfl ?_
          refine g_goto (tgt := 4) C d_Mo_from_39 (by decide) ?_
          refine g_perm [2, 3, 1, 0] rfl ?_
          exact ih4 (i + 1) (acc ||| (2 ^ i)) (by omega) (by simp [frM, *]) (by omega)
  refine g_perm [2, 3, 1, 0] rfl ?_
  exact loop4 (n - 0 + 1) 0 0 (Nat.zero_le _) (rfl) (Nat.lt_succ_self _)

set_option maxHeartbeats 4000000 in
set_option maxRecDepth 100000 in
theorem o_both (l : Launch) (D : va_G) (E : Nat → ClassId) (mo : Nat) (m1 : Nat) (m2 : Nat) (m3 : Nat) (m4 : Nat) (m5 : Nat) (m6 : Nat) (m7 : Nat) (m8 : Nat) (m9 : Nat) (m10 : Nat) (m11 : Nat) (m12 : Nat) (m13 : Nat) (m14 : Nat) (m15 : Nat) (th : Nat) (n : Nat) (kn : Bool) (lg : Bool) (td : Bool) (ld : Nat) (lt : Nat) (gr : Nat) (mv : Nat) (la : Nat) (MX : Nat → Nat) (a : Nat) (hn : n ≤ 12) (ha : a < 12) (hX : ∀ a, a < 12 → MX a < 4096) : MI l D E y_Mo_both (.code y_Mo_both k_Mo_both 2 (some .int)) ({ frames := 1, cells := 0, slots := 0, locals := 23 } : Room) [.ref mo, .int (nI a)] [(mo, .inr (7, [.int (nI th), .int (nI n), .ref m1, .ref m2, .ref m3, .ref m4, .ref m5, .ref m6, .int (bI kn), .int (bI lg), .int (bI td), .int (nI ld), .int (pI lt), .ref m7, .int (nI gr), .int (nI mv), .ref m8, .ref m9, .ref m10, .ref m11, .ref m12, .ref m13, .int (nI la), .ref m14, .ref m15])), (m14, .inl (E 0, 12, .inl (aN MX)))] (fun (r : Int32) (_ : Unit) => r = nI (frM MX a n &&& MX a)) (fun _ : Unit => [(mo, .inr (7, [.int (nI th), .int (nI n), .ref m1, .ref m2, .ref m3, .ref m4, .ref m5, .ref m6, .int (bI kn), .int (bI lg), .int (bI td), .int (nI ld), .int (pI lt), .ref m7, .int (nI gr), .int (nI mv), .ref m8, .ref m9, .ref m10, .ref m11, .ref m12, .ref m13, .int (nI la), .ref m14, .ref m15])), (m14, .inl (E 0, 12, .inl (aN MX)))]) := by
  refine MI.of (by decide) (Nat.le_of_ble_eq_true rfl) ?_
  intro p e s m args below meth c A C hrt hlk hnm
  refine g_lv (lv' := [(0, .ref mo), (1, .int (nI a))]) rfl ?_
  refine g_aload_n C d_Mo_both_0 rfl 0 rfl ?_
  refine g_iload_n C d_Mo_both_1 rfl 1 rfl ?_
  refine g_iV (rest := []) (wr := []) C (o_from l D E mo m1 m2 m3 m4 m5 m6 m7 m8 m9 m10 m11 m12 m13 m14 m15 th n kn lg td ld lt gr mv la MX a (by omega) (by omega) hX) rd_Mo_from m_862 m_864 m_35 rfl rfl (Nat.le_of_ble_eq_true rfl) (Nat.le_of_ble_eq_true rfl) (Nat.le_of_ble_eq_true rfl) (Nat.le_of_ble_eq_true rfl) rfl rfl (Nat.le_of_ble_eq_true rfl) d_Mo_both_2 [0, 1] [] rfl (by decide) rfl (by decide) (by decide) (fun r2 _ (hr2 : r2 = nI (frM MX a n)) => ?_)
  subst hr2
  refine g_cells (ws' := [(mo, .inr (7, [.int (nI th), .int (nI n), .ref m1, .ref m2, .ref m3, .ref m4, .ref m5, .ref m6, .int (bI kn), .int (bI lg), .int (bI td), .int (nI ld), .int (pI lt), .ref m7, .int (nI gr), .int (nI mv), .ref m8, .ref m9, .ref m10, .ref m11, .ref m12, .ref m13, .int (nI la), .ref m14, .ref m15])), (m14, .inl (E 0, 12, .inl (aN MX)))]) [0, 1] (by decide) rfl ?_
  refine g_aload_n C d_Mo_both_5 rfl 0 rfl ?_
  refine g_get C lay_Mo 0 rfl rfl 23 (by decide) m_657 rfl d_Mo_both_6 ?_
  refine g_iload_n C d_Mo_both_9 rfl 1 rfl ?_
  refine g_ialdN C 1 rfl (by omega) (by decide) d_Mo_both_10 ?_
  refine g_top (show (aN MX) a = nI (MX a) from rfl) ?_
  refine g_iandN C d_Mo_both_11 ?_
  exact g_iret C hrt hlk () (rfl) rfl d_Mo_both_12
