set_option maxHeartbeats 4000000 in
set_option maxRecDepth 100000 in
theorem o_labelBad (l : Launch) (D : va_G) (E : Nat → ClassId) (mo : Nat) (m1 : Nat) (m2 : Nat) (m3 : Nat) (m4 : Nat) (m5 : Nat) (m6 : Nat) (m7 : Nat) (m8 : Nat) (m9 : Nat) (m10 : Nat) (m11 : Nat) (m12 : Nat) (m13 : Nat) (m14 : Nat) (m15 : Nat) (th : Nat) (n : Nat) (kn : Bool) (lg : Bool) (td : Bool) (ld : Nat) (lt : Nat) (gr : Nat) (mv : Nat) (la : Nat) (T : Nat → Nat) (U : Nat → Nat) (HI : Nat → Nat) (KD : Nat → Nat) (HE : Nat → Bool) (AV : Nat → Bool) (MR : Nat → Nat) (x : Int32) (hb : inR x n = false) : MI l D E y_Mo_label (.code y_Mo_label k_Mo_label 2 (some .int)) ({ frames := 1, cells := 0, slots := 0, locals := 21 } : Room) [.ref mo, .int x] [(mo, .inr (7, [.int (nI th), .int (nI n), .ref m1, .ref m2, .ref m3, .ref m4, .ref m5, .ref m6, .int (bI kn), .int (bI lg), .int (bI td), .int (nI ld), .int (pI lt), .ref m7, .int (nI gr), .int (nI mv), .ref m8, .ref m9, .ref m10, .ref m11, .ref m12, .ref m13, .int (nI la), .ref m14, .ref m15])), (m1, .inl (E 0, 12, .inl (aN T))), (m2, .inl (E 0, 12, .inl (aN U))), (m3, .inl (E 0, 4096, .inl (aN HI))), (m4, .inl (E 2, 4096, .inl (aN KD))), (m5, .inl (E 3, 4096, .inl (aB HE))), (m6, .inl (E 3, 4096, .inl (aB AV))), (m7, .inl (E 0, 12, .inl (aN MR)))] (fun (r : Int32) (_ : Unit) => r = nI 0) (fun _ : Unit => [(mo, .inr (7, [.int (nI 1), .int (nI n), .ref m1, .ref m2, .ref m3, .ref m4, .ref m5, .ref m6, .int (bI kn), .int (bI lg), .int (bI td), .int (nI ld), .int (pI lt), .ref m7, .int (nI gr), .int (nI mv), .ref m8, .ref m9, .ref m10, .ref m11, .ref m12, .ref m13, .int (nI la), .ref m14, .ref m15])), (m1, .inl (E 0, 12, .inl (aN T))), (m2, .inl (E 0, 12, .inl (aN U))), (m3, .inl (E 0, 4096, .inl (aN HI))), (m4, .inl (E 2, 4096, .inl (aN KD))), (m5, .inl (E 3, 4096, .inl (aB HE))), (m6, .inl (E 3, 4096, .inl (aB AV))), (m7, .inl (E 0, 12, .inl (aN MR)))]) := by
  refine MI.of (by decide) (Nat.le_of_ble_eq_true rfl) ?_
  intro p e s m args below meth c A C hrt hlk hnm
  refine g_lv (lv' := [(0, .ref mo), (1, .int x)]) rfl ?_
  refine g_aload_n C d_Mo_label_0 rfl 0 rfl ?_
  refine g_aload_n C d_Mo_label_1 rfl 0 rfl ?_
  refine g_iload_n C d_Mo_label_2 rfl 1 rfl ?_
  refine g_iV (rest := [.ref mo]) (wr := [(m1, .inl (E 0, 12, .inl (aN T))), (m2, .inl (E 0, 12, .inl (aN U))), (m3, .inl (E 0, 4096, .inl (aN HI))), (m4, .inl (E 2, 4096, .inl (aN KD))), (m5, .inl (E 3, 4096, .inl (aB HE))), (m6, .inl (E 3, 4096, .inl (aB AV))), (m7, .inl (E 0, 12, .inl (aN MR)))]) C (o_isArgument l D E mo m1 m2 m3 m4 m5 m6 m7 m8 m9 m10 m11 m12 m13 m14 m15 th n kn lg td ld lt gr mv la x ) rd_Mo_isArgument m_731 m_733 m_22 rfl rfl (Nat.le_of_ble_eq_true rfl) (Nat.le_of_ble_eq_true rfl) (Nat.le_of_ble_eq_true rfl) (Nat.le_of_ble_eq_true rfl) rfl rfl (Nat.le_of_ble_eq_true rfl) d_Mo_label_3 [0] [1, 2, 3, 4, 5, 6, 7] rfl (by decide) rfl (by decide) (by decide) (fun r3 _ (hr3 : r3 = bI (inR x n)) => ?_)
  subst hr3
  refine g_cells (ws' := [(mo, .inr (7, [.int (nI th), .int (nI n), .ref m1, .ref m2, .ref m3, .ref m4, .ref m5, .ref m6, .int (bI kn), .int (bI lg), .int (bI td), .int (nI ld), .int (pI lt), .ref m7, .int (nI gr), .int (nI mv), .ref m8, .ref m9, .ref m10, .ref m11, .ref m12, .ref m13, .int (nI la), .ref m14, .ref m15])), (m1, .inl (E 0, 12, .inl (aN T))), (m2, .inl (E 0, 12, .inl (aN U))), (m3, .inl (E 0, 4096, .inl (aN HI))), (m4, .inl (E 2, 4096, .inl (aN KD))), (m5, .inl (E 3, 4096, .inl (aB HE))), (m6, .inl (E 3, 4096, .inl (aB AV))), (m7, .inl (E 0, 12, .inl (aN MR)))]) [7, 0, 1, 2, 3, 4, 5, 6] (by decide) rfl ?_
  refine g_if_neB (tgt := 13) C d_Mo_label_6 (by decide) (fun b0 => ?_) (fun b0 => ?_)
  · skip
    rw [hb] at b0; cases b0
  · skip
    refine g_iconst (v := nI 1) C d_Mo_label_9 (by decide) ?_
    refine g_goto (tgt := 25) C d_Mo_label_10 (by decide) ?_
    refine g_put (ws' := [(mo, .inr (7, [.int (nI 1), .int (nI n), .ref m1, .ref m2, .ref m3, .ref m4, .ref m5, .ref m6, .int (bI kn), .int (bI lg), .int (bI td), .int (nI ld), .int (pI lt), .ref m7, .int (nI gr), .int (nI mv), .ref m8, .ref m9, .ref m10, .ref m11, .ref m12, .ref m13, .int (nI la), .ref m14, .ref m15])), (m1, .inl (E 0, 12, .inl (aN T))), (m2, .inl (E 0, 12, .inl (aN U))), (m3, .inl (E 0, 4096, .inl (aN HI))), (m4, .inl (E 2, 4096, .inl (aN KD))), (m5, .inl (E 3, 4096, .inl (aB HE))), (m6, .inl (E 3, 4096, .inl (aB AV))), (m7, .inl (E 0, 12, .inl (aN MR)))]) C lay_Mo ty_Mo nm_Mo 0 rfl rfl 0 (by decide) m_634 rfl rfl rfl (Nat.le_of_ble_eq_true rfl) rfl d_Mo_label_25 ?_
    refine g_aload_n C d_Mo_label_28 rfl 0 rfl ?_
    refine g_get C lay_Mo 0 rfl rfl 0 (by decide) m_634 rfl d_Mo_label_29 ?_
    refine g_if_leN (tgt := 37) C (by decide) d_Mo_label_32 (by decide) (fun h => absurd h (by decide)) (fun _ => ?_)
    refine g_iconst (v := nI 0) C d_Mo_label_35 (by decide) ?_
    exact g_iret C hrt hlk () (rfl) rfl d_Mo_label_36

set_option maxHeartbeats 4000000 in
set_option maxRecDepth 100000 in
theorem o_labelNo (l : Launch) (D : va_G) (E : Nat → ClassId) (mo : Nat) (m1 : Nat) (m2 : Nat) (m3 : Nat) (m4 : Nat) (m5 : Nat) (m6 : Nat) (m7 : Nat) (m8 : Nat) (m9 : Nat) (m10 : Nat) (m11 : Nat) (m12 : Nat) (m13 : Nat) (m14 : Nat) (m15 : Nat) (th : Nat) (n : Nat) (kn : Bool) (lg : Bool) (ld : Nat) (lt : Nat) (gr : Nat) (mv : Nat) (la : Nat) (T : Nat → Nat) (U : Nat → Nat) (HI : Nat → Nat) (KD : Nat → Nat) (HE : Nat → Bool) (AV : Nat → Bool) (MR : Nat → Nat) (i : Nat) (hn : n ≤ 12) (hi : i < n) : MI l D E y_Mo_label (.code y_Mo_label k_Mo_label 2 (some .int)) ({ frames := 1, cells := 0, slots := 0, locals := 21 } : Room) [.ref mo, .int (nI i)] [(mo, .inr (7, [.int (nI th), .int (nI n), .ref m1, .ref m2, .ref m3, .ref m4, .ref m5, .ref m6, .int (bI kn), .int (bI lg), .int (bI false), .int (nI ld), .int (pI lt), .ref m7, .int (nI gr), .int (nI mv), .ref m8, .ref m9, .ref m10, .ref m11, .ref m12, .ref m13, .int (nI la), .ref m14, .ref m15])), (m1, .inl (E 0, 12, .inl (aN T))), (m2, .inl (E 0, 12, .inl (aN U))), (m3, .inl (E 0, 4096, .inl (aN HI))), (m4, .inl (E 2, 4096, .inl (aN KD))), (m5, .inl (E 3, 4096, .inl (aB HE))), (m6, .inl (E 3, 4096, .inl (aB AV))), (m7, .inl (E 0, 12, .inl (aN MR)))] (fun (r : Int32) (_ : Unit) => r = nI 0) (fun _ : Unit => [(mo, .inr (7, [.int (nI 2), .int (nI n), .ref m1, .ref m2, .ref m3, .ref m4, .ref m5, .ref m6, .int (bI kn), .int (bI lg), .int (bI false), .int (nI ld), .int (pI lt), .ref m7, .int (nI gr), .int (nI mv), .ref m8, .ref m9, .ref m10, .ref m11, .ref m12, .ref m13, .int (nI la), .ref m14, .ref m15])), (m1, .inl (E 0, 12, .inl (aN T))), (m2, .inl (E 0, 12, .inl (aN U))), (m3, .inl (E 0, 4096, .inl (aN HI))), (m4, .inl (E 2, 4096, .inl (aN KD))), (m5, .inl (E 3, 4096, .inl (aB HE))), (m6, .inl (E 3, 4096, .inl (aB AV))), (m7, .inl (E 0, 12, .inl (aN MR)))]) := by
  refine MI.of (by decide) (Nat.le_of_ble_eq_true rfl) ?_
  intro p e s m args below meth c A C hrt hlk hnm
  refine g_lv (lv' := [(0, .ref mo), (1, .int (nI i))]) rfl ?_
  refine g_aload_n C d_Mo_label_0 rfl 0 rfl ?_
  refine g_aload_n C d_Mo_label_1 rfl 0 rfl ?_
  refine g_iload_n C d_Mo_label_2 rfl 1 rfl ?_
  refine g_iV (rest := [.ref mo]) (wr := [(m1, .inl (E 0, 12, .inl (aN T))), (m2, .inl (E 0, 12, .inl (aN U))), (m3, .inl (E 0, 4096, .inl (aN HI))), (m4, .inl (E 2, 4096, .inl (aN KD))), (m5, .inl (E 3, 4096, .inl (aB HE))), (m6, .inl (E 3, 4096, .inl (aB AV))), (m7, .inl (E 0, 12, .inl (aN MR)))]) C (o_isArgument l D E mo m1 m2 m3 m4 m5 m6 m7 m8 m9 m10 m11 m12 m13 m14 m15 th n kn lg false ld lt gr mv la (nI i) ) rd_Mo_isArgument m_731 m_733 m_22 rfl rfl (Nat.le_of_ble_eq_true rfl) (Nat.le_of_ble_eq_true rfl) (Nat.le_of_ble_eq_true rfl) (Nat.le_of_ble_eq_true rfl) rfl rfl (Nat.le_of_ble_eq_true rfl) d_Mo_label_3 [0] [1, 2, 3, 4, 5, 6, 7] rfl (by decide) rfl (by decide) (by decide) (fun r3 _ (hr3 : r3 = bI (inR (nI i) n)) => ?_)
  subst hr3
  refine g_cells (ws' := [(mo, .inr (7, [.int (nI th), .int (nI n), .ref m1, .ref m2, .ref m3, .ref m4, .ref m5, .ref m6, .int (bI kn), .int (bI lg), .int (bI false), .int (nI ld), .int (pI lt), .ref m7, .int (nI gr), .int (nI mv), .ref m8, .ref m9, .ref m10, .ref m11, .ref m12, .ref m13, .int (nI la), .ref m14, .ref m15])), (m1, .inl (E 0, 12, .inl (aN T))), (m2, .inl (E 0, 12, .inl (aN U))), (m3, .inl (E 0, 4096, .inl (aN HI))), (m4, .inl (E 2, 4096, .inl (aN KD))), (m5, .inl (E 3, 4096, .inl (aB HE))), (m6, .inl (E 3, 4096, .inl (aB AV))), (m7, .inl (E 0, 12, .inl (aN MR)))]) [7, 0, 1, 2, 3, 4, 5, 6] (by decide) rfl ?_
  refine g_if_neB (tgt := 13) C d_Mo_label_6 (by decide) (fun b0 => ?_) (fun b0 => ?_)
  · skip
    refine g_aload_n C d_Mo_label_13 rfl 0 rfl ?_
    refine g_get C lay_Mo 0 rfl rfl 10 (by decide) m_644 rfl d_Mo_label_14 ?_
    refine g_if_neB (tgt := 24) C d_Mo_label_17 (by decide) (fun h => absurd h (by decide)) (fun _ => ?_)
    refine g_iconst (v := nI 2) C d_Mo_label_20 (by decide) ?_
    refine g_goto (tgt := 25) C d_Mo_label_21 (by decide) ?_
    refine g_put (ws' := [(mo, .inr (7, [.int (nI 2), .int (nI n), .ref m1, .ref m2, .ref m3, .ref m4, .ref m5, .ref m6, .int (bI kn), .int (bI lg), .int (bI false), .int (nI ld), .int (pI lt), .ref m7, .int (nI gr), .int (nI mv), .ref m8, .ref m9, .ref m10, .ref m11, .ref m12, .ref m13, .int (nI la), .ref m14, .ref m15])), (m1, .inl (E 0, 12, .inl (aN T))), (m2, .inl (E 0, 12, .inl (aN U))), (m3, .inl (E 0, 4096, .inl (aN HI))), (m4, .inl (E 2, 4096, .inl (aN KD))), (m5, .inl (E 3, 4096, .inl (aB HE))), (m6, .inl (E 3, 4096, .inl (aB AV))), (m7, .inl (E 0, 12, .inl (aN MR)))]) C lay_Mo ty_Mo nm_Mo 0 rfl rfl 0 (by decide) m_634 rfl rfl rfl (Nat.le_of_ble_eq_true rfl) rfl d_Mo_label_25 ?_
    refine g_aload_n C d_Mo_label_28 rfl 0 rfl ?_
    refine g_get C lay_Mo 0 rfl rfl 0 (by decide) m_634 rfl d_Mo_label_29 ?_
    refine g_if_leN (tgt := 37) C (by decide) d_Mo_label_32 (by decide) (fun h => absurd h (by decide)) (fun _ => ?_)
    refine g_iconst (v := nI 0) C d_Mo_label_35 (by decide) ?_
    exact g_iret C hrt hlk () (rfl) rfl d_Mo_label_36
  · skip
    rw [inR_nI (by omega) (by omega)] at b0; simp at b0; omega

set_option maxHeartbeats 4000000 in
set_option maxRecDepth 100000 in
theorem o_label (l : Launch) (D : va_G) (E : Nat → ClassId) (mo : Nat) (m1 : Nat) (m2 : Nat) (m3 : Nat) (m4 : Nat) (m5 : Nat) (m6 : Nat) (m7 : Nat) (m8 : Nat) (m9 : Nat) (m10 : Nat) (m11 : Nat) (m12 : Nat) (m13 : Nat) (m14 : Nat) (m15 : Nat) (th : Nat) (n : Nat) (kn : Bool) (lg : Bool) (ld : Nat) (gr : Nat) (mv : Nat) (la : Nat) (T : Nat → Nat) (U : Nat → Nat) (HI : Nat → Nat) (KD : Nat → Nat) (HE : Nat → Bool) (AV : Nat → Bool) (MR : Nat → Nat) (i : Nat) (k : Nat) (hn : n ≤ 12) (hT : ∀ a, T a < 4096) (hU : ∀ a, U a < 4096) (hHI : ∀ a, HI a < 4096) (hKD : ∀ x, KD x < 32) (hi : i < n) (h2n : k < 2 ^ n) : MI l D E y_Mo_label (.code y_Mo_label k_Mo_label 2 (some .int)) ({ frames := 3, cells := 0, slots := 0, locals := 69 } : Room) [.ref mo, .int (nI i)] [(mo, .inr (7, [.int (nI th), .int (nI n), .ref m1, .ref m2, .ref m3, .ref m4, .ref m5, .ref m6, .int (bI kn), .int (bI lg), .int (bI true), .int (nI ld), .int (pI (k + 1)), .ref m7, .int (nI gr), .int (nI mv), .ref m8, .ref m9, .ref m10, .ref m11, .ref m12, .ref m13, .int (nI la), .ref m14, .ref m15])), (m1, .inl (E 0, 12, .inl (aN T))), (m2, .inl (E 0, 12, .inl (aN U))), (m3, .inl (E 0, 4096, .inl (aN HI))), (m4, .inl (E 2, 4096, .inl (aN KD))), (m5, .inl (E 3, 4096, .inl (aB HE))), (m6, .inl (E 3, 4096, .inl (aB AV))), (m7, .inl (E 0, 12, .inl (aN MR)))] (fun (r : Int32) (_ : Unit) => r = nI (if k.testBit i then 1 else if (qH kn T n HI k).testBit i then 0 else 2)) (fun _ : Unit => [(mo, .inr (7, [.int (nI 0), .int (nI n), .ref m1, .ref m2, .ref m3, .ref m4, .ref m5, .ref m6, .int (bI true), .int (bI lg), .int (bI true), .int (nI ld), .int (pI (k + 1)), .ref m7, .int (nI (qG kn T U n HI gr)), .int (nI mv), .ref m8, .ref m9, .ref m10, .ref m11, .ref m12, .ref m13, .int (nI la), .ref m14, .ref m15])), (m1, .inl (E 0, 12, .inl (aN T))), (m2, .inl (E 0, 12, .inl (aN U))), (m3, .inl (E 0, 4096, .inl (aN (qH kn T n HI)))), (m4, .inl (E 2, 4096, .inl (aN (qK kn T U n HI KD HE AV)))), (m5, .inl (E 3, 4096, .inl (aB (qE kn T U n HI HE)))), (m6, .inl (E 3, 4096, .inl (aB (qA kn T U n HI HE AV)))), (m7, .inl (E 0, 12, .inl (aN (qR kn T U n HI MR))))]) := by
  refine MI.of (by decide) (Nat.le_of_ble_eq_true rfl) ?_
  intro p e s m args below meth c A C hrt hlk hnm
  refine g_lv (lv' := [(0, .ref mo), (1, .int (nI i))]) rfl ?_
  refine g_aload_n C d_Mo_label_0 rfl 0 rfl ?_
  refine g_aload_n C d_Mo_label_1 rfl 0 rfl ?_
  refine g_iload_n C d_Mo_label_2 rfl 1 rfl ?_
  refine g_iV (rest := [.ref mo]) (wr := [(m1, .inl (E 0, 12, .inl (aN T))), (m2, .inl (E 0, 12, .inl (aN U))), (m3, .inl (E 0, 4096, .inl (aN HI))), (m4, .inl (E 2, 4096, .inl (aN KD))), (m5, .inl (E 3, 4096, .inl (aB HE))), (m6, .inl (E 3, 4096, .inl (aB AV))), (m7, .inl (E 0, 12, .inl (aN MR)))]) C (o_isArgument l D E mo m1 m2 m3 m4 m5 m6 m7 m8 m9 m10 m11 m12 m13 m14 m15 th n kn lg true ld (k + 1) gr mv la (nI i) ) rd_Mo_isArgument m_731 m_733 m_22 rfl rfl (Nat.le_of_ble_eq_true rfl) (Nat.le_of_ble_eq_true rfl) (Nat.le_of_ble_eq_true rfl) (Nat.le_of_ble_eq_true rfl) rfl rfl (Nat.le_of_ble_eq_true rfl) d_Mo_label_3 [0] [1, 2, 3, 4, 5, 6, 7] rfl (by decide) rfl (by decide) (by decide) (fun r3 _ (hr3 : r3 = bI (inR (nI i) n)) => ?_)
  subst hr3
  refine g_cells (ws' := [(mo, .inr (7, [.int (nI th), .int (nI n), .ref m1, .ref m2, .ref m3, .ref m4, .ref m5, .ref m6, .int (bI kn), .int (bI lg), .int (bI true), .int (nI ld), .int (pI (k + 1)), .ref m7, .int (nI gr), .int (nI mv), .ref m8, .ref m9, .ref m10, .ref m11, .ref m12, .ref m13, .int (nI la), .ref m14, .ref m15])), (m1, .inl (E 0, 12, .inl (aN T))), (m2, .inl (E 0, 12, .inl (aN U))), (m3, .inl (E 0, 4096, .inl (aN HI))), (m4, .inl (E 2, 4096, .inl (aN KD))), (m5, .inl (E 3, 4096, .inl (aB HE))), (m6, .inl (E 3, 4096, .inl (aB AV))), (m7, .inl (E 0, 12, .inl (aN MR)))]) [7, 0, 1, 2, 3, 4, 5, 6] (by decide) rfl ?_
  refine g_if_neB (tgt := 13) C d_Mo_label_6 (by decide) (fun b0 => ?_) (fun b0 => ?_)
  · skip
    refine g_aload_n C d_Mo_label_13 rfl 0 rfl ?_
    refine g_get C lay_Mo 0 rfl rfl 10 (by decide) m_644 rfl d_Mo_label_14 ?_
    refine g_if_neB (tgt := 24) C d_Mo_label_17 (by decide) (fun _ => ?_) (fun h => absurd h (by decide))
    refine g_iconst (v := nI 0) C d_Mo_label_24 (by decide) ?_
    refine g_put (ws' := [(mo, .inr (7, [.int (nI 0), .int (nI n), .ref m1, .ref m2, .ref m3, .ref m4, .ref m5, .ref m6, .int (bI kn), .int (bI lg), .int (bI true), .int (nI ld), .int (pI (k + 1)), .ref m7, .int (nI gr), .int (nI mv), .ref m8, .ref m9, .ref m10, .ref m11, .ref m12, .ref m13, .int (nI la), .ref m14, .ref m15])), (m1, .inl (E 0, 12, .inl (aN T))), (m2, .inl (E 0, 12, .inl (aN U))), (m3, .inl (E 0, 4096, .inl (aN HI))), (m4, .inl (E 2, 4096, .inl (aN KD))), (m5, .inl (E 3, 4096, .inl (aB HE))), (m6, .inl (E 3, 4096, .inl (aB AV))), (m7, .inl (E 0, 12, .inl (aN MR)))]) C lay_Mo ty_Mo nm_Mo 0 rfl rfl 0 (by decide) m_634 rfl rfl rfl (Nat.le_of_ble_eq_true rfl) rfl d_Mo_label_25 ?_
    refine g_aload_n C d_Mo_label_28 rfl 0 rfl ?_
    refine g_get C lay_Mo 0 rfl rfl 0 (by decide) m_634 rfl d_Mo_label_29 ?_
    refine g_if_leN (tgt := 37) C (by decide) d_Mo_label_32 (by decide) (fun _ => ?_) (fun h => absurd h (by decide))
    refine g_aload_n C d_Mo_label_37 rfl 0 rfl ?_
    refine g_vV (rest := []) (wr := []) C (o_reckon l D E mo m1 m2 m3 m4 m5 m6 m7 m8 m9 m10 m11 m12 m13 m14 m15 0 n kn lg true ld (k + 1) gr mv la T U HI KD HE AV MR hn hT hU hHI hKD) rd_Mo_reckon m_759 m_761 m_24 rfl rfl (Nat.le_of_ble_eq_true rfl) (Nat.le_of_ble_eq_true rfl) (Nat.le_of_ble_eq_true rfl) (Nat.le_of_ble_eq_true rfl) rfl rfl (Nat.le_of_ble_eq_true rfl) d_Mo_label_38 [0, 1, 2, 3, 4, 5, 6, 7] [] rfl (by decide) rfl (by decide) (by decide) (fun _ _ => ?_)
    refine g_cells (ws' := [(mo, .inr (7, [.int (nI 0), .int (nI n), .ref m1, .ref m2, .ref m3, .ref m4, .ref m5, .ref m6, .int (bI true), .int (bI lg), .int (bI true), .int (nI ld), .int (pI (k + 1)), .ref m7, .int (nI (qG kn T U n HI gr)), .int (nI mv), .ref m8, .ref m9, .ref m10, .ref m11, .ref m12, .ref m13, .int (nI la), .ref m14, .ref m15])), (m1, .inl (E 0, 12, .inl (aN T))), (m2, .inl (E 0, 12, .inl (aN U))), (m3, .inl (E 0, 4096, .inl (aN (qH kn T n HI)))), (m4, .inl (E 2, 4096, .inl (aN (qK kn T U n HI KD HE AV)))), (m5, .inl (E 3, 4096, .inl (aB (qE kn T U n HI HE)))), (m6, .inl (E 3, 4096, .inl (aB (qA kn T U n HI HE AV)))), (m7, .inl (E 0, 12, .inl (aN (qR kn T U n HI MR))))]) [0, 1, 2, 3, 4, 5, 6, 7] (by decide) rfl ?_
    refine g_aload_n C d_Mo_label_41 rfl 0 rfl ?_
    refine g_get C lay_Mo 0 rfl rfl 12 (by decide) m_646 rfl d_Mo_label_42 ?_
    refine g_top (show pI (k + 1) = nI k from pI_s k) ?_
    refine g_iload_n C d_Mo_label_45 rfl 1 rfl ?_
    refine g_ishrN C (show k < 2 ^ 31 by have := p12_le hn; omega) (by omega) d_Mo_label_46 ?_
    refine g_iconst (v := nI 1) C d_Mo_label_47 (by decide) ?_
    refine g_iandB C d_Mo_label_48 ?_
    refine g_iconst (v := nI 1) C d_Mo_label_49 (by decide) ?_
    refine g_top (show nI 1 = bI true from rfl) ?_
    refine g_icmp_neB (tgt := 57) C d_Mo_label_50 (by decide) (fun b3 => ?_) (fun b3 => ?_)
    · skip
      refine g_aload_n C d_Mo_label_57 rfl 0 rfl ?_
      refine g_get C lay_Mo 0 rfl rfl 4 (by decide) m_638 rfl d_Mo_label_58 ?_
      refine g_aload_n C d_Mo_label_61 rfl 0 rfl ?_
      refine g_get C lay_Mo 0 rfl rfl 12 (by decide) m_646 rfl d_Mo_label_62 ?_
      refine g_top (show pI (k + 1) = nI k from pI_s k) ?_
      refine g_ialdN C 3 rfl (by have := p12_le hn; omega) (by decide) d_Mo_label_65 ?_
      refine g_top (show (aN (qH kn T n HI)) k = nI ((qH kn T n HI) k) from rfl) ?_
      refine g_iload_n C d_Mo_label_66 rfl 1 rfl ?_
      refine g_ishrN C (lt4 (qH_b hT hHI _)) (by omega) d_Mo_label_67 ?_
      refine g_iconst (v := nI 1) C d_Mo_label_68 (by decide) ?_
      refine g_iandB C d_Mo_label_69 ?_
      refine g_iconst (v := nI 1) C d_Mo_label_70 (by decide) ?_
      refine g_top (show nI 1 = bI true from rfl) ?_
      refine g_icmp_neB (tgt := 78) C d_Mo_label_71 (by decide) (fun b4 => ?_) (fun b4 => ?_)
      · skip
        refine g_iconst (v := nI 2) C d_Mo_label_78 (by decide) ?_
        exact g_iret C hrt hlk () (congrArg nI (by first | (rw [if_pos b3]; done) | (rw [if_neg b3, if_pos b4]; done) | (rw [if_neg b3, if_neg b4]; done))) rfl d_Mo_label_79
      · skip
        refine g_iconst (v := nI 0) C d_Mo_label_74 (by decide) ?_
        refine g_goto (tgt := 79) C d_Mo_label_75 (by decide) ?_
        exact g_iret C hrt hlk () (congrArg nI (by first | (rw [if_pos b3]; done) | (rw [if_neg b3, if_pos b4]; done) | (rw [if_neg b3, if_neg b4]; done))) rfl d_Mo_label_79
    · skip
      refine g_iconst (v := nI 1) C d_Mo_label_53 (by decide) ?_
      refine g_goto (tgt := 79) C d_Mo_label_54 (by decide) ?_
      exact g_iret C hrt hlk () (congrArg nI (by first | (rw [if_pos b3]; done) | (rw [if_neg b3, if_pos b4]; done) | (rw [if_neg b3, if_neg b4]; done))) rfl d_Mo_label_79
  · skip
    rw [inR_nI (by omega) (by omega)] at b0; simp at b0; omega

set_option maxHeartbeats 4000000 in
set_option maxRecDepth 100000 in
theorem o_nextNo (l : Launch) (D : va_G) (E : Nat → ClassId) (mo : Nat) (m1 : Nat) (m2 : Nat) (m3 : Nat) (m4 : Nat) (m5 : Nat) (m6 : Nat) (m7 : Nat) (m8 : Nat) (m9 : Nat) (m10 : Nat) (m11 : Nat) (m12 : Nat) (m13 : Nat) (m14 : Nat) (m15 : Nat) (th : Nat) (n : Nat) (kn : Bool) (td : Bool) (ld : Nat) (lt : Nat) (gr : Nat) (mv : Nat) (la : Nat) (T : Nat → Nat) (U : Nat → Nat) (HI : Nat → Nat) (KD : Nat → Nat) (HE : Nat → Bool) (AV : Nat → Bool) (MR : Nat → Nat)  : MI l D E y_Mo_next (.code y_Mo_next k_Mo_next 2 (some .int)) ({ frames := 0, cells := 0, slots := 0, locals := 0 } : Room) [.ref mo] [(mo, .inr (7, [.int (nI th), .int (nI n), .ref m1, .ref m2, .ref m3, .ref m4, .ref m5, .ref m6, .int (bI kn), .int (bI false), .int (bI td), .int (nI ld), .int (pI lt), .ref m7, .int (nI gr), .int (nI mv), .ref m8, .ref m9, .ref m10, .ref m11, .ref m12, .ref m13, .int (nI la), .ref m14, .ref m15])), (m1, .inl (E 0, 12, .inl (aN T))), (m2, .inl (E 0, 12, .inl (aN U))), (m3, .inl (E 0, 4096, .inl (aN HI))), (m4, .inl (E 2, 4096, .inl (aN KD))), (m5, .inl (E 3, 4096, .inl (aB HE))), (m6, .inl (E 3, 4096, .inl (aB AV))), (m7, .inl (E 0, 12, .inl (aN MR)))] (fun (r : Int32) (_ : Unit) => r = nI 0) (fun _ : Unit => [(mo, .inr (7, [.int (nI 1), .int (nI n), .ref m1, .ref m2, .ref m3, .ref m4, .ref m5, .ref m6, .int (bI kn), .int (bI false), .int (bI td), .int (nI ld), .int (pI lt), .ref m7, .int (nI gr), .int (nI mv), .ref m8, .ref m9, .ref m10, .ref m11, .ref m12, .ref m13, .int (nI la), .ref m14, .ref m15])), (m1, .inl (E 0, 12, .inl (aN T))), (m2, .inl (E 0, 12, .inl (aN U))), (m3, .inl (E 0, 4096, .inl (aN HI))), (m4, .inl (E 2, 4096, .inl (aN KD))), (m5, .inl (E 3, 4096, .inl (aB HE))), (m6, .inl (E 3, 4096, .inl (aB AV))), (m7, .inl (E 0, 12, .inl (aN MR)))]) := by
  refine MI.of (by decide) (Nat.le_of_ble_eq_true rfl) ?_
  intro p e s m args below meth c A C hrt hlk hnm
  refine g_lv (lv' := [(0, .ref mo)]) rfl ?_
  refine g_aload_n C d_Mo_next_0 rfl 0 rfl ?_
  refine g_aload_n C d_Mo_next_1 rfl 0 rfl ?_
  refine g_get C lay_Mo 0 rfl rfl 9 (by decide) m_643 rfl d_Mo_next_2 ?_
  refine g_if_eqB (tgt := 12) C d_Mo_next_5 (by decide) (fun _ => ?_) (fun h => absurd h (by decide))
  refine g_iconst (v := nI 1) C d_Mo_next_12 (by decide) ?_
  refine g_put (ws' := [(mo, .inr (7, [.int (nI 1), .int (nI n), .ref m1, .ref m2, .ref m3, .ref m4, .ref m5, .ref m6, .int (bI kn), .int (bI false), .int (bI td), .int (nI ld), .int (pI lt), .ref m7, .int (nI gr), .int (nI mv), .ref m8, .ref m9, .ref m10, .ref m11, .ref m12, .ref m13, .int (nI la), .ref m14, .ref m15])), (m1, .inl (E 0, 12, .inl (aN T))), (m2, .inl (E 0, 12, .inl (aN U))), (m3, .inl (E 0, 4096, .inl (aN HI))), (m4, .inl (E 2, 4096, .inl (aN KD))), (m5, .inl (E 3, 4096, .inl (aB HE))), (m6, .inl (E 3, 4096, .inl (aB AV))), (m7, .inl (E 0, 12, .inl (aN MR)))]) C lay_Mo ty_Mo nm_Mo 0 rfl rfl 0 (by decide) m_634 rfl rfl rfl (Nat.le_of_ble_eq_true rfl) rfl d_Mo_next_13 ?_
  refine g_aload_n C d_Mo_next_16 rfl 0 rfl ?_
  refine g_get C lay_Mo 0 rfl rfl 0 (by decide) m_634 rfl d_Mo_next_17 ?_
  refine g_if_leN (tgt := 25) C (by decide) d_Mo_next_20 (by decide) (fun h => absurd h (by decide)) (fun _ => ?_)
  refine g_iconst (v := nI 0) C d_Mo_next_23 (by decide) ?_
  exact g_iret C hrt hlk () (rfl) rfl d_Mo_next_24

set_option maxHeartbeats 4000000 in
set_option maxRecDepth 100000 in
theorem o_next (l : Launch) (D : va_G) (E : Nat → ClassId) (mo : Nat) (m1 : Nat) (m2 : Nat) (m3 : Nat) (m4 : Nat) (m5 : Nat) (m6 : Nat) (m7 : Nat) (m8 : Nat) (m9 : Nat) (m10 : Nat) (m11 : Nat) (m12 : Nat) (m13 : Nat) (m14 : Nat) (m15 : Nat) (th : Nat) (n : Nat) (kn : Bool) (td : Bool) (ld : Nat) (lt : Nat) (gr : Nat) (mv : Nat) (la : Nat) (T : Nat → Nat) (U : Nat → Nat) (HI : Nat → Nat) (KD : Nat → Nat) (HE : Nat → Bool) (AV : Nat → Bool) (MR : Nat → Nat) (hn : n ≤ 12) (hT : ∀ a, T a < 4096) (hU : ∀ a, U a < 4096) (hHI : ∀ a, HI a < 4096) (hKD : ∀ x, KD x < 32) (hld : ld < 5) (hlt : lt ≤ 4096) : MI l D E y_Mo_next (.code y_Mo_next k_Mo_next 2 (some .int)) ({ frames := 4, cells := 0, slots := 0, locals := 91 } : Room) [.ref mo] [(mo, .inr (7, [.int (nI th), .int (nI n), .ref m1, .ref m2, .ref m3, .ref m4, .ref m5, .ref m6, .int (bI kn), .int (bI true), .int (bI td), .int (nI ld), .int (pI lt), .ref m7, .int (nI gr), .int (nI mv), .ref m8, .ref m9, .ref m10, .ref m11, .ref m12, .ref m13, .int (nI la), .ref m14, .ref m15])), (m1, .inl (E 0, 12, .inl (aN T))), (m2, .inl (E 0, 12, .inl (aN U))), (m3, .inl (E 0, 4096, .inl (aN HI))), (m4, .inl (E 2, 4096, .inl (aN KD))), (m5, .inl (E 3, 4096, .inl (aB HE))), (m6, .inl (E 3, 4096, .inl (aB AV))), (m7, .inl (E 0, 12, .inl (aN MR)))] (fun (r : Int32) (u : Bool × (Nat → Nat) × (Nat → Nat) × (Nat → Bool) × (Nat → Bool) × (Nat → Nat) × Nat) => match u with | (kn1, H1, K1, E1, A1, R1, g1) => (r = oI (fstM (qK kn T U n HI KD HE AV) ld (2 ^ n - lt) lt)) ∧ (RKs 0 kn T U n HI KD HE AV MR gr kn1 H1 K1 E1 A1 R1 g1)) (fun (u : Bool × (Nat → Nat) × (Nat → Nat) × (Nat → Bool) × (Nat → Bool) × (Nat → Nat) × Nat) => match u with | (kn1, H1, K1, E1, A1, R1, g1) => [(mo, .inr (7, [.int (nI 0), .int (nI n), .ref m1, .ref m2, .ref m3, .ref m4, .ref m5, .ref m6, .int (bI kn1), .int (bI ((fstM (qK kn T U n HI KD HE AV) ld (2 ^ n - lt) lt).isSome)), .int (bI ((fstM (qK kn T U n HI KD HE AV) ld (2 ^ n - lt) lt).isSome)), .int (nI ld), .int (pI (oP (fstM (qK kn T U n HI KD HE AV) ld (2 ^ n - lt) lt) lt)), .ref m7, .int (nI g1), .int (nI mv), .ref m8, .ref m9, .ref m10, .ref m11, .ref m12, .ref m13, .int (nI la), .ref m14, .ref m15])), (m1, .inl (E 0, 12, .inl (aN T))), (m2, .inl (E 0, 12, .inl (aN U))), (m3, .inl (E 0, 4096, .inl (aN H1))), (m4, .inl (E 2, 4096, .inl (aN K1))), (m5, .inl (E 3, 4096, .inl (aB E1))), (m6, .inl (E 3, 4096, .inl (aB A1))), (m7, .inl (E 0, 12, .inl (aN R1)))]) := by
  refine MI.of (by decide) (Nat.le_of_ble_eq_true rfl) ?_
  intro p e s m args below meth c A C hrt hlk hnm
  refine g_lv (lv' := [(0, .ref mo)]) rfl ?_
  refine g_aload_n C d_Mo_next_0 rfl 0 rfl ?_
  refine g_aload_n C d_Mo_next_1 rfl 0 rfl ?_
  refine g_get C lay_Mo 0 rfl rfl 9 (by decide) m_643 rfl d_Mo_next_2 ?_
  refine g_if_eqB (tgt := 12) C d_Mo_next_5 (by decide) (fun h => absurd h (by decide)) (fun _ => ?_)
  refine g_iconst (v := nI 0) C d_Mo_next_8 (by decide) ?_
  refine g_goto (tgt := 13) C d_Mo_next_9 (by decide) ?_
  refine g_put (ws' := [(mo, .inr (7, [.int (nI 0), .int (nI n), .ref m1, .ref m2, .ref m3, .ref m4, .ref m5, .ref m6, .int (bI kn), .int (bI true), .int (bI td), .int (nI ld), .int (pI lt), .ref m7, .int (nI gr), .int (nI mv), .ref m8, .ref m9, .ref m10, .ref m11, .ref m12, .ref m13, .int (nI la), .ref m14, .ref m15])), (m1, .inl (E 0, 12, .inl (aN T))), (m2, .inl (E 0, 12, .inl (aN U))), (m3, .inl (E 0, 4096, .inl (aN HI))), (m4, .inl (E 2, 4096, .inl (aN KD))), (m5, .inl (E 3, 4096, .inl (aB HE))), (m6, .inl (E 3, 4096, .inl (aB AV))), (m7, .inl (E 0, 12, .inl (aN MR)))]) C lay_Mo ty_Mo nm_Mo 0 rfl rfl 0 (by decide) m_634 rfl rfl rfl (Nat.le_of_ble_eq_true rfl) rfl d_Mo_next_13 ?_
  refine g_aload_n C d_Mo_next_16 rfl 0 rfl ?_
  refine g_get C lay_Mo 0 rfl rfl 0 (by decide) m_634 rfl d_Mo_next_17 ?_
  refine g_if_leN (tgt := 25) C (by decide) d_Mo_next_20 (by decide) (fun _ => ?_) (fun h => absurd h (by decide))
  refine g_aload_n C d_Mo_next_25 rfl 0 rfl ?_
  refine g_get C lay_Mo 0 rfl rfl 12 (by decide) m_646 rfl d_Mo_next_26 ?_
  refine g_iconst (v := nI 1) C d_Mo_next_29 (by decide) ?_
  refine g_iadd C d_Mo_next_30 ?_
  refine g_top (pI_add _) ?_
  refine g_istore_n (lv' := [(1, .int (nI lt)), (0, .ref mo)]) C d_Mo_next_31 rfl (by decide) rfl ?_
  have loop32 : ∀ (f : Nat) (i : Nat) (kn1 : Bool) (H1 : Nat → Nat) (K1 : Nat → Nat) (E1 : Nat → Bool) (A1 : Nat → Bool) (R1 : Nat → Nat) (g1 : Nat), (lt ≤ i ∧ i ≤ 4096) → (RKs (i - lt) kn T U n HI KD HE AV MR gr kn1 H1 K1 E1 A1 R1 g1) → (fstM (qK kn T U n HI KD HE AV) ld (2 ^ n - i) i = fstM (qK kn T U n HI KD HE AV) ld (2 ^ n - lt) lt) → 4097 - i < f → GG p l e ({ frames := 4, cells := 0, slots := 0, locals := 91 } : Room) s m args below meth c (MQ below (va_Qi (fun (r : Int32) (u : Bool × (Nat → Nat) × (Nat → Nat) × (Nat → Bool) × (Nat → Bool) × (Nat → Nat) × Nat) => match u with | (kn1, H1, K1, E1, A1, R1, g1) => (r = oI (fstM (qK kn T U n HI KD HE AV) ld (2 ^ n - lt) lt)) ∧ (RKs 0 kn T U n HI KD HE AV MR gr kn1 H1 K1 E1 A1 R1 g1)) (BC D A (fun (u : Bool × (Nat → Nat) × (Nat → Nat) × (Nat → Bool) × (Nat → Bool) × (Nat → Nat) × Nat) => match u with | (kn1, H1, K1, E1, A1, R1, g1) => [(mo, .inr (7, [.int (nI 0), .int (nI n), .ref m1, .ref m2, .ref m3, .ref m4, .ref m5, .ref m6, .int (bI kn1), .int (bI ((fstM (qK kn T U n HI KD HE AV) ld (2 ^ n - lt) lt).isSome)), .int (bI ((fstM (qK kn T U n HI KD HE AV) ld (2 ^ n - lt) lt).isSome)), .int (nI ld), .int (pI (oP (fstM (qK kn T U n HI KD HE AV) ld (2 ^ n - lt) lt) lt)), .ref m7, .int (nI g1), .int (nI mv), .ref m8, .ref m9, .ref m10, .ref m11, .ref m12, .ref m13, .int (nI la), .ref m14, .ref m15])), (m1, .inl (E 0, 12, .inl (aN T))), (m2, .inl (E 0, 12, .inl (aN U))), (m3, .inl (E 0, 4096, .inl (aN H1))), (m4, .inl (E 2, 4096, .inl (aN K1))), (m5, .inl (E 3, 4096, .inl (aB E1))), (m6, .inl (E 3, 4096, .inl (aB A1))), (m7, .inl (E 0, 12, .inl (aN R1)))])) A) args s (({ frames := 4, cells := 0, slots := 0, locals := 91 } : Room)).cells (({ frames := 4, cells := 0, slots := 0, locals := 91 } : Room)).slots A) D A 2 0 0 32 [(0, .ref mo), (1, .int (nI i))] [] [(mo, .inr (7, [.int (nI 0), .int (nI n), .ref m1, .ref m2, .ref m3, .ref m4, .ref m5, .ref m6, .int (bI kn1), .int (bI true), .int (bI td), .int (nI ld), .int (pI lt), .ref m7, .int (nI g1), .int (nI mv), .ref m8, .ref m9, .ref m10, .ref m11, .ref m12, .ref m13, .int (nI la), .ref m14, .ref m15])), (m1, .inl (E 0, 12, .inl (aN T))), (m2, .inl (E 0, 12, .inl (aN U))), (m3, .inl (E 0, 4096, .inl (aN H1))), (m4, .inl (E 2, 4096, .inl (aN K1))), (m5, .inl (E 3, 4096, .inl (aB E1))), (m6, .inl (E 3, 4096, .inl (aB A1))), (m7, .inl (E 0, 12, .inl (aN R1)))] := by
    intro f
    induction f with
    | zero => intro i kn1 H1 K1 E1 A1 R1 g1 hi hS hF hf; exact absurd hf (Nat.not_lt_zero _)
    | succ f ih =>
      intro i kn1 H1 K1 E1 A1 R1 g1 hi hS hF hf
      have ih32 := ih
      refine g_iload_n C d_Mo_next_32 rfl 1 rfl ?_
      refine g_iconst (v := nI 1) C d_Mo_next_33 (by decide) ?_
      refine g_aload_n C d_Mo_next_34 rfl 0 rfl ?_
      refine g_get C lay_Mo 0 rfl rfl 1 (by decide) m_635 rfl d_Mo_next_35 ?_
      refine g_ishl1N C (by omega) d_Mo_next_38 ?_
      refine g_icmp_geN (tgt := 72) C (by omega) (pow_lt (by omega)) d_Mo_next_39 (by decide) (fun b2 => ?_) (fun b2 => ?_)
      · skip
        refine g_aload_n C d_Mo_next_72 rfl 0 rfl ?_
        refine g_iconst (v := nI 0) C d_Mo_next_73 (by decide) ?_
        refine g_top (show nI 0 = bI false from rfl) ?_
        refine g_put (ws' := [(mo, .inr (7, [.int (nI 0), .int (nI n), .ref m1, .ref m2, .ref m3, .ref m4, .ref m5, .ref m6, .int (bI kn1), .int (bI false), .int (bI td), .int (nI ld), .int (pI lt), .ref m7, .int (nI g1), .int (nI mv), .ref m8, .ref m9, .ref m10, .ref m11, .ref m12, .ref m13, .int (nI la), .ref m14, .ref m15])), (m1, .inl (E 0, 12, .inl (aN T))), (m2, .inl (E 0, 12, .inl (aN U))), (m3, .inl (E 0, 4096, .inl (aN H1))), (m4, .inl (E 2, 4096, .inl (aN K1))), (m5, .inl (E 3, 4096, .inl (aB E1))), (m6, .inl (E 3, 4096, .inl (aB A1))), (m7, .inl (E 0, 12, .inl (aN R1)))]) C lay_Mo ty_Mo nm_Mo 0 rfl rfl 9 (by decide) m_643 rfl (bI_nar _) (bI_fit _) (Nat.le_of_ble_eq_true rfl) rfl d_Mo_next_74 ?_
        refine g_aload_n C d_Mo_next_77 rfl 0 rfl ?_
        refine g_iconst (v := nI 0) C d_Mo_next_78 (by decide) ?_
        refine g_top (show nI 0 = bI false from rfl) ?_
        refine g_put (ws' := [(mo, .inr (7, [.int (nI 0), .int (nI n), .ref m1, .ref m2, .ref m3, .ref m4, .ref m5, .ref m6, .int (bI kn1), .int (bI false), .int (bI false), .int (nI ld), .int (pI lt), .ref m7, .int (nI g1), .int (nI mv), .ref m8, .ref m9, .ref m10, .ref m11, .ref m12, .ref m13, .int (nI la), .ref m14, .ref m15])), (m1, .inl (E 0, 12, .inl (aN T))), (m2, .inl (E 0, 12, .inl (aN U))), (m3, .inl (E 0, 4096, .inl (aN H1))), (m4, .inl (E 2, 4096, .inl (aN K1))), (m5, .inl (E 3, 4096, .inl (aB E1))), (m6, .inl (E 3, 4096, .inl (aB A1))), (m7, .inl (E 0, 12, .inl (aN R1)))]) C lay_Mo ty_Mo nm_Mo 0 rfl rfl 10 (by decide) m_644 rfl (bI_nar _) (bI_fit _) (Nat.le_of_ble_eq_true rfl) rfl d_Mo_next_79 ?_
        refine g_iconst (v := (-1)) C d_Mo_next_82 (by decide) ?_
        exact g_iret C hrt hlk (kn1, H1, K1, E1, A1, R1, g1) (⟨by rw [fs2_e hF b2]; rfl, hS.w⟩) (by rw [fs2_e hF b2]; rfl) d_Mo_next_83
      · skip
        refine g_aload_n C d_Mo_next_42 rfl 0 rfl ?_
        refine g_aload_n C d_Mo_next_43 rfl 0 rfl ?_
        refine g_get C lay_Mo 0 rfl rfl 11 (by decide) m_645 rfl d_Mo_next_44 ?_
        refine g_iload_n C d_Mo_next_47 rfl 1 rfl ?_
        refine g_iV (rest := []) (wr := []) C (o_isOf l D E mo m1 m2 m3 m4 m5 m6 m7 m8 m9 m10 m11 m12 m13 m14 m15 0 n kn1 true td ld lt g1 mv la T U H1 K1 E1 A1 R1 ld i hn hT hU (hS.hb hT hHI) (hS.kb hKD) hld (by have := p12_le hn; omega)) rd_Mo_isOf m_794 m_796 m_31 rfl rfl (Nat.le_of_ble_eq_true rfl) (Nat.le_of_ble_eq_true rfl) (Nat.le_of_ble_eq_true rfl) (Nat.le_of_ble_eq_true rfl) rfl rfl (Nat.le_of_ble_eq_true rfl) d_Mo_next_48 [0, 1, 2, 3, 4, 5, 6, 7] [] rfl (by decide) rfl (by decide) (by decide) (fun r48 _ (hr48 : r48 = bI ((qK kn1 T U n H1 K1 E1 A1 i).testBit ld)) => ?_)
        subst hr48
        refine g_cells (ws' := [(mo, .inr (7, [.int (nI 0), .int (nI n), .ref m1, .ref m2, .ref m3, .ref m4, .ref m5, .ref m6, .int (bI true), .int (bI true), .int (bI td), .int (nI ld), .int (pI lt), .ref m7, .int (nI (qG kn1 T U n H1 g1)), .int (nI mv), .ref m8, .ref m9, .ref m10, .ref m11, .ref m12, .ref m13, .int (nI la), .ref m14, .ref m15])), (m1, .inl (E 0, 12, .inl (aN T))), (m2, .inl (E 0, 12, .inl (aN U))), (m3, .inl (E 0, 4096, .inl (aN (qH kn1 T n H1)))), (m4, .inl (E 2, 4096, .inl (aN (qK kn1 T U n H1 K1 E1 A1)))), (m5, .inl (E 3, 4096, .inl (aB (qE kn1 T U n H1 E1)))), (m6, .inl (E 3, 4096, .inl (aB (qA kn1 T U n H1 E1 A1)))), (m7, .inl (E 0, 12, .inl (aN (qR kn1 T U n H1 R1))))]) [0, 1, 2, 3, 4, 5, 6, 7] (by decide) rfl ?_
        refine g_top (show bI ((qK kn1 T U n H1 K1 E1 A1 i).testBit ld) = bI ((qK kn T U n HI KD HE AV i).testBit ld) from by rw [hS.canon.2.1]) ?_
        refine g_ws (ws' := [(mo, .inr (7, [.int (nI 0), .int (nI n), .ref m1, .ref m2, .ref m3, .ref m4, .ref m5, .ref m6, .int (bI true), .int (bI true), .int (bI td), .int (nI ld), .int (pI lt), .ref m7, .int (nI (qG kn T U n HI gr)), .int (nI mv), .ref m8, .ref m9, .ref m10, .ref m11, .ref m12, .ref m13, .int (nI la), .ref m14, .ref m15])), (m1, .inl (E 0, 12, .inl (aN T))), (m2, .inl (E 0, 12, .inl (aN U))), (m3, .inl (E 0, 4096, .inl (aN (qH kn T n HI)))), (m4, .inl (E 2, 4096, .inl (aN (qK kn T U n HI KD HE AV)))), (m5, .inl (E 3, 4096, .inl (aB (qE kn T U n HI HE)))), (m6, .inl (E 3, 4096, .inl (aB (qA kn T U n HI HE AV)))), (m7, .inl (E 0, 12, .inl (aN (qR kn T U n HI MR))))]) (by obtain ⟨e1, e2, e3, e4, e5, e6⟩ := hS.canon; rw [e1, e2, e3, e4, e5, e6]) ?_
        refine g_if_eqB (tgt := 66) C d_Mo_next_51 (by decide) (fun b3 => ?_) (fun b3 => ?_)
        · skip
          refine g_iinc (lv' := [(1, .int (nI (i + 1))), (0, .ref mo)]) C d_Mo_next_66 1 rfl (nI_1 _) (by decide) rfl ?_
          refine g_goto (tgt := 32) C d_Mo_next_69 (by decide) ?_
          refine g_perm [1, 0] rfl ?_
          exact ih32 (i + 1) true (qH kn T n HI) (qK kn T U n HI KD HE AV) (qE kn T U n HI HE) (qA kn T U n HI HE AV) (qR kn T U n HI MR) (qG kn T U n HI gr) (by have := p12_le hn; omega) (RKs_s) (fs2_n hF b2 b3) (by omega)
        · skip
          refine g_aload_n C d_Mo_next_54 rfl 0 rfl ?_
          refine g_iload_n C d_Mo_next_55 rfl 1 rfl ?_
          refine g_put (ws' := [(mo, .inr (7, [.int (nI 0), .int (nI n), .ref m1, .ref m2, .ref m3, .ref m4, .ref m5, .ref m6, .int (bI true), .int (bI true), .int (bI td), .int (nI ld), .int (nI i), .ref m7, .int (nI (qG kn T U n HI gr)), .int (nI mv), .ref m8, .ref m9, .ref m10, .ref m11, .ref m12, .ref m13, .int (nI la), .ref m14, .ref m15])), (m1, .inl (E 0, 12, .inl (aN T))), (m2, .inl (E 0, 12, .inl (aN U))), (m3, .inl (E 0, 4096, .inl (aN (qH kn T n HI)))), (m4, .inl (E 2, 4096, .inl (aN (qK kn T U n HI KD HE AV)))), (m5, .inl (E 3, 4096, .inl (aB (qE kn T U n HI HE)))), (m6, .inl (E 3, 4096, .inl (aB (qA kn T U n HI HE AV)))), (m7, .inl (E 0, 12, .inl (aN (qR kn T U n HI MR))))]) C lay_Mo ty_Mo nm_Mo 0 rfl rfl 12 (by decide) m_646 rfl rfl rfl (Nat.le_of_ble_eq_true rfl) rfl d_Mo_next_56 ?_
          refine g_aload_n C d_Mo_next_59 rfl 0 rfl ?_
          refine g_iconst (v := nI 1) C d_Mo_next_60 (by decide) ?_
          refine g_top (show nI 1 = bI true from rfl) ?_
          refine g_put (ws' := [(mo, .inr (7, [.int (nI 0), .int (nI n), .ref m1, .ref m2, .ref m3, .ref m4, .ref m5, .ref m6, .int (bI true), .int (bI true), .int (bI true), .int (nI ld), .int (nI i), .ref m7, .int (nI (qG kn T U n HI gr)), .int (nI mv), .ref m8, .ref m9, .ref m10, .ref m11, .ref m12, .ref m13, .int (nI la), .ref m14, .ref m15])), (m1, .inl (E 0, 12, .inl (aN T))), (m2, .inl (E 0, 12, .inl (aN U))), (m3, .inl (E 0, 4096, .inl (aN (qH kn T n HI)))), (m4, .inl (E 2, 4096, .inl (aN (qK kn T U n HI KD HE AV)))), (m5, .inl (E 3, 4096, .inl (aB (qE kn T U n HI HE)))), (m6, .inl (E 3, 4096, .inl (aB (qA kn T U n HI HE AV)))), (m7, .inl (E 0, 12, .inl (aN (qR kn T U n HI MR))))]) C lay_Mo ty_Mo nm_Mo 0 rfl rfl 10 (by decide) m_644 rfl (bI_nar _) (bI_fit _) (Nat.le_of_ble_eq_true rfl) rfl d_Mo_next_61 ?_
          refine g_iload_n C d_Mo_next_64 rfl 1 rfl ?_
          exact g_iret C hrt hlk (true, qH kn T n HI, qK kn T U n HI KD HE AV, qE kn T U n HI HE, qA kn T U n HI HE AV, qR kn T U n HI MR, qG kn T U n HI gr) (⟨by rw [fs2_y hF b2 b3]; rfl, RKs_s⟩) (by rw [fs2_y hF b2 b3]; simp only [oP, pI_s]; rfl) d_Mo_next_65
  refine g_perm [1, 0] rfl ?_
  exact loop32 (4097 - lt + 1) lt kn HI KD HE AV MR gr (by omega) (by rw [Nat.sub_self]; exact RKs_0) (rfl) (Nat.lt_succ_self _)

set_option maxHeartbeats 4000000 in
set_option maxRecDepth 100000 in
theorem o_countBad (l : Launch) (D : va_G) (E : Nat → ClassId) (mo : Nat) (m1 : Nat) (m2 : Nat) (m3 : Nat) (m4 : Nat) (m5 : Nat) (m6 : Nat) (m7 : Nat) (m8 : Nat) (m9 : Nat) (m10 : Nat) (m11 : Nat) (m12 : Nat) (m13 : Nat) (m14 : Nat) (m15 : Nat) (th : Nat) (n : Nat) (kn : Bool) (lg : Bool) (td : Bool) (ld : Nat) (lt : Nat) (gr : Nat) (mv : Nat) (la : Nat) (T : Nat → Nat) (U : Nat → Nat) (HI : Nat → Nat) (KD : Nat → Nat) (HE : Nat → Bool) (AV : Nat → Bool) (MR : Nat → Nat) (x : Int32) (hn : n ≤ 12) (hb : inR x 5 = false) : MI l D E y_Mo_count (.code y_Mo_count k_Mo_count 4 (some .int)) ({ frames := 1, cells := 0, slots := 0, locals := 20 } : Room) [.ref mo, .int x] [(mo, .inr (7, [.int (nI th), .int (nI n), .ref m1, .ref m2, .ref m3, .ref m4, .ref m5, .ref m6, .int (bI kn), .int (bI lg), .int (bI td), .int (nI ld), .int (pI lt), .ref m7, .int (nI gr), .int (nI mv), .ref m8, .ref m9, .ref m10, .ref m11, .ref m12, .ref m13, .int (nI la), .ref m14, .ref m15])), (m1, .inl (E 0, 12, .inl (aN T))), (m2, .inl (E 0, 12, .inl (aN U))), (m3, .inl (E 0, 4096, .inl (aN HI))), (m4, .inl (E 2, 4096, .inl (aN KD))), (m5, .inl (E 3, 4096, .inl (aB HE))), (m6, .inl (E 3, 4096, .inl (aB AV))), (m7, .inl (E 0, 12, .inl (aN MR)))] (fun (r : Int32) (_ : Unit) => r = nI 0) (fun _ : Unit => [(mo, .inr (7, [.int (nI 1), .int (nI n), .ref m1, .ref m2, .ref m3, .ref m4, .ref m5, .ref m6, .int (bI kn), .int (bI lg), .int (bI td), .int (nI ld), .int (pI lt), .ref m7, .int (nI gr), .int (nI mv), .ref m8, .ref m9, .ref m10, .ref m11, .ref m12, .ref m13, .int (nI la), .ref m14, .ref m15])), (m1, .inl (E 0, 12, .inl (aN T))), (m2, .inl (E 0, 12, .inl (aN U))), (m3, .inl (E 0, 4096, .inl (aN HI))), (m4, .inl (E 2, 4096, .inl (aN KD))), (m5, .inl (E 3, 4096, .inl (aB HE))), (m6, .inl (E 3, 4096, .inl (aB AV))), (m7, .inl (E 0, 12, .inl (aN MR)))]) := by
  refine MI.of (by decide) (Nat.le_of_ble_eq_true rfl) ?_
  intro p e s m args below meth c A C hrt hlk hnm
  refine g_lv (lv' := [(0, .ref mo), (1, .int x)]) rfl ?_
  refine g_aload_n C d_Mo_count_0 rfl 0 rfl ?_
  refine g_iload_n C d_Mo_count_1 rfl 1 rfl ?_
  refine g_iS (rest := [.ref mo]) (wr := [(mo, .inr (7, [.int (nI th), .int (nI n), .ref m1, .ref m2, .ref m3, .ref m4, .ref m5, .ref m6, .int (bI kn), .int (bI lg), .int (bI td), .int (nI ld), .int (pI lt), .ref m7, .int (nI gr), .int (nI mv), .ref m8, .ref m9, .ref m10, .ref m11, .ref m12, .ref m13, .int (nI la), .ref m14, .ref m15])), (m1, .inl (E 0, 12, .inl (aN T))), (m2, .inl (E 0, 12, .inl (aN U))), (m3, .inl (E 0, 4096, .inl (aN HI))), (m4, .inl (E 2, 4096, .inl (aN KD))), (m5, .inl (E 3, 4096, .inl (aB HE))), (m6, .inl (E 3, 4096, .inl (aB AV))), (m7, .inl (E 0, 12, .inl (aN MR)))]) C (o_isKind l D E x ) rd_Mo_isKind m_791 m_792 (Nat.le_of_ble_eq_true rfl) (Nat.le_of_ble_eq_true rfl) (Nat.le_of_ble_eq_true rfl) (Nat.le_of_ble_eq_true rfl) rfl rfl (Nat.le_of_ble_eq_true rfl) d_Mo_count_2 [] [0, 1, 2, 3, 4, 5, 6, 7] rfl (by decide) rfl (by decide) (by decide) (fun r2 _ (hr2 : r2 = bI (inR x 5)) => ?_)
  subst hr2
  refine g_cells (ws' := [(mo, .inr (7, [.int (nI th), .int (nI n), .ref m1, .ref m2, .ref m3, .ref m4, .ref m5, .ref m6, .int (bI kn), .int (bI lg), .int (bI td), .int (nI ld), .int (pI lt), .ref m7, .int (nI gr), .int (nI mv), .ref m8, .ref m9, .ref m10, .ref m11, .ref m12, .ref m13, .int (nI la), .ref m14, .ref m15])), (m1, .inl (E 0, 12, .inl (aN T))), (m2, .inl (E 0, 12, .inl (aN U))), (m3, .inl (E 0, 4096, .inl (aN HI))), (m4, .inl (E 2, 4096, .inl (aN KD))), (m5, .inl (E 3, 4096, .inl (aB HE))), (m6, .inl (E 3, 4096, .inl (aB AV))), (m7, .inl (E 0, 12, .inl (aN MR)))]) [0, 1, 2, 3, 4, 5, 6, 7] (by decide) rfl ?_
  refine g_if_eqB (tgt := 12) C d_Mo_count_5 (by decide) (fun b0 => ?_) (fun b0 => ?_)
  · skip
    refine g_iconst (v := nI 1) C d_Mo_count_12 (by decide) ?_
    refine g_put (ws' := [(mo, .inr (7, [.int (nI 1), .int (nI n), .ref m1, .ref m2, .ref m3, .ref m4, .ref m5, .ref m6, .int (bI kn), .int (bI lg), .int (bI td), .int (nI ld), .int (pI lt), .ref m7, .int (nI gr), .int (nI mv), .ref m8, .ref m9, .ref m10, .ref m11, .ref m12, .ref m13, .int (nI la), .ref m14, .ref m15])), (m1, .inl (E 0, 12, .inl (aN T))), (m2, .inl (E 0, 12, .inl (aN U))), (m3, .inl (E 0, 4096, .inl (aN HI))), (m4, .inl (E 2, 4096, .inl (aN KD))), (m5, .inl (E 3, 4096, .inl (aB HE))), (m6, .inl (E 3, 4096, .inl (aB AV))), (m7, .inl (E 0, 12, .inl (aN MR)))]) C lay_Mo ty_Mo nm_Mo 0 rfl rfl 0 (by decide) m_634 rfl rfl rfl (Nat.le_of_ble_eq_true rfl) rfl d_Mo_count_13 ?_
    refine g_iconst (v := nI 0) C d_Mo_count_16 (by decide) ?_
    refine g_istore_n (lv' := [(2, .int (nI 0)), (0, .ref mo), (1, .int x)]) C d_Mo_count_17 rfl (by decide) rfl ?_
    refine g_iconst (v := nI 0) C d_Mo_count_18 (by decide) ?_
    refine g_istore_n (lv' := [(3, .int (nI 0)), (2, .int (nI 0)), (0, .ref mo), (1, .int x)]) C d_Mo_count_19 rfl (by decide) rfl ?_
    have loop20 : ∀ (f : Nat) (i : Nat) (acc : Nat), (i = 0) → (acc = 0) → 1 < f → GG p l e ({ frames := 1, cells := 0, slots := 0, locals := 20 } : Room) s m args below meth c (MQ below (va_Qi (fun (r : Int32) (_ : Unit) => r = nI 0) (BC D A (fun _ : Unit => [(mo, .inr (7, [.int (nI 1), .int (nI n), .ref m1, .ref m2, .ref m3, .ref m4, .ref m5, .ref m6, .int (bI kn), .int (bI lg), .int (bI td), .int (nI ld), .int (pI lt), .ref m7, .int (nI gr), .int (nI mv), .ref m8, .ref m9, .ref m10, .ref m11, .ref m12, .ref m13, .int (nI la), .ref m14, .ref m15])), (m1, .inl (E 0, 12, .inl (aN T))), (m2, .inl (E 0, 12, .inl (aN U))), (m3, .inl (E 0, 4096, .inl (aN HI))), (m4, .inl (E 2, 4096, .inl (aN KD))), (m5, .inl (E 3, 4096, .inl (aB HE))), (m6, .inl (E 3, 4096, .inl (aB AV))), (m7, .inl (E 0, 12, .inl (aN MR)))])) A) args s (({ frames := 1, cells := 0, slots := 0, locals := 20 } : Room)).cells (({ frames := 1, cells := 0, slots := 0, locals := 20 } : Room)).slots A) D A 4 0 0 20 [(0, .ref mo), (1, .int x), (2, .int (nI acc)), (3, .int (nI i))] [] [(mo, .inr (7, [.int (nI 1), .int (nI n), .ref m1, .ref m2, .ref m3, .ref m4, .ref m5, .ref m6, .int (bI kn), .int (bI lg), .int (bI td), .int (nI ld), .int (pI lt), .ref m7, .int (nI gr), .int (nI mv), .ref m8, .ref m9, .ref m10, .ref m11, .ref m12, .ref m13, .int (nI la), .ref m14, .ref m15])), (m1, .inl (E 0, 12, .inl (aN T))), (m2, .inl (E 0, 12, .inl (aN U))), (m3, .inl (E 0, 4096, .inl (aN HI))), (m4, .inl (E 2, 4096, .inl (aN KD))), (m5, .inl (E 3, 4096, .inl (aB HE))), (m6, .inl (E 3, 4096, .inl (aB AV))), (m7, .inl (E 0, 12, .inl (aN MR)))] := by
      intro f
      induction f with
      | zero => intro i acc hi hc hf; exact absurd hf (Nat.not_lt_zero _)
      | succ f ih =>
        intro i acc hi hc hf
        have ih20 := ih
        refine g_iload_n C d_Mo_count_20 rfl 3 rfl ?_
        refine g_iconst (v := nI 1) C d_Mo_count_21 (by decide) ?_
        refine g_aload_n C d_Mo_count_22 rfl 0 rfl ?_
        refine g_get C lay_Mo 0 rfl rfl 1 (by decide) m_635 rfl d_Mo_count_23 ?_
        refine g_ishl1N C (by omega) d_Mo_count_26 ?_
        refine g_icmp_geN (tgt := 60) C (by omega) (pow_lt (by omega)) d_Mo_count_27 (by decide) (fun b1 => ?_) (fun b1 => ?_)
        · skip
          refine g_iload_n C d_Mo_count_60 rfl 2 rfl ?_
          exact g_iret C hrt hlk () (congrArg nI hc) rfl d_Mo_count_61
        · skip
          refine g_aload_n C d_Mo_count_30 rfl 0 rfl ?_
          refine g_get C lay_Mo 0 rfl rfl 0 (by decide) m_634 rfl d_Mo_count_31 ?_
          refine g_if_neN (tgt := 60) C (by decide) d_Mo_count_34 (by decide) (fun _ => ?_) (fun h => absurd h (by decide))
          refine g_iload_n C d_Mo_count_60 rfl 2 rfl ?_
          exact g_iret C hrt hlk () (congrArg nI hc) rfl d_Mo_count_61
    refine g_perm [2, 3, 1, 0] rfl ?_
    exact loop20 (1 + 1) 0 0 (rfl) (rfl) (Nat.lt_succ_self _)
  · skip
    rw [hb] at b0; cases b0

set_option maxHeartbeats 4000000 in
set_option maxRecDepth 100000 in
theorem o_count (l : Launch) (D : va_G) (E : Nat → ClassId) (mo : Nat) (m1 : Nat) (m2 : Nat) (m3 : Nat) (m4 : Nat) (m5 : Nat) (m6 : Nat) (m7 : Nat) (m8 : Nat) (m9 : Nat) (m10 : Nat) (m11 : Nat) (m12 : Nat) (m13 : Nat) (m14 : Nat) (m15 : Nat) (th : Nat) (n : Nat) (kn : Bool) (lg : Bool) (td : Bool) (ld : Nat) (lt : Nat) (gr : Nat) (mv : Nat) (la : Nat) (T : Nat → Nat) (U : Nat → Nat) (HI : Nat → Nat) (KD : Nat → Nat) (HE : Nat → Bool) (AV : Nat → Bool) (MR : Nat → Nat) (k : Nat) (hn : n ≤ 12) (hT : ∀ a, T a < 4096) (hU : ∀ a, U a < 4096) (hHI : ∀ a, HI a < 4096) (hKD : ∀ x, KD x < 32) (hk : k < 5) : MI l D E y_Mo_count (.code y_Mo_count k_Mo_count 4 (some .int)) ({ frames := 4, cells := 0, slots := 0, locals := 91 } : Room) [.ref mo, .int (nI k)] [(mo, .inr (7, [.int (nI th), .int (nI n), .ref m1, .ref m2, .ref m3, .ref m4, .ref m5, .ref m6, .int (bI kn), .int (bI lg), .int (bI td), .int (nI ld), .int (pI lt), .ref m7, .int (nI gr), .int (nI mv), .ref m8, .ref m9, .ref m10, .ref m11, .ref m12, .ref m13, .int (nI la), .ref m14, .ref m15])), (m1, .inl (E 0, 12, .inl (aN T))), (m2, .inl (E 0, 12, .inl (aN U))), (m3, .inl (E 0, 4096, .inl (aN HI))), (m4, .inl (E 2, 4096, .inl (aN KD))), (m5, .inl (E 3, 4096, .inl (aB HE))), (m6, .inl (E 3, 4096, .inl (aB AV))), (m7, .inl (E 0, 12, .inl (aN MR)))] (fun (r : Int32) (_ : Unit) => r = nI (cntM (qK kn T U n HI KD HE AV) k (2 ^ n))) (fun _ : Unit => [(mo, .inr (7, [.int (nI 0), .int (nI n), .ref m1, .ref m2, .ref m3, .ref m4, .ref m5, .ref m6, .int (bI true), .int (bI lg), .int (bI td), .int (nI ld), .int (pI lt), .ref m7, .int (nI (qG kn T U n HI gr)), .int (nI mv), .ref m8, .ref m9, .ref m10, .ref m11, .ref m12, .ref m13, .int (nI la), .ref m14, .ref m15])), (m1, .inl (E 0, 12, .inl (aN T))), (m2, .inl (E 0, 12, .inl (aN U))), (m3, .inl (E 0, 4096, .inl (aN (qH kn T n HI)))), (m4, .inl (E 2, 4096, .inl (aN (qK kn T U n HI KD HE AV)))), (m5, .inl (E 3, 4096, .inl (aB (qE kn T U n HI HE)))), (m6, .inl (E 3, 4096, .inl (aB (qA kn T U n HI HE AV)))), (m7, .inl (E 0, 12, .inl (aN (qR kn T U n HI MR))))]) := by
  refine MI.of (by decide) (Nat.le_of_ble_eq_true rfl) ?_
  intro p e s m args below meth c A C hrt hlk hnm
  refine g_lv (lv' := [(0, .ref mo), (1, .int (nI k))]) rfl ?_
  refine g_aload_n C d_Mo_count_0 rfl 0 rfl ?_
  refine g_iload_n C d_Mo_count_1 rfl 1 rfl ?_
  refine g_iS (rest := [.ref mo]) (wr := [(mo, .inr (7, [.int (nI th), .int (nI n), .ref m1, .ref m2, .ref m3, .ref m4, .ref m5, .ref m6, .int (bI kn), .int (bI lg), .int (bI td), .int (nI ld), .int (pI lt), .ref m7, .int (nI gr), .int (nI mv), .ref m8, .ref m9, .ref m10, .ref m11, .ref m12, .ref m13, .int (nI la), .ref m14, .ref m15])), (m1, .inl (E 0, 12, .inl (aN T))), (m2, .inl (E 0, 12, .inl (aN U))), (m3, .inl (E 0, 4096, .inl (aN HI))), (m4, .inl (E 2, 4096, .inl (aN KD))), (m5, .inl (E 3, 4096, .inl (aB HE))), (m6, .inl (E 3, 4096, .inl (aB AV))), (m7, .inl (E 0, 12, .inl (aN MR)))]) C (o_isKind l D E (nI k) ) rd_Mo_isKind m_791 m_792 (Nat.le_of_ble_eq_true rfl) (Nat.le_of_ble_eq_true rfl) (Nat.le_of_ble_eq_true rfl) (Nat.le_of_ble_eq_true rfl) rfl rfl (Nat.le_of_ble_eq_true rfl) d_Mo_count_2 [] [0, 1, 2, 3, 4, 5, 6, 7] rfl (by decide) rfl (by decide) (by decide) (fun r2 _ (hr2 : r2 = bI (inR (nI k) 5)) => ?_)
  subst hr2
  refine g_cells (ws' := [(mo, .inr (7, [.int (nI th), .int (nI n), .ref m1, .ref m2, .ref m3, .ref m4, .ref m5, .ref m6, .int (bI kn), .int (bI lg), .int (bI td), .int (nI ld), .int (pI lt), .ref m7, .int (nI gr), .int (nI mv), .ref m8, .ref m9, .ref m10, .ref m11, .ref m12, .ref m13, .int (nI la), .ref m14, .ref m15])), (m1, .inl (E 0, 12, .inl (aN T))), (m2, .inl (E 0, 12, .inl (aN U))), (m3, .inl (E 0, 4096, .inl (aN HI))), (m4, .inl (E 2, 4096, .inl (aN KD))), (m5, .inl (E 3, 4096, .inl (aB HE))), (m6, .inl (E 3, 4096, .inl (aB AV))), (m7, .inl (E 0, 12, .inl (aN MR)))]) [0, 1, 2, 3, 4, 5, 6, 7] (by decide) rfl ?_
  refine g_if_eqB (tgt := 12) C d_Mo_count_5 (by decide) (fun b0 => ?_) (fun b0 => ?_)
  · skip
    rw [inR_nI (by omega) (by decide)] at b0; simp at b0; omega
  · skip
    refine g_iconst (v := nI 0) C d_Mo_count_8 (by decide) ?_
    refine g_goto (tgt := 13) C d_Mo_count_9 (by decide) ?_
    refine g_put (ws' := [(mo, .inr (7, [.int (nI 0), .int (nI n), .ref m1, .ref m2, .ref m3, .ref m4, .ref m5, .ref m6, .int (bI kn), .int (bI lg), .int (bI td), .int (nI ld), .int (pI lt), .ref m7, .int (nI gr), .int (nI mv), .ref m8, .ref m9, .ref m10, .ref m11, .ref m12, .ref m13, .int (nI la), .ref m14, .ref m15])), (m1, .inl (E 0, 12, .inl (aN T))), (m2, .inl (E 0, 12, .inl (aN U))), (m3, .inl (E 0, 4096, .inl (aN HI))), (m4, .inl (E 2, 4096, .inl (aN KD))), (m5, .inl (E 3, 4096, .inl (aB HE))), (m6, .inl (E 3, 4096, .inl (aB AV))), (m7, .inl (E 0, 12, .inl (aN MR)))]) C lay_Mo ty_Mo nm_Mo 0 rfl rfl 0 (by decide) m_634 rfl rfl rfl (Nat.le_of_ble_eq_true rfl) rfl d_Mo_count_13 ?_
    refine g_iconst (v := nI 0) C d_Mo_count_16 (by decide) ?_
    refine g_istore_n (lv' := [(2, .int (nI 0)), (0, .ref mo), (1, .int (nI k))]) C d_Mo_count_17 rfl (by decide) rfl ?_
    refine g_iconst (v := nI 0) C d_Mo_count_18 (by decide) ?_
    refine g_istore_n (lv' := [(3, .int (nI 0)), (2, .int (nI 0)), (0, .ref mo), (1, .int (nI k))]) C d_Mo_count_19 rfl (by decide) rfl ?_
    have loop20 : ∀ (f : Nat) (i : Nat) (acc : Nat) (kn1 : Bool) (H1 : Nat → Nat) (K1 : Nat → Nat) (E1 : Nat → Bool) (A1 : Nat → Bool) (R1 : Nat → Nat) (g1 : Nat), (i ≤ 2 ^ n) → (RKs i kn T U n HI KD HE AV MR gr kn1 H1 K1 E1 A1 R1 g1) → (acc = cntM (qK kn T U n HI KD HE AV) k i) → 2 ^ n - i < f → GG p l e ({ frames := 4, cells := 0, slots := 0, locals := 91 } : Room) s m args below meth c (MQ below (va_Qi (fun (r : Int32) (_ : Unit) => r = nI (cntM (qK kn T U n HI KD HE AV) k (2 ^ n))) (BC D A (fun _ : Unit => [(mo, .inr (7, [.int (nI 0), .int (nI n), .ref m1, .ref m2, .ref m3, .ref m4, .ref m5, .ref m6, .int (bI true), .int (bI lg), .int (bI td), .int (nI ld), .int (pI lt), .ref m7, .int (nI (qG kn T U n HI gr)), .int (nI mv), .ref m8, .ref m9, .ref m10, .ref m11, .ref m12, .ref m13, .int (nI la), .ref m14, .ref m15])), (m1, .inl (E 0, 12, .inl (aN T))), (m2, .inl (E 0, 12, .inl (aN U))), (m3, .inl (E 0, 4096, .inl (aN (qH kn T n HI)))), (m4, .inl (E 2, 4096, .inl (aN (qK kn T U n HI KD HE AV)))), (m5, .inl (E 3, 4096, .inl (aB (qE kn T U n HI HE)))), (m6, .inl (E 3, 4096, .inl (aB (qA kn T U n HI HE AV)))), (m7, .inl (E 0, 12, .inl (aN (qR kn T U n HI MR))))])) A) args s (({ frames := 4, cells := 0, slots := 0, locals := 91 } : Room)).cells (({ frames := 4, cells := 0, slots := 0, locals := 91 } : Room)).slots A) D A 4 0 0 20 [(0, .ref mo), (1, .int (nI k)), (2, .int (nI acc)), (3, .int (nI i))] [] [(mo, .inr (7, [.int (nI 0), .int (nI n), .ref m1, .ref m2, .ref m3, .ref m4, .ref m5, .ref m6, .int (bI kn1), .int (bI lg), .int (bI td), .int (nI ld), .int (pI lt), .ref m7, .int (nI g1), .int (nI mv), .ref m8, .ref m9, .ref m10, .ref m11, .ref m12, .ref m13, .int (nI la), .ref m14, .ref m15])), (m1, .inl (E 0, 12, .inl (aN T))), (m2, .inl (E 0, 12, .inl (aN U))), (m3, .inl (E 0, 4096, .inl (aN H1))), (m4, .inl (E 2, 4096, .inl (aN K1))), (m5, .inl (E 3, 4096, .inl (aB E1))), (m6, .inl (E 3, 4096, .inl (aB A1))), (m7, .inl (E 0, 12, .inl (aN R1)))] := by
      intro f
      induction f with
      | zero => intro i acc kn1 H1 K1 E1 A1 R1 g1 hi hS hc hf; exact absurd hf (Nat.not_lt_zero _)
      | succ f ih =>
        intro i acc kn1 H1 K1 E1 A1 R1 g1 hi hS hc hf
        have ih20 := ih
        refine g_iload_n C d_Mo_count_20 rfl 3 rfl ?_
        refine g_iconst (v := nI 1) C d_Mo_count_21 (by decide) ?_
        refine g_aload_n C d_Mo_count_22 rfl 0 rfl ?_
        refine g_get C lay_Mo 0 rfl rfl 1 (by decide) m_635 rfl d_Mo_count_23 ?_
        refine g_ishl1N C (by omega) d_Mo_count_26 ?_
        refine g_icmp_geN (tgt := 60) C (by have := p12_le hn; omega) (pow_lt (by omega)) d_Mo_count_27 (by decide) (fun b1 => ?_) (fun b1 => ?_)
        · skip
          refine g_ws (ws' := [(mo, .inr (7, [.int (nI 0), .int (nI n), .ref m1, .ref m2, .ref m3, .ref m4, .ref m5, .ref m6, .int (bI true), .int (bI lg), .int (bI td), .int (nI ld), .int (pI lt), .ref m7, .int (nI (qG kn T U n HI gr)), .int (nI mv), .ref m8, .ref m9, .ref m10, .ref m11, .ref m12, .ref m13, .int (nI la), .ref m14, .ref m15])), (m1, .inl (E 0, 12, .inl (aN T))), (m2, .inl (E 0, 12, .inl (aN U))), (m3, .inl (E 0, 4096, .inl (aN (qH kn T n HI)))), (m4, .inl (E 2, 4096, .inl (aN (qK kn T U n HI KD HE AV)))), (m5, .inl (E 3, 4096, .inl (aB (qE kn T U n HI HE)))), (m6, .inl (E 3, 4096, .inl (aB (qA kn T U n HI HE AV)))), (m7, .inl (E 0, 12, .inl (aN (qR kn T U n HI MR))))]) (by obtain ⟨e1, e2, e3, e4, e5, e6, e7⟩ := hS.end_ (by have := Nat.one_le_two_pow (n := n); omega); rw [e1, e2, e3, e4, e5, e6, e7]) ?_
          refine g_iload_n C d_Mo_count_60 rfl 2 rfl ?_
          exact g_iret C hrt hlk () (congrArg nI (by rw [hc, show i = 2 ^ n by omega])) rfl d_Mo_count_61
        · skip
          refine g_aload_n C d_Mo_count_30 rfl 0 rfl ?_
          refine g_get C lay_Mo 0 rfl rfl 0 (by decide) m_634 rfl d_Mo_count_31 ?_
          refine g_if_neN (tgt := 60) C (by decide) d_Mo_count_34 (by decide) (fun h => absurd h (by decide)) (fun _ => ?_)
          refine g_iload_n C d_Mo_count_37 rfl 2 rfl ?_
          refine g_aload_n C d_Mo_count_38 rfl 0 rfl ?_
          refine g_iload_n C d_Mo_count_39 rfl 1 rfl ?_
          refine g_iload_n C d_Mo_count_40 rfl 3 rfl ?_
          refine g_iV (rest := [.int (nI acc)]) (wr := []) C (o_isOf l D E mo m1 m2 m3 m4 m5 m6 m7 m8 m9 m10 m11 m12 m13 m14 m15 0 n kn1 lg td ld lt g1 mv la T U H1 K1 E1 A1 R1 k i hn hT hU (hS.hb hT hHI) (hS.kb hKD) hk (by have := p12_le hn; omega)) rd_Mo_isOf m_794 m_796 m_31 rfl rfl (Nat.le_of_ble_eq_true rfl) (Nat.le_of_ble_eq_true rfl) (Nat.le_of_ble_eq_true rfl) (Nat.le_of_ble_eq_true rfl) rfl rfl (Nat.le_of_ble_eq_true rfl) d_Mo_count_41 [0, 1, 2, 3, 4, 5, 6, 7] [] rfl (by decide) rfl (by decide) (by decide) (fun r41 _ (hr41 : r41 = bI ((qK kn1 T U n H1 K1 E1 A1 i).testBit k)) => ?_)
          subst hr41
          refine g_cells (ws' := [(mo, .inr (7, [.int (nI 0), .int (nI n), .ref m1, .ref m2, .ref m3, .ref m4, .ref m5, .ref m6, .int (bI true), .int (bI lg), .int (bI td), .int (nI ld), .int (pI lt), .ref m7, .int (nI (qG kn1 T U n H1 g1)), .int (nI mv), .ref m8, .ref m9, .ref m10, .ref m11, .ref m12, .ref m13, .int (nI la), .ref m14, .ref m15])), (m1, .inl (E 0, 12, .inl (aN T))), (m2, .inl (E 0, 12, .inl (aN U))), (m3, .inl (E 0, 4096, .inl (aN (qH kn1 T n H1)))), (m4, .inl (E 2, 4096, .inl (aN (qK kn1 T U n H1 K1 E1 A1)))), (m5, .inl (E 3, 4096, .inl (aB (qE kn1 T U n H1 E1)))), (m6, .inl (E 3, 4096, .inl (aB (qA kn1 T U n H1 E1 A1)))), (m7, .inl (E 0, 12, .inl (aN (qR kn1 T U n H1 R1))))]) [0, 1, 2, 3, 4, 5, 6, 7] (by decide) rfl ?_
          refine g_top (show bI ((qK kn1 T U n H1 K1 E1 A1 i).testBit k) = bI ((qK kn T U n HI KD HE AV i).testBit k) from by rw [hS.canon.2.1]) ?_
          refine g_ws (ws' := [(mo, .inr (7, [.int (nI 0), .int (nI n), .ref m1, .ref m2, .ref m3, .ref m4, .ref m5, .ref m6, .int (bI true), .int (bI lg), .int (bI td), .int (nI ld), .int (pI lt), .ref m7, .int (nI (qG kn T U n HI gr)), .int (nI mv), .ref m8, .ref m9, .ref m10, .ref m11, .ref m12, .ref m13, .int (nI la), .ref m14, .ref m15])), (m1, .inl (E 0, 12, .inl (aN T))), (m2, .inl (E 0, 12, .inl (aN U))), (m3, .inl (E 0, 4096, .inl (aN (qH kn T n HI)))), (m4, .inl (E 2, 4096, .inl (aN (qK kn T U n HI KD HE AV)))), (m5, .inl (E 3, 4096, .inl (aB (qE kn T U n HI HE)))), (m6, .inl (E 3, 4096, .inl (aB (qA kn T U n HI HE AV)))), (m7, .inl (E 0, 12, .inl (aN (qR kn T U n HI MR))))]) (by obtain ⟨e1, e2, e3, e4, e5, e6⟩ := hS.canon; rw [e1, e2, e3, e4, e5, e6]) ?_
          refine g_if_eqB (tgt := 51) C d_Mo_count_44 (by decide) (fun b3 => ?_) (fun b3 => ?_)
          · skip
            refine g_iconst (v := nI 0) C d_Mo_count_51 (by decide) ?_
            refine g_iaddN C d_Mo_count_52 ?_
            refine g_istore_n (lv' := [(2, .int (nI (acc + 0))), (0, .ref mo), (1, .int (nI k)), (3, .int (nI i))]) C d_Mo_count_53 rfl (by decide) rfl ?_
            refine g_iinc (lv' := [(3, .int (nI (i + 1))), (2, .int (nI (acc + 0))), (0, .ref mo), (1, .int (nI k))]) C d_Mo_count_54 3 rfl (nI_1 _) (by decide) rfl ?_
            refine g_goto (tgt := 20) C d_Mo_count_57 (by decide) ?_
            refine g_perm [2, 3, 1, 0] rfl ?_
            exact ih20 (i + 1) (acc + 0) true (qH kn T n HI) (qK kn T U n HI KD HE AV) (qE kn T U n HI HE) (qA kn T U n HI HE AV) (qR kn T U n HI MR) (qG kn T U n HI gr) (by omega) (RKs_s) (by simp [cntM, b3, hc]) (by omega)
          · skip
            refine g_iconst (v := nI 1) C d_Mo_count_47 (by decide) ?_
            refine g_goto (tgt := 52) C d_Mo_count_48 (by decide) ?_
            refine g_iaddN C d_Mo_count_52 ?_
            refine g_istore_n (lv' := [(2, .int (nI (acc + 1))), (0, .ref mo), (1, .int (nI k)), (3, .int (nI i))]) C d_Mo_count_53 rfl (by decide) rfl ?_
            refine g_iinc (lv' := [(3, .int (nI (i + 1))), (2, .int (nI (acc + 1))), (0, .ref mo), (1, .int (nI k))]) C d_Mo_count_54 3 rfl (nI_1 _) (by decide) rfl ?_
            refine g_goto (tgt := 20) C d_Mo_count_57 (by decide) ?_
            refine g_perm [2, 3, 1, 0] rfl ?_
            exact ih20 (i + 1) (acc + 1) true (qH kn T n HI) (qK kn T U n HI KD HE AV) (qE kn T U n HI HE) (qA kn T U n HI HE AV) (qR kn T U n HI MR) (qG kn T U n HI gr) (by omega) (RKs_s) (by simp [cntM, b3, hc]) (by omega)
    refine g_perm [2, 3, 1, 0] rfl ?_
    exact loop20 (2 ^ n - 0 + 1) 0 0 kn HI KD HE AV MR gr (Nat.zero_le _) (RKs_0) (rfl) (Nat.lt_succ_self _)

set_option maxHeartbeats 4000000 in
set_option maxRecDepth 100000 in
theorem o_holdsBad (l : Launch) (D : va_G) (E : Nat → ClassId) (mo : Nat) (m1 : Nat) (m2 : Nat) (m3 : Nat) (m4 : Nat) (m5 : Nat) (m6 : Nat) (m7 : Nat) (m8 : Nat) (m9 : Nat) (m10 : Nat) (m11 : Nat) (m12 : Nat) (m13 : Nat) (m14 : Nat) (m15 : Nat) (th : Nat) (n : Nat) (kn : Bool) (lg : Bool) (td : Bool) (ld : Nat) (lt : Nat) (gr : Nat) (mv : Nat) (la : Nat) (T : Nat → Nat) (U : Nat → Nat) (HI : Nat → Nat) (KD : Nat → Nat) (HE : Nat → Bool) (AV : Nat → Bool) (MR : Nat → Nat) (x : Int32) (y : Int32) (all : Bool) (hn : n ≤ 12) (hb : (inR x 5 && inR y n) = false) : MI l D E y_Mo_holds (.code y_Mo_holds k_Mo_holds 7 (some .boolean)) ({ frames := 1, cells := 0, slots := 0, locals := 21 } : Room) [.ref mo, .int x, .int y, .int (bI all)] [(mo, .inr (7, [.int (nI th), .int (nI n), .ref m1, .ref m2, .ref m3, .ref m4, .ref m5, .ref m6, .int (bI kn), .int (bI lg), .int (bI td), .int (nI ld), .int (pI lt), .ref m7, .int (nI gr), .int (nI mv), .ref m8, .ref m9, .ref m10, .ref m11, .ref m12, .ref m13, .int (nI la), .ref m14, .ref m15])), (m1, .inl (E 0, 12, .inl (aN T))), (m2, .inl (E 0, 12, .inl (aN U))), (m3, .inl (E 0, 4096, .inl (aN HI))), (m4, .inl (E 2, 4096, .inl (aN KD))), (m5, .inl (E 3, 4096, .inl (aB HE))), (m6, .inl (E 3, 4096, .inl (aB AV))), (m7, .inl (E 0, 12, .inl (aN MR)))] (fun (r : Int32) (_ : Unit) => r = bI false) (fun _ : Unit => [(mo, .inr (7, [.int (nI 1), .int (nI n), .ref m1, .ref m2, .ref m3, .ref m4, .ref m5, .ref m6, .int (bI kn), .int (bI lg), .int (bI td), .int (nI ld), .int (pI lt), .ref m7, .int (nI gr), .int (nI mv), .ref m8, .ref m9, .ref m10, .ref m11, .ref m12, .ref m13, .int (nI la), .ref m14, .ref m15])), (m1, .inl (E 0, 12, .inl (aN T))), (m2, .inl (E 0, 12, .inl (aN U))), (m3, .inl (E 0, 4096, .inl (aN HI))), (m4, .inl (E 2, 4096, .inl (aN KD))), (m5, .inl (E 3, 4096, .inl (aB HE))), (m6, .inl (E 3, 4096, .inl (aB AV))), (m7, .inl (E 0, 12, .inl (aN MR)))]) := by
  refine MI.of (by decide) (Nat.le_of_ble_eq_true rfl) ?_
  intro p e s m args below meth c A C hrt hlk hnm
  refine g_lv (lv' := [(0, .ref mo), (1, .int x), (2, .int y), (3, .int (bI all))]) rfl ?_
  refine g_aload_n C d_Mo_holds_0 rfl 0 rfl ?_
  refine g_iload_n C d_Mo_holds_1 rfl 1 rfl ?_
  refine g_iS (rest := [.ref mo]) (wr := [(mo, .inr (7, [.int (nI th), .int (nI n), .ref m1, .ref m2, .ref m3, .ref m4, .ref m5, .ref m6, .int (bI kn), .int (bI lg), .int (bI td), .int (nI ld), .int (pI lt), .ref m7, .int (nI gr), .int (nI mv), .ref m8, .ref m9, .ref m10, .ref m11, .ref m12, .ref m13, .int (nI la), .ref m14, .ref m15])), (m1, .inl (E 0, 12, .inl (aN T))), (m2, .inl (E 0, 12, .inl (aN U))), (m3, .inl (E 0, 4096, .inl (aN HI))), (m4, .inl (E 2, 4096, .inl (aN KD))), (m5, .inl (E 3, 4096, .inl (aB HE))), (m6, .inl (E 3, 4096, .inl (aB AV))), (m7, .inl (E 0, 12, .inl (aN MR)))]) C (o_isKind l D E x ) rd_Mo_isKind m_791 m_792 (Nat.le_of_ble_eq_true rfl) (Nat.le_of_ble_eq_true rfl) (Nat.le_of_ble_eq_true rfl) (Nat.le_of_ble_eq_true rfl) rfl rfl (Nat.le_of_ble_eq_true rfl) d_Mo_holds_2 [] [0, 1, 2, 3, 4, 5, 6, 7] rfl (by decide) rfl (by decide) (by decide) (fun r2 _ (hr2 : r2 = bI (inR x 5)) => ?_)
  subst hr2
  refine g_cells (ws' := [(mo, .inr (7, [.int (nI th), .int (nI n), .ref m1, .ref m2, .ref m3, .ref m4, .ref m5, .ref m6, .int (bI kn), .int (bI lg), .int (bI td), .int (nI ld), .int (pI lt), .ref m7, .int (nI gr), .int (nI mv), .ref m8, .ref m9, .ref m10, .ref m11, .ref m12, .ref m13, .int (nI la), .ref m14, .ref m15])), (m1, .inl (E 0, 12, .inl (aN T))), (m2, .inl (E 0, 12, .inl (aN U))), (m3, .inl (E 0, 4096, .inl (aN HI))), (m4, .inl (E 2, 4096, .inl (aN KD))), (m5, .inl (E 3, 4096, .inl (aB HE))), (m6, .inl (E 3, 4096, .inl (aB AV))), (m7, .inl (E 0, 12, .inl (aN MR)))]) [0, 1, 2, 3, 4, 5, 6, 7] (by decide) rfl ?_
  refine g_if_eqB (tgt := 20) C d_Mo_holds_5 (by decide) (fun b0 => ?_) (fun b0 => ?_)
  · skip
    refine g_iconst (v := nI 1) C d_Mo_holds_20 (by decide) ?_
    refine g_put (ws' := [(mo, .inr (7, [.int (nI 1), .int (nI n), .ref m1, .ref m2, .ref m3, .ref m4, .ref m5, .ref m6, .int (bI kn), .int (bI lg), .int (bI td), .int (nI ld), .int (pI lt), .ref m7, .int (nI gr), .int (nI mv), .ref m8, .ref m9, .ref m10, .ref m11, .ref m12, .ref m13, .int (nI la), .ref m14, .ref m15])), (m1, .inl (E 0, 12, .inl (aN T))), (m2, .inl (E 0, 12, .inl (aN U))), (m3, .inl (E 0, 4096, .inl (aN HI))), (m4, .inl (E 2, 4096, .inl (aN KD))), (m5, .inl (E 3, 4096, .inl (aB HE))), (m6, .inl (E 3, 4096, .inl (aB AV))), (m7, .inl (E 0, 12, .inl (aN MR)))]) C lay_Mo ty_Mo nm_Mo 0 rfl rfl 0 (by decide) m_634 rfl rfl rfl (Nat.le_of_ble_eq_true rfl) rfl d_Mo_holds_21 ?_
    refine g_aload_n C d_Mo_holds_24 rfl 0 rfl ?_
    refine g_get C lay_Mo 0 rfl rfl 0 (by decide) m_634 rfl d_Mo_holds_25 ?_
    refine g_if_leN (tgt := 33) C (by decide) d_Mo_holds_28 (by decide) (fun h => absurd h (by decide)) (fun _ => ?_)
    refine g_iconst (v := nI 0) C d_Mo_holds_31 (by decide) ?_
    refine g_top (show nI 0 = bI false from rfl) ?_
    exact g_zret C hrt hlk () (rfl) rfl d_Mo_holds_32
  · skip
    refine g_aload_n C d_Mo_holds_8 rfl 0 rfl ?_
    refine g_iload_n C d_Mo_holds_9 rfl 2 rfl ?_
    refine g_iV (rest := [.ref mo]) (wr := [(m1, .inl (E 0, 12, .inl (aN T))), (m2, .inl (E 0, 12, .inl (aN U))), (m3, .inl (E 0, 4096, .inl (aN HI))), (m4, .inl (E 2, 4096, .inl (aN KD))), (m5, .inl (E 3, 4096, .inl (aB HE))), (m6, .inl (E 3, 4096, .inl (aB AV))), (m7, .inl (E 0, 12, .inl (aN MR)))]) C (o_isArgument l D E mo m1 m2 m3 m4 m5 m6 m7 m8 m9 m10 m11 m12 m13 m14 m15 th n kn lg td ld lt gr mv la y ) rd_Mo_isArgument m_731 m_733 m_22 rfl rfl (Nat.le_of_ble_eq_true rfl) (Nat.le_of_ble_eq_true rfl) (Nat.le_of_ble_eq_true rfl) (Nat.le_of_ble_eq_true rfl) rfl rfl (Nat.le_of_ble_eq_true rfl) d_Mo_holds_10 [0] [1, 2, 3, 4, 5, 6, 7] rfl (by decide) rfl (by decide) (by decide) (fun r10 _ (hr10 : r10 = bI (inR y n)) => ?_)
    subst hr10
    refine g_cells (ws' := [(mo, .inr (7, [.int (nI th), .int (nI n), .ref m1, .ref m2, .ref m3, .ref m4, .ref m5, .ref m6, .int (bI kn), .int (bI lg), .int (bI td), .int (nI ld), .int (pI lt), .ref m7, .int (nI gr), .int (nI mv), .ref m8, .ref m9, .ref m10, .ref m11, .ref m12, .ref m13, .int (nI la), .ref m14, .ref m15])), (m1, .inl (E 0, 12, .inl (aN T))), (m2, .inl (E 0, 12, .inl (aN U))), (m3, .inl (E 0, 4096, .inl (aN HI))), (m4, .inl (E 2, 4096, .inl (aN KD))), (m5, .inl (E 3, 4096, .inl (aB HE))), (m6, .inl (E 3, 4096, .inl (aB AV))), (m7, .inl (E 0, 12, .inl (aN MR)))]) [7, 0, 1, 2, 3, 4, 5, 6] (by decide) rfl ?_
    refine g_if_eqB (tgt := 20) C d_Mo_holds_13 (by decide) (fun b1 => ?_) (fun b1 => ?_)
    · skip
      refine g_iconst (v := nI 1) C d_Mo_holds_20 (by decide) ?_
      refine g_put (ws' := [(mo, .inr (7, [.int (nI 1), .int (nI n), .ref m1, .ref m2, .ref m3, .ref m4, .ref m5, .ref m6, .int (bI kn), .int (bI lg), .int (bI td), .int (nI ld), .int (pI lt), .ref m7, .int (nI gr), .int (nI mv), .ref m8, .ref m9, .ref m10, .ref m11, .ref m12, .ref m13, .int (nI la), .ref m14, .ref m15])), (m1, .inl (E 0, 12, .inl (aN T))), (m2, .inl (E 0, 12, .inl (aN U))), (m3, .inl (E 0, 4096, .inl (aN HI))), (m4, .inl (E 2, 4096, .inl (aN KD))), (m5, .inl (E 3, 4096, .inl (aB HE))), (m6, .inl (E 3, 4096, .inl (aB AV))), (m7, .inl (E 0, 12, .inl (aN MR)))]) C lay_Mo ty_Mo nm_Mo 0 rfl rfl 0 (by decide) m_634 rfl rfl rfl (Nat.le_of_ble_eq_true rfl) rfl d_Mo_holds_21 ?_
      refine g_aload_n C d_Mo_holds_24 rfl 0 rfl ?_
      refine g_get C lay_Mo 0 rfl rfl 0 (by decide) m_634 rfl d_Mo_holds_25 ?_
      refine g_if_leN (tgt := 33) C (by decide) d_Mo_holds_28 (by decide) (fun h => absurd h (by decide)) (fun _ => ?_)
      refine g_iconst (v := nI 0) C d_Mo_holds_31 (by decide) ?_
      refine g_top (show nI 0 = bI false from rfl) ?_
      exact g_zret C hrt hlk () (rfl) rfl d_Mo_holds_32
    · skip
      rw [b0, b1] at hb; cases hb

set_option maxHeartbeats 4000000 in
set_option maxRecDepth 100000 in
theorem o_holds (l : Launch) (D : va_G) (E : Nat → ClassId) (mo : Nat) (m1 : Nat) (m2 : Nat) (m3 : Nat) (m4 : Nat) (m5 : Nat) (m6 : Nat) (m7 : Nat) (m8 : Nat) (m9 : Nat) (m10 : Nat) (m11 : Nat) (m12 : Nat) (m13 : Nat) (m14 : Nat) (m15 : Nat) (th : Nat) (n : Nat) (kn : Bool) (lg : Bool) (td : Bool) (ld : Nat) (lt : Nat) (gr : Nat) (mv : Nat) (la : Nat) (T : Nat → Nat) (U : Nat → Nat) (HI : Nat → Nat) (KD : Nat → Nat) (HE : Nat → Bool) (AV : Nat → Bool) (MR : Nat → Nat) (k : Nat) (a : Nat) (all : Bool) (hn : n ≤ 12) (hT : ∀ a, T a < 4096) (hU : ∀ a, U a < 4096) (hHI : ∀ a, HI a < 4096) (hKD : ∀ x, KD x < 32) (hk : k < 5) (ha : a < n) : MI l D E y_Mo_holds (.code y_Mo_holds k_Mo_holds 7 (some .boolean)) ({ frames := 4, cells := 0, slots := 0, locals := 91 } : Room) [.ref mo, .int (nI k), .int (nI a), .int (bI all)] [(mo, .inr (7, [.int (nI th), .int (nI n), .ref m1, .ref m2, .ref m3, .ref m4, .ref m5, .ref m6, .int (bI kn), .int (bI lg), .int (bI td), .int (nI ld), .int (pI lt), .ref m7, .int (nI gr), .int (nI mv), .ref m8, .ref m9, .ref m10, .ref m11, .ref m12, .ref m13, .int (nI la), .ref m14, .ref m15])), (m1, .inl (E 0, 12, .inl (aN T))), (m2, .inl (E 0, 12, .inl (aN U))), (m3, .inl (E 0, 4096, .inl (aN HI))), (m4, .inl (E 2, 4096, .inl (aN KD))), (m5, .inl (E 3, 4096, .inl (aB HE))), (m6, .inl (E 3, 4096, .inl (aB AV))), (m7, .inl (E 0, 12, .inl (aN MR)))] (fun (r : Int32) (_ : Unit) => r = bI (bif all then faM (qK kn T U n HI KD HE AV) k a (2 ^ n) else exM (qK kn T U n HI KD HE AV) k a (2 ^ n))) (fun _ : Unit => [(mo, .inr (7, [.int (nI 0), .int (nI n), .ref m1, .ref m2, .ref m3, .ref m4, .ref m5, .ref m6, .int (bI true), .int (bI lg), .int (bI td), .int (nI ld), .int (pI lt), .ref m7, .int (nI (qG kn T U n HI gr)), .int (nI mv), .ref m8, .ref m9, .ref m10, .ref m11, .ref m12, .ref m13, .int (nI la), .ref m14, .ref m15])), (m1, .inl (E 0, 12, .inl (aN T))), (m2, .inl (E 0, 12, .inl (aN U))), (m3, .inl (E 0, 4096, .inl (aN (qH kn T n HI)))), (m4, .inl (E 2, 4096, .inl (aN (qK kn T U n HI KD HE AV)))), (m5, .inl (E 3, 4096, .inl (aB (qE kn T U n HI HE)))), (m6, .inl (E 3, 4096, .inl (aB (qA kn T U n HI HE AV)))), (m7, .inl (E 0, 12, .inl (aN (qR kn T U n HI MR))))]) := by
  refine MI.of (by decide) (Nat.le_of_ble_eq_true rfl) ?_
  intro p e s m args below meth c A C hrt hlk hnm
  refine g_lv (lv' := [(0, .ref mo), (1, .int (nI k)), (2, .int (nI a)), (3, .int (bI all))]) rfl ?_
  refine g_aload_n C d_Mo_holds_0 rfl 0 rfl ?_
  refine g_iload_n C d_Mo_holds_1 rfl 1 rfl ?_
  refine g_iS (rest := [.ref mo]) (wr := [(mo, .inr (7, [.int (nI th), .int (nI n), .ref m1, .ref m2, .ref m3, .ref m4, .ref m5, .ref m6, .int (bI kn), .int (bI lg), .int (bI td), .int (nI ld), .int (pI lt), .ref m7, .int (nI gr), .int (nI mv), .ref m8, .ref m9, .ref m10, .ref m11, .ref m12, .ref m13, .int (nI la), .ref m14, .ref m15])), (m1, .inl (E 0, 12, .inl (aN T))), (m2, .inl (E 0, 12, .inl (aN U))), (m3, .inl (E 0, 4096, .inl (aN HI))), (m4, .inl (E 2, 4096, .inl (aN KD))), (m5, .inl (E 3, 4096, .inl (aB HE))), (m6, .inl (E 3, 4096, .inl (aB AV))), (m7, .inl (E 0, 12, .inl (aN MR)))]) C (o_isKind l D E (nI k) ) rd_Mo_isKind m_791 m_792 (Nat.le_of_ble_eq_true rfl) (Nat.le_of_ble_eq_true rfl) (Nat.le_of_ble_eq_true rfl) (Nat.le_of_ble_eq_true rfl) rfl rfl (Nat.le_of_ble_eq_true rfl) d_Mo_holds_2 [] [0, 1, 2, 3, 4, 5, 6, 7] rfl (by decide) rfl (by decide) (by decide) (fun r2 _ (hr2 : r2 = bI (inR (nI k) 5)) => ?_)
  subst hr2
  refine g_cells (ws' := [(mo, .inr (7, [.int (nI th), .int (nI n), .ref m1, .ref m2, .ref m3, .ref m4, .ref m5, .ref m6, .int (bI kn), .int (bI lg), .int (bI td), .int (nI ld), .int (pI lt), .ref m7, .int (nI gr), .int (nI mv), .ref m8, .ref m9, .ref m10, .ref m11, .ref m12, .ref m13, .int (nI la), .ref m14, .ref m15])), (m1, .inl (E 0, 12, .inl (aN T))), (m2, .inl (E 0, 12, .inl (aN U))), (m3, .inl (E 0, 4096, .inl (aN HI))), (m4, .inl (E 2, 4096, .inl (aN KD))), (m5, .inl (E 3, 4096, .inl (aB HE))), (m6, .inl (E 3, 4096, .inl (aB AV))), (m7, .inl (E 0, 12, .inl (aN MR)))]) [0, 1, 2, 3, 4, 5, 6, 7] (by decide) rfl ?_
  refine g_if_eqB (tgt := 20) C d_Mo_holds_5 (by decide) (fun b0 => ?_) (fun b0 => ?_)
  · skip
    rw [inR_nI (by omega) (by decide)] at b0; simp at b0; omega
  · skip
    refine g_aload_n C d_Mo_holds_8 rfl 0 rfl ?_
    refine g_iload_n C d_Mo_holds_9 rfl 2 rfl ?_
    refine g_iV (rest := [.ref mo]) (wr := [(m1, .inl (E 0, 12, .inl (aN T))), (m2, .inl (E 0, 12, .inl (aN U))), (m3, .inl (E 0, 4096, .inl (aN HI))), (m4, .inl (E 2, 4096, .inl (aN KD))), (m5, .inl (E 3, 4096, .inl (aB HE))), (m6, .inl (E 3, 4096, .inl (aB AV))), (m7, .inl (E 0, 12, .inl (aN MR)))]) C (o_isArgument l D E mo m1 m2 m3 m4 m5 m6 m7 m8 m9 m10 m11 m12 m13 m14 m15 th n kn lg td ld lt gr mv la (nI a) ) rd_Mo_isArgument m_731 m_733 m_22 rfl rfl (Nat.le_of_ble_eq_true rfl) (Nat.le_of_ble_eq_true rfl) (Nat.le_of_ble_eq_true rfl) (Nat.le_of_ble_eq_true rfl) rfl rfl (Nat.le_of_ble_eq_true rfl) d_Mo_holds_10 [0] [1, 2, 3, 4, 5, 6, 7] rfl (by decide) rfl (by decide) (by decide) (fun r10 _ (hr10 : r10 = bI (inR (nI a) n)) => ?_)
    subst hr10
    refine g_cells (ws' := [(mo, .inr (7, [.int (nI th), .int (nI n), .ref m1, .ref m2, .ref m3, .ref m4, .ref m5, .ref m6, .int (bI kn), .int (bI lg), .int (bI td), .int (nI ld), .int (pI lt), .ref m7, .int (nI gr), .int (nI mv), .ref m8, .ref m9, .ref m10, .ref m11, .ref m12, .ref m13, .int (nI la), .ref m14, .ref m15])), (m1, .inl (E 0, 12, .inl (aN T))), (m2, .inl (E 0, 12, .inl (aN U))), (m3, .inl (E 0, 4096, .inl (aN HI))), (m4, .inl (E 2, 4096, .inl (aN KD))), (m5, .inl (E 3, 4096, .inl (aB HE))), (m6, .inl (E 3, 4096, .inl (aB AV))), (m7, .inl (E 0, 12, .inl (aN MR)))]) [7, 0, 1, 2, 3, 4, 5, 6] (by decide) rfl ?_
    refine g_if_eqB (tgt := 20) C d_Mo_holds_13 (by decide) (fun b1 => ?_) (fun b1 => ?_)
    · skip
      rw [inR_nI (by omega) (by omega)] at b1; simp at b1; omega
    · skip
      refine g_iconst (v := nI 0) C d_Mo_holds_16 (by decide) ?_
      refine g_goto (tgt := 21) C d_Mo_holds_17 (by decide) ?_
      refine g_put (ws' := [(mo, .inr (7, [.int (nI 0), .int (nI n), .ref m1, .ref m2, .ref m3, .ref m4, .ref m5, .ref m6, .int (bI kn), .int (bI lg), .int (bI td), .int (nI ld), .int (pI lt), .ref m7, .int (nI gr), .int (nI mv), .ref m8, .ref m9, .ref m10, .ref m11, .ref m12, .ref m13, .int (nI la), .ref m14, .ref m15])), (m1, .inl (E 0, 12, .inl (aN T))), (m2, .inl (E 0, 12, .inl (aN U))), (m3, .inl (E 0, 4096, .inl (aN HI))), (m4, .inl (E 2, 4096, .inl (aN KD))), (m5, .inl (E 3, 4096, .inl (aB HE))), (m6, .inl (E 3, 4096, .inl (aB AV))), (m7, .inl (E 0, 12, .inl (aN MR)))]) C lay_Mo ty_Mo nm_Mo 0 rfl rfl 0 (by decide) m_634 rfl rfl rfl (Nat.le_of_ble_eq_true rfl) rfl d_Mo_holds_21 ?_
      refine g_aload_n C d_Mo_holds_24 rfl 0 rfl ?_
      refine g_get C lay_Mo 0 rfl rfl 0 (by decide) m_634 rfl d_Mo_holds_25 ?_
      refine g_if_leN (tgt := 33) C (by decide) d_Mo_holds_28 (by decide) (fun _ => ?_) (fun h => absurd h (by decide))
      refine g_iconst (v := nI 0) C d_Mo_holds_33 (by decide) ?_
      refine g_istore (lv' := [(4, .int (nI 0)), (0, .ref mo), (1, .int (nI k)), (2, .int (nI a)), (3, .int (bI all))]) C d_Mo_holds_34 (by decide) rfl ?_
      refine g_iconst (v := nI 1) C d_Mo_holds_36 (by decide) ?_
      refine g_istore (lv' := [(5, .int (nI 1)), (4, .int (nI 0)), (0, .ref mo), (1, .int (nI k)), (2, .int (nI a)), (3, .int (bI all))]) C d_Mo_holds_37 (by decide) rfl ?_
      refine g_iconst (v := nI 0) C d_Mo_holds_39 (by decide) ?_
      refine g_istore (lv' := [(6, .int (nI 0)), (5, .int (nI 1)), (4, .int (nI 0)), (0, .ref mo), (1, .int (nI k)), (2, .int (nI a)), (3, .int (bI all))]) C d_Mo_holds_40 (by decide) rfl ?_
      have loop42 : ∀ (f : Nat) (i : Nat) (sm : Bool) (ec : Bool) (kn1 : Bool) (H1 : Nat → Nat) (K1 : Nat → Nat) (E1 : Nat → Bool) (A1 : Nat → Bool) (R1 : Nat → Nat) (g1 : Nat), (i ≤ 2 ^ n) → (RKs i kn T U n HI KD HE AV MR gr kn1 H1 K1 E1 A1 R1 g1) → (sm = exM (qK kn T U n HI KD HE AV) k a i) → (ec = faM (qK kn T U n HI KD HE AV) k a i) → 2 ^ n - i < f → GG p l e ({ frames := 4, cells := 0, slots := 0, locals := 91 } : Room) s m args below meth c (MQ below (va_Qi (fun (r : Int32) (_ : Unit) => r = bI (bif all then faM (qK kn T U n HI KD HE AV) k a (2 ^ n) else exM (qK kn T U n HI KD HE AV) k a (2 ^ n))) (BC D A (fun _ : Unit => [(mo, .inr (7, [.int (nI 0), .int (nI n), .ref m1, .ref m2, .ref m3, .ref m4, .ref m5, .ref m6, .int (bI true), .int (bI lg), .int (bI td), .int (nI ld), .int (pI lt), .ref m7, .int (nI (qG kn T U n HI gr)), .int (nI mv), .ref m8, .ref m9, .ref m10, .ref m11, .ref m12, .ref m13, .int (nI la), .ref m14, .ref m15])), (m1, .inl (E 0, 12, .inl (aN T))), (m2, .inl (E 0, 12, .inl (aN U))), (m3, .inl (E 0, 4096, .inl (aN (qH kn T n HI)))), (m4, .inl (E 2, 4096, .inl (aN (qK kn T U n HI KD HE AV)))), (m5, .inl (E 3, 4096, .inl (aB (qE kn T U n HI HE)))), (m6, .inl (E 3, 4096, .inl (aB (qA kn T U n HI HE AV)))), (m7, .inl (E 0, 12, .inl (aN (qR kn T U n HI MR))))])) A) args s (({ frames := 4, cells := 0, slots := 0, locals := 91 } : Room)).cells (({ frames := 4, cells := 0, slots := 0, locals := 91 } : Room)).slots A) D A 7 0 0 42 [(0, .ref mo), (1, .int (nI k)), (2, .int (nI a)), (3, .int (bI all)), (4, .int (bI sm)), (5, .int (bI ec)), (6, .int (nI i))] [] [(mo, .inr (7, [.int (nI 0), .int (nI n), .ref m1, .ref m2, .ref m3, .ref m4, .ref m5, .ref m6, .int (bI kn1), .int (bI lg), .int (bI td), .int (nI ld), .int (pI lt), .ref m7, .int (nI g1), .int (nI mv), .ref m8, .ref m9, .ref m10, .ref m11, .ref m12, .ref m13, .int (nI la), .ref m14, .ref m15])), (m1, .inl (E 0, 12, .inl (aN T))), (m2, .inl (E 0, 12, .inl (aN U))), (m3, .inl (E 0, 4096, .inl (aN H1))), (m4, .inl (E 2, 4096, .inl (aN K1))), (m5, .inl (E 3, 4096, .inl (aB E1))), (m6, .inl (E 3, 4096, .inl (aB A1))), (m7, .inl (E 0, 12, .inl (aN R1)))] := by
        intro f
        induction f with
        | zero => intro i sm ec kn1 H1 K1 E1 A1 R1 g1 hi hS hs he hf; exact absurd hf (Nat.not_lt_zero _)
        | succ f ih =>
          intro i sm ec kn1 H1 K1 E1 A1 R1 g1 hi hS hs he hf
          have ih42 := ih
          refine g_iload C d_Mo_holds_42 6 rfl ?_
          refine g_iconst (v := nI 1) C d_Mo_holds_44 (by decide) ?_
          refine g_aload_n C d_Mo_holds_45 rfl 0 rfl ?_
          refine g_get C lay_Mo 0 rfl rfl 1 (by decide) m_635 rfl d_Mo_holds_46 ?_
          refine g_ishl1N C (by omega) d_Mo_holds_49 ?_
          refine g_icmp_geN (tgt := 113) C (by have := p12_le hn; omega) (pow_lt (by omega)) d_Mo_holds_50 (by decide) (fun b3 => ?_) (fun b3 => ?_)
          · skip
            refine g_ws (ws' := [(mo, .inr (7, [.int (nI 0), .int (nI n), .ref m1, .ref m2, .ref m3, .ref m4, .ref m5, .ref m6, .int (bI true), .int (bI lg), .int (bI td), .int (nI ld), .int (pI lt), .ref m7, .int (nI (qG kn T U n HI gr)), .int (nI mv), .ref m8, .ref m9, .ref m10, .ref m11, .ref m12, .ref m13, .int (nI la), .ref m14, .ref m15])), (m1, .inl (E 0, 12, .inl (aN T))), (m2, .inl (E 0, 12, .inl (aN U))), (m3, .inl (E 0, 4096, .inl (aN (qH kn T n HI)))), (m4, .inl (E 2, 4096, .inl (aN (qK kn T U n HI KD HE AV)))), (m5, .inl (E 3, 4096, .inl (aB (qE kn T U n HI HE)))), (m6, .inl (E 3, 4096, .inl (aB (qA kn T U n HI HE AV)))), (m7, .inl (E 0, 12, .inl (aN (qR kn T U n HI MR))))]) (by obtain ⟨e1, e2, e3, e4, e5, e6, e7⟩ := hS.end_ (by have := Nat.one_le_two_pow (n := n); omega); rw [e1, e2, e3, e4, e5, e6, e7]) ?_
            refine g_iload_n C d_Mo_holds_113 rfl 3 rfl ?_
            refine g_if_eqB (tgt := 122) C d_Mo_holds_114 (by decide) (fun b9 => ?_) (fun b9 => ?_)
            · skip
              refine g_iload C d_Mo_holds_122 4 rfl ?_
              exact g_zret C hrt hlk () (congrArg bI (by rw [b9]; first | (rw [he, show i = 2 ^ n by omega]; rfl) | (rw [hs, show i = 2 ^ n by omega]; rfl))) rfl d_Mo_holds_124
            · skip
              refine g_iload C d_Mo_holds_117 5 rfl ?_
              refine g_goto (tgt := 124) C d_Mo_holds_119 (by decide) ?_
              exact g_zret C hrt hlk () (congrArg bI (by rw [b9]; first | (rw [he, show i = 2 ^ n by omega]; rfl) | (rw [hs, show i = 2 ^ n by omega]; rfl))) rfl d_Mo_holds_124
          · skip
            refine g_aload_n C d_Mo_holds_53 rfl 0 rfl ?_
            refine g_iload_n C d_Mo_holds_54 rfl 1 rfl ?_
            refine g_iload C d_Mo_holds_55 6 rfl ?_
            refine g_iV (rest := []) (wr := []) C (o_isOf l D E mo m1 m2 m3 m4 m5 m6 m7 m8 m9 m10 m11 m12 m13 m14 m15 0 n kn1 lg td ld lt g1 mv la T U H1 K1 E1 A1 R1 k i hn hT hU (hS.hb hT hHI) (hS.kb hKD) hk (by have := p12_le hn; omega)) rd_Mo_isOf m_794 m_796 m_31 rfl rfl (Nat.le_of_ble_eq_true rfl) (Nat.le_of_ble_eq_true rfl) (Nat.le_of_ble_eq_true rfl) (Nat.le_of_ble_eq_true rfl) rfl rfl (Nat.le_of_ble_eq_true rfl) d_Mo_holds_57 [0, 1, 2, 3, 4, 5, 6, 7] [] rfl (by decide) rfl (by decide) (by decide) (fun r57 _ (hr57 : r57 = bI ((qK kn1 T U n H1 K1 E1 A1 i).testBit k)) => ?_)
            subst hr57
            refine g_cells (ws' := [(mo, .inr (7, [.int (nI 0), .int (nI n), .ref m1, .ref m2, .ref m3, .ref m4, .ref m5, .ref m6, .int (bI true), .int (bI lg), .int (bI td), .int (nI ld), .int (pI lt), .ref m7, .int (nI (qG kn1 T U n H1 g1)), .int (nI mv), .ref m8, .ref m9, .ref m10, .ref m11, .ref m12, .ref m13, .int (nI la), .ref m14, .ref m15])), (m1, .inl (E 0, 12, .inl (aN T))), (m2, .inl (E 0, 12, .inl (aN U))), (m3, .inl (E 0, 4096, .inl (aN (qH kn1 T n H1)))), (m4, .inl (E 2, 4096, .inl (aN (qK kn1 T U n H1 K1 E1 A1)))), (m5, .inl (E 3, 4096, .inl (aB (qE kn1 T U n H1 E1)))), (m6, .inl (E 3, 4096, .inl (aB (qA kn1 T U n H1 E1 A1)))), (m7, .inl (E 0, 12, .inl (aN (qR kn1 T U n H1 R1))))]) [0, 1, 2, 3, 4, 5, 6, 7] (by decide) rfl ?_
            refine g_top (show bI ((qK kn1 T U n H1 K1 E1 A1 i).testBit k) = bI ((qK kn T U n HI KD HE AV i).testBit k) from by rw [hS.canon.2.1]) ?_
            refine g_ws (ws' := [(mo, .inr (7, [.int (nI 0), .int (nI n), .ref m1, .ref m2, .ref m3, .ref m4, .ref m5, .ref m6, .int (bI true), .int (bI lg), .int (bI td), .int (nI ld), .int (pI lt), .ref m7, .int (nI (qG kn T U n HI gr)), .int (nI mv), .ref m8, .ref m9, .ref m10, .ref m11, .ref m12, .ref m13, .int (nI la), .ref m14, .ref m15])), (m1, .inl (E 0, 12, .inl (aN T))), (m2, .inl (E 0, 12, .inl (aN U))), (m3, .inl (E 0, 4096, .inl (aN (qH kn T n HI)))), (m4, .inl (E 2, 4096, .inl (aN (qK kn T U n HI KD HE AV)))), (m5, .inl (E 3, 4096, .inl (aB (qE kn T U n HI HE)))), (m6, .inl (E 3, 4096, .inl (aB (qA kn T U n HI HE AV)))), (m7, .inl (E 0, 12, .inl (aN (qR kn T U n HI MR))))]) (by obtain ⟨e1, e2, e3, e4, e5, e6⟩ := hS.canon; rw [e1, e2, e3, e4, e5, e6]) ?_
            refine g_if_eqB (tgt := 107) C d_Mo_holds_60 (by decide) (fun b4 => ?_) (fun b4 => ?_)
            · skip
              refine g_iinc (lv' := [(6, .int (nI (i + 1))), (0, .ref mo), (1, .int (nI k)), (2, .int (nI a)), (3, .int (bI all)), (4, .int (bI sm)), (5, .int (bI ec))]) C d_Mo_holds_107 6 rfl (nI_1 _) (by decide) rfl ?_
              refine g_goto (tgt := 42) C d_Mo_holds_110 (by decide) ?_
              refine g_perm [1, 2, 3, 4, 5, 6, 0] rfl ?_
              exact ih42 (i + 1) sm ec true (qH kn T n HI) (qK kn T U n HI KD HE AV) (qE kn T U n HI HE) (qA kn T U n HI HE AV) (qR kn T U n HI MR) (qG kn T U n HI gr) (by omega) (RKs_s) (by simp_all [exM]) (by simp_all [faM]) (by omega)
            · skip
              refine g_iload C d_Mo_holds_63 4 rfl ?_
              refine g_if_neB (tgt := 78) C d_Mo_holds_65 (by decide) (fun b5 => ?_) (fun b5 => ?_)
              · skip
                refine g_iconst (v := nI 1) C d_Mo_holds_78 (by decide) ?_
                refine g_goto (tgt := 83) C d_Mo_holds_79 (by decide) ?_
                refine g_istore (lv' := [(4, .int (nI 1)), (0, .ref mo), (1, .int (nI k)), (2, .int (nI a)), (3, .int (bI all)), (5, .int (bI ec)), (6, .int (nI i))]) C d_Mo_holds_83 (by decide) rfl ?_
                refine g_iload C d_Mo_holds_85 5 rfl ?_
                refine g_if_eqB (tgt := 104) C d_Mo_holds_87 (by decide) (fun b7 => ?_) (fun b7 => ?_)
                · skip
                  refine g_iconst (v := nI 0) C d_Mo_holds_104 (by decide) ?_
                  refine g_istore (lv' := [(5, .int (nI 0)), (4, .int (nI 1)), (0, .ref mo), (1, .int (nI k)), (2, .int (nI a)), (3, .int (bI all)), (6, .int (nI i))]) C d_Mo_holds_105 (by decide) rfl ?_
                  refine g_iinc (lv' := [(6, .int (nI (i + 1))), (5, .int (nI 0)), (4, .int (nI 1)), (0, .ref mo), (1, .int (nI k)), (2, .int (nI a)), (3, .int (bI all))]) C d_Mo_holds_107 6 rfl (nI_1 _) (by decide) rfl ?_
                  refine g_goto (tgt := 42) C d_Mo_holds_110 (by decide) ?_
                  refine g_lv (lv' := [(6, .int (nI (i + 1))), (5, .int (nI 0)), (4, .int (bI true)), (0, .ref mo), (1, .int (nI k)), (2, .int (nI a)), (3, .int (bI all))]) rfl ?_
                  refine g_lv (lv' := [(6, .int (nI (i + 1))), (5, .int (bI false)), (4, .int (bI true)), (0, .ref mo), (1, .int (nI k)), (2, .int (nI a)), (3, .int (bI all))]) rfl ?_
                  refine g_perm [3, 4, 5, 6, 2, 1, 0] rfl ?_
                  exact ih42 (i + 1) true false true (qH kn T n HI) (qK kn T U n HI KD HE AV) (qE kn T U n HI HE) (qA kn T U n HI HE AV) (qR kn T U n HI MR) (qG kn T U n HI gr) (by omega) (RKs_s) (by simp_all [exM]) (by simp_all [faM]) (by omega)
                · skip
                  refine g_iload C d_Mo_holds_90 6 rfl ?_
                  refine g_iload_n C d_Mo_holds_92 rfl 3 rfl ?_
                  refine g_ishrN C (by have := p12_le hn; omega) (by omega) d_Mo_holds_93 ?_
                  refine g_iconst (v := nI 1) C d_Mo_holds_94 (by decide) ?_
                  refine g_iandB C d_Mo_holds_95 ?_
                  refine g_iconst (v := nI 1) C d_Mo_holds_96 (by decide) ?_
                  refine g_top (show nI 1 = bI true from rfl) ?_
                  refine g_icmp_neB (tgt := 104) C d_Mo_holds_97 (by decide) (fun b8 => ?_) (fun b8 => ?_)
                  · skip
                    refine g_iconst (v := nI 0) C d_Mo_holds_104 (by decide) ?_
                    refine g_istore (lv' := [(5, .int (nI 0)), (4, .int (nI 1)), (0, .ref mo), (1, .int (nI k)), (2, .int (nI a)), (3, .int (bI all)), (6, .int (nI i))]) C d_Mo_holds_105 (by decide) rfl ?_
                    refine g_iinc (lv' := [(6, .int (nI (i + 1))), (5, .int (nI 0)), (4, .int (nI 1)), (0, .ref mo), (1, .int (nI k)), (2, .int (nI a)), (3, .int (bI all))]) C d_Mo_holds_107 6 rfl (nI_1 _) (by decide) rfl ?_
                    refine g_goto (tgt := 42) C d_Mo_holds_110 (by decide) ?_
                    refine g_lv (lv' := [(6, .int (nI (i + 1))), (5, .int (nI 0)), (4, .int (bI true)), (0, .ref mo), (1, .int (nI k)), (2, .int (nI a)), (3, .int (bI all))]) rfl ?_
                    refine g_lv (lv' := [(6, .int (nI (i + 1))), (5, .int (bI false)), (4, .int (bI true)), (0, .ref mo), (1, .int (nI k)), (2, .int (nI a)), (3, .int (bI all))]) rfl ?_
                    refine g_perm [3, 4, 5, 6, 2, 1, 0] rfl ?_
                    exact ih42 (i + 1) true false true (qH kn T n HI) (qK kn T U n HI KD HE AV) (qE kn T U n HI HE) (qA kn T U n HI HE AV) (qR kn T U n HI MR) (qG kn T U n HI gr) (by omega) (RKs_s) (by simp_all [exM]) (by simp_all [faM]) (by omega)
                  · skip
                    refine g_iconst (v := nI 1) C d_Mo_holds_100 (by decide) ?_
                    refine g_goto (tgt := 105) C d_Mo_holds_101 (by decide) ?_
                    refine g_istore (lv' := [(5, .int (nI 1)), (4, .int (nI 1)), (0, .ref mo), (1, .int (nI k)), (2, .int (nI a)), (3, .int (bI all)), (6, .int (nI i))]) C d_Mo_holds_105 (by decide) rfl ?_
                    refine g_iinc (lv' := [(6, .int (nI (i + 1))), (5, .int (nI 1)), (4, .int (nI 1)), (0, .ref mo), (1, .int (nI k)), (2, .int (nI a)), (3, .int (bI all))]) C d_Mo_holds_107 6 rfl (nI_1 _) (by decide) rfl ?_
                    refine g_goto (tgt := 42) C d_Mo_holds_110 (by decide) ?_
                    refine g_lv (lv' := [(6, .int (nI (i + 1))), (5, .int (nI 1)), (4, .int (bI true)), (0, .ref mo), (1, .int (nI k)), (2, .int (nI a)), (3, .int (bI all))]) rfl ?_
                    refine g_lv (lv' := [(6, .int (nI (i + 1))), (5, .int (bI true)), (4, .int (bI true)), (0, .ref mo), (1, .int (nI k)), (2, .int (nI a)), (3, .int (bI all))]) rfl ?_
                    refine g_perm [3, 4, 5, 6, 2, 1, 0] rfl ?_
                    exact ih42 (i + 1) true true true (qH kn T n HI) (qK kn T U n HI KD HE AV) (qE kn T U n HI HE) (qA kn T U n HI HE AV) (qR kn T U n HI MR) (qG kn T U n HI gr) (by omega) (RKs_s) (by simp_all [exM]) (by simp_all [faM]) (by omega)
              · skip
                refine g_iload C d_Mo_holds_68 6 rfl ?_
                refine g_iload_n C d_Mo_holds_70 rfl 2 rfl ?_
                refine g_ishrN C (by have := p12_le hn; omega) (by omega) d_Mo_holds_71 ?_
                refine g_iconst (v := nI 1) C d_Mo_holds_72 (by decide) ?_
                refine g_iandB C d_Mo_holds_73 ?_
                refine g_iconst (v := nI 1) C d_Mo_holds_74 (by decide) ?_
                refine g_top (show nI 1 = bI true from rfl) ?_
                refine g_icmp_neB (tgt := 82) C d_Mo_holds_75 (by decide) (fun b6 => ?_) (fun b6 => ?_)
                · skip
                  refine g_iconst (v := nI 0) C d_Mo_holds_82 (by decide) ?_
                  refine g_istore (lv' := [(4, .int (nI 0)), (0, .ref mo), (1, .int (nI k)), (2, .int (nI a)), (3, .int (bI all)), (5, .int (bI ec)), (6, .int (nI i))]) C d_Mo_holds_83 (by decide) rfl ?_
                  refine g_iload C d_Mo_holds_85 5 rfl ?_
                  refine g_if_eqB (tgt := 104) C d_Mo_holds_87 (by decide) (fun b7 => ?_) (fun b7 => ?_)
                  · skip
                    refine g_iconst (v := nI 0) C d_Mo_holds_104 (by decide) ?_
                    refine g_istore (lv' := [(5, .int (nI 0)), (4, .int (nI 0)), (0, .ref mo), (1, .int (nI k)), (2, .int (nI a)), (3, .int (bI all)), (6, .int (nI i))]) C d_Mo_holds_105 (by decide) rfl ?_
                    refine g_iinc (lv' := [(6, .int (nI (i + 1))), (5, .int (nI 0)), (4, .int (nI 0)), (0, .ref mo), (1, .int (nI k)), (2, .int (nI a)), (3, .int (bI all))]) C d_Mo_holds_107 6 rfl (nI_1 _) (by decide) rfl ?_
                    refine g_goto (tgt := 42) C d_Mo_holds_110 (by decide) ?_
                    refine g_lv (lv' := [(6, .int (nI (i + 1))), (5, .int (nI 0)), (4, .int (bI false)), (0, .ref mo), (1, .int (nI k)), (2, .int (nI a)), (3, .int (bI all))]) rfl ?_
                    refine g_lv (lv' := [(6, .int (nI (i + 1))), (5, .int (bI false)), (4, .int (bI false)), (0, .ref mo), (1, .int (nI k)), (2, .int (nI a)), (3, .int (bI all))]) rfl ?_
                    refine g_perm [3, 4, 5, 6, 2, 1, 0] rfl ?_
                    exact ih42 (i + 1) false false true (qH kn T n HI) (qK kn T U n HI KD HE AV) (qE kn T U n HI HE) (qA kn T U n HI HE AV) (qR kn T U n HI MR) (qG kn T U n HI gr) (by omega) (RKs_s) (by simp_all [exM]) (by simp_all [faM]) (by omega)
                  · skip
                    refine g_iload C d_Mo_holds_90 6 rfl ?_
                    refine g_iload_n C d_Mo_holds_92 rfl 3 rfl ?_
                    refine g_ishrN C (by have := p12_le hn; omega) (by omega) d_Mo_holds_93 ?_
                    refine g_iconst (v := nI 1) C d_Mo_holds_94 (by decide) ?_
                    refine g_iandB C d_Mo_holds_95 ?_
                    refine g_iconst (v := nI 1) C d_Mo_holds_96 (by decide) ?_
                    refine g_top (show nI 1 = bI true from rfl) ?_
                    refine g_icmp_neB (tgt := 104) C d_Mo_holds_97 (by decide) (fun b8 => ?_) (fun b8 => ?_)
                    · skip
                      refine g_iconst (v := nI 0) C d_Mo_holds_104 (by decide) ?_
                      refine g_istore (lv' := [(5, .int (nI 0)), (4, .int (nI 0)), (0, .ref mo), (1, .int (nI k)), (2, .int (nI a)), (3, .int (bI all)), (6, .int (nI i))]) C d_Mo_holds_105 (by decide) rfl ?_
                      refine g_iinc (lv' := [(6, .int (nI (i + 1))), (5, .int (nI 0)), (4, .int (nI 0)), (0, .ref mo), (1, .int (nI k)), (2, .int (nI a)), (3, .int (bI all))]) C d_Mo_holds_107 6 rfl (nI_1 _) (by decide) rfl ?_
                      refine g_goto (tgt := 42) C d_Mo_holds_110 (by decide) ?_
                      refine g_lv (lv' := [(6, .int (nI (i + 1))), (5, .int (nI 0)), (4, .int (bI false)), (0, .ref mo), (1, .int (nI k)), (2, .int (nI a)), (3, .int (bI all))]) rfl ?_
                      refine g_lv (lv' := [(6, .int (nI (i + 1))), (5, .int (bI false)), (4, .int (bI false)), (0, .ref mo), (1, .int (nI k)), (2, .int (nI a)), (3, .int (bI all))]) rfl ?_
                      refine g_perm [3, 4, 5, 6, 2, 1, 0] rfl ?_
                      exact ih42 (i + 1) false false true (qH kn T n HI) (qK kn T U n HI KD HE AV) (qE kn T U n HI HE) (qA kn T U n HI HE AV) (qR kn T U n HI MR) (qG kn T U n HI gr) (by omega) (RKs_s) (by simp_all [exM]) (by simp_all [faM]) (by omega)
                    · skip
                      refine g_iconst (v := nI 1) C d_Mo_holds_100 (by decide) ?_
                      refine g_goto (tgt := 105) C d_Mo_holds_101 (by decide) ?_
                      refine g_istore (lv' := [(5, .int (nI 1)), (4, .int (nI 0)), (0, .ref mo), (1, .int (nI k)), (2, .int (nI a)), (3, .int (bI all)), (6, .int (nI i))]) C d_Mo_holds_105 (by decide) rfl ?_
                      refine g_iinc (lv' := [(6, .int (nI (i + 1))), (5, .int (nI 1)), (4, .int (nI 0)), (0, .ref mo), (1, .int (nI k)), (2, .int (nI a)), (3, .int (bI all))]) C d_Mo_holds_107 6 rfl (nI_1 _) (by decide) rfl ?_
                      refine g_goto (tgt := 42) C d_Mo_holds_110 (by decide) ?_
                      refine g_lv (lv' := [(6, .int (nI (i + 1))), (5, .int (nI 1)), (4, .int (bI false)), (0, .ref mo), (1, .int (nI k)), (2, .int (nI a)), (3, .int (bI all))]) rfl ?_
                      refine g_lv (lv' := [(6, .int (nI (i + 1))), (5, .int (bI true)), (4, .int (bI false)), (0, .ref mo), (1, .int (nI k)), (2, .int (nI a)), (3, .int (bI all))]) rfl ?_
                      refine g_perm [3, 4, 5, 6, 2, 1, 0] rfl ?_
                      exact ih42 (i + 1) false true true (qH kn T n HI) (qK kn T U n HI KD HE AV) (qE kn T U n HI HE) (qA kn T U n HI HE AV) (qR kn T U n HI MR) (qG kn T U n HI gr) (by omega) (RKs_s) (by simp_all [exM]) (by simp_all [faM]) (by omega)
                · skip
                  refine g_iconst (v := nI 1) C d_Mo_holds_78 (by decide) ?_
                  refine g_goto (tgt := 83) C d_Mo_holds_79 (by decide) ?_
                  refine g_istore (lv' := [(4, .int (nI 1)), (0, .ref mo), (1, .int (nI k)), (2, .int (nI a)), (3, .int (bI all)), (5, .int (bI ec)), (6, .int (nI i))]) C d_Mo_holds_83 (by decide) rfl ?_
                  refine g_iload C d_Mo_holds_85 5 rfl ?_
                  refine g_if_eqB (tgt := 104) C d_Mo_holds_87 (by decide) (fun b7 => ?_) (fun b7 => ?_)
                  · skip
                    refine g_iconst (v := nI 0) C d_Mo_holds_104 (by decide) ?_
                    refine g_istore (lv' := [(5, .int (nI 0)), (4, .int (nI 1)), (0, .ref mo), (1, .int (nI k)), (2, .int (nI a)), (3, .int (bI all)), (6, .int (nI i))]) C d_Mo_holds_105 (by decide) rfl ?_
                    refine g_iinc (lv' := [(6, .int (nI (i + 1))), (5, .int (nI 0)), (4, .int (nI 1)), (0, .ref mo), (1, .int (nI k)), (2, .int (nI a)), (3, .int (bI all))]) C d_Mo_holds_107 6 rfl (nI_1 _) (by decide) rfl ?_
                    refine g_goto (tgt := 42) C d_Mo_holds_110 (by decide) ?_
                    refine g_lv (lv' := [(6, .int (nI (i + 1))), (5, .int (nI 0)), (4, .int (bI true)), (0, .ref mo), (1, .int (nI k)), (2, .int (nI a)), (3, .int (bI all))]) rfl ?_
                    refine g_lv (lv' := [(6, .int (nI (i + 1))), (5, .int (bI false)), (4, .int (bI true)), (0, .ref mo), (1, .int (nI k)), (2, .int (nI a)), (3, .int (bI all))]) rfl ?_
                    refine g_perm [3, 4, 5, 6, 2, 1, 0] rfl ?_
                    exact ih42 (i + 1) true false true (qH kn T n HI) (qK kn T U n HI KD HE AV) (qE kn T U n HI HE) (qA kn T U n HI HE AV) (qR kn T U n HI MR) (qG kn T U n HI gr) (by omega) (RKs_s) (by simp_all [exM]) (by simp_all [faM]) (by omega)
                  · skip
                    refine g_iload C d_Mo_holds_90 6 rfl ?_
                    refine g_iload_n C d_Mo_holds_92 rfl 3 rfl ?_
                    refine g_ishrN C (by have := p12_le hn; omega) (by omega) d_Mo_holds_93 ?_
                    refine g_iconst (v := nI 1) C d_Mo_holds_94 (by decide) ?_
                    refine g_iandB C d_Mo_holds_95 ?_
                    refine g_iconst (v := nI 1) C d_Mo_holds_96 (by decide) ?_
                    refine g_top (show nI 1 = bI true from rfl) ?_
                    refine g_icmp_neB (tgt := 104) C d_Mo_holds_97 (by decide) (fun b8 => ?_) (fun b8 => ?_)
                    · skip
                      refine g_iconst (v := nI 0) C d_Mo_holds_104 (by decide) ?_
                      refine g_istore (lv' := [(5, .int (nI 0)), (4, .int (nI 1)), (0, .ref mo), (1, .int (nI k)), (2, .int (nI a)), (3, .int (bI all)), (6, .int (nI i))]) C d_Mo_holds_105 (by decide) rfl ?_
                      refine g_iinc (lv' := [(6, .int (nI (i + 1))), (5, .int (nI 0)), (4, .int (nI 1)), (0, .ref mo), (1, .int (nI k)), (2, .int (nI a)), (3, .int (bI all))]) C d_Mo_holds_107 6 rfl (nI_1 _) (by decide) rfl ?_
                      refine g_goto (tgt := 42) C d_Mo_holds_110 (by decide) ?_
                      refine g_lv (lv' := [(6, .int (nI (i + 1))), (5, .int (nI 0)), (4, .int (bI true)), (0, .ref mo), (1, .int (nI k)), (2, .int (nI a)), (3, .int (bI all))]) rfl ?_
                      refine g_lv (lv' := [(6, .int (nI (i + 1))), (5, .int (bI false)), (4, .int (bI true)), (0, .ref mo), (1, .int (nI k)), (2, .int (nI a)), (3, .int (bI all))]) rfl ?_
                      refine g_perm [3, 4, 5, 6, 2, 1, 0] rfl ?_
                      exact ih42 (i + 1) true false true (qH kn T n HI) (qK kn T U n HI KD HE AV) (qE kn T U n HI HE) (qA kn T U n HI HE AV) (qR kn T U n HI MR) (qG kn T U n HI gr) (by omega) (RKs_s) (by simp_all [exM]) (by simp_all [faM]) (by omega)
                    · skip
                      refine g_iconst (v := nI 1) C d_Mo_holds_100 (by decide) ?_
                      refine g_goto (tgt := 105) C d_Mo_holds_101 (by decide) ?_
                      refine g_istore (lv' := [(5, .int (nI 1)), (4, .int (nI 1)), (0, .ref mo), (1, .int (nI k)), (2, .int (nI a)), (3, .int (bI all)), (6, .int (nI i))]) C d_Mo_holds_105 (by decide) rfl ?_
                      refine g_iinc (lv' := [(6, .int (nI (i + 1))), (5, .int (nI 1)), (4, .int (nI 1)), (0, .ref mo), (1, .int (nI k)), (2, .int (nI a)), (3, .int (bI all))]) C d_Mo_holds_107 6 rfl (nI_1 _) (by decide) rfl ?_
                      refine g_goto (tgt := 42) C d_Mo_holds_110 (by decide) ?_
                      refine g_lv (lv' := [(6, .int (nI (i + 1))), (5, .int (nI 1)), (4, .int (bI true)), (0, .ref mo), (1, .int (nI k)), (2, .int (nI a)), (3, .int (bI all))]) rfl ?_
                      refine g_lv (lv' := [(6, .int (nI (i + 1))), (5, .int (bI true)), (4, .int (bI true)), (0, .ref mo), (1, .int (nI k)), (2, .int (nI a)), (3, .int (bI all))]) rfl ?_
                      refine g_perm [3, 4, 5, 6, 2, 1, 0] rfl ?_
                      exact ih42 (i + 1) true true true (qH kn T n HI) (qK kn T U n HI KD HE AV) (qE kn T U n HI HE) (qA kn T U n HI HE AV) (qR kn T U n HI MR) (qG kn T U n HI gr) (by omega) (RKs_s) (by simp_all [exM]) (by simp_all [faM]) (by omega)
      refine g_lv (lv' := [(6, .int (nI 0)), (5, .int (nI 1)), (4, .int (bI false)), (0, .ref mo), (1, .int (nI k)), (2, .int (nI a)), (3, .int (bI all))]) rfl ?_
      refine g_lv (lv' := [(6, .int (nI 0)), (5, .int (bI true)), (4, .int (bI false)), (0, .ref mo), (1, .int (nI k)), (2, .int (nI a)), (3, .int (bI all))]) rfl ?_
      refine g_perm [3, 4, 5, 6, 2, 1, 0] rfl ?_
      exact loop42 (2 ^ n - 0 + 1) 0 false true kn HI KD HE AV MR gr (Nat.zero_le _) (RKs_0) (rfl) (rfl) (Nat.lt_succ_self _)

set_option maxHeartbeats 4000000 in
set_option maxRecDepth 100000 in
theorem o_ideal (l : Launch) (D : va_G) (E : Nat → ClassId) (mo : Nat) (m1 : Nat) (m2 : Nat) (m3 : Nat) (m4 : Nat) (m5 : Nat) (m6 : Nat) (m7 : Nat) (m8 : Nat) (m9 : Nat) (m10 : Nat) (m11 : Nat) (m12 : Nat) (m13 : Nat) (m14 : Nat) (m15 : Nat) (th : Nat) (n : Nat) (kn : Bool) (lg : Bool) (td : Bool) (ld : Nat) (lt : Nat) (gr : Nat) (mv : Nat) (la : Nat) (T : Nat → Nat) (U : Nat → Nat) (HI : Nat → Nat) (KD : Nat → Nat) (HE : Nat → Bool) (AV : Nat → Bool) (MR : Nat → Nat) (hn : n ≤ 12) (hT : ∀ a, T a < 4096) (hU : ∀ a, U a < 4096) (hHI : ∀ a, HI a < 4096) (hKD : ∀ x, KD x < 32) : MI l D E y_Mo_ideal (.code y_Mo_ideal k_Mo_ideal 4 (some .int)) ({ frames := 4, cells := 0, slots := 0, locals := 91 } : Room) [.ref mo] [(mo, .inr (7, [.int (nI th), .int (nI n), .ref m1, .ref m2, .ref m3, .ref m4, .ref m5, .ref m6, .int (bI kn), .int (bI lg), .int (bI td), .int (nI ld), .int (pI lt), .ref m7, .int (nI gr), .int (nI mv), .ref m8, .ref m9, .ref m10, .ref m11, .ref m12, .ref m13, .int (nI la), .ref m14, .ref m15])), (m1, .inl (E 0, 12, .inl (aN T))), (m2, .inl (E 0, 12, .inl (aN U))), (m3, .inl (E 0, 4096, .inl (aN HI))), (m4, .inl (E 2, 4096, .inl (aN KD))), (m5, .inl (E 3, 4096, .inl (aB HE))), (m6, .inl (E 3, 4096, .inl (aB AV))), (m7, .inl (E 0, 12, .inl (aN MR)))] (fun (r : Int32) (_ : Unit) => r = nI (joiM (qK kn T U n HI KD HE AV) 4 (metM (qK kn T U n HI KD HE AV) 1 (2 ^ n - 1) (2 ^ n)) (2 ^ n))) (fun _ : Unit => [(mo, .inr (7, [.int (nI 0), .int (nI n), .ref m1, .ref m2, .ref m3, .ref m4, .ref m5, .ref m6, .int (bI true), .int (bI lg), .int (bI td), .int (nI ld), .int (pI lt), .ref m7, .int (nI (qG kn T U n HI gr)), .int (nI mv), .ref m8, .ref m9, .ref m10, .ref m11, .ref m12, .ref m13, .int (nI la), .ref m14, .ref m15])), (m1, .inl (E 0, 12, .inl (aN T))), (m2, .inl (E 0, 12, .inl (aN U))), (m3, .inl (E 0, 4096, .inl (aN (qH kn T n HI)))), (m4, .inl (E 2, 4096, .inl (aN (qK kn T U n HI KD HE AV)))), (m5, .inl (E 3, 4096, .inl (aB (qE kn T U n HI HE)))), (m6, .inl (E 3, 4096, .inl (aB (qA kn T U n HI HE AV)))), (m7, .inl (E 0, 12, .inl (aN (qR kn T U n HI MR))))]) := by
  refine MI.of (by decide) (Nat.le_of_ble_eq_true rfl) ?_
  intro p e s m args below meth c A C hrt hlk hnm
  refine g_lv (lv' := [(0, .ref mo)]) rfl ?_
  refine g_aload_n C d_Mo_ideal_0 rfl 0 rfl ?_
  refine g_iconst (v := nI 0) C d_Mo_ideal_1 (by decide) ?_
  refine g_put (ws' := [(mo, .inr (7, [.int (nI 0), .int (nI n), .ref m1, .ref m2, .ref m3, .ref m4, .ref m5, .ref m6, .int (bI kn), .int (bI lg), .int (bI td), .int (nI ld), .int (pI lt), .ref m7, .int (nI gr), .int (nI mv), .ref m8, .ref m9, .ref m10, .ref m11, .ref m12, .ref m13, .int (nI la), .ref m14, .ref m15])), (m1, .inl (E 0, 12, .inl (aN T))), (m2, .inl (E 0, 12, .inl (aN U))), (m3, .inl (E 0, 4096, .inl (aN HI))), (m4, .inl (E 2, 4096, .inl (aN KD))), (m5, .inl (E 3, 4096, .inl (aB HE))), (m6, .inl (E 3, 4096, .inl (aB AV))), (m7, .inl (E 0, 12, .inl (aN MR)))]) C lay_Mo ty_Mo nm_Mo 0 rfl rfl 0 (by decide) m_634 rfl rfl rfl (Nat.le_of_ble_eq_true rfl) rfl d_Mo_ideal_2 ?_
  refine g_iconst (v := nI 1) C d_Mo_ideal_5 (by decide) ?_
  refine g_aload_n C d_Mo_ideal_6 rfl 0 rfl ?_
  refine g_get C lay_Mo 0 rfl rfl 1 (by decide) m_635 rfl d_Mo_ideal_7 ?_
  refine g_ishl1N C (by omega) d_Mo_ideal_10 ?_
  refine g_iconst (v := nI 1) C d_Mo_ideal_11 (by decide) ?_
  refine g_isubN C Nat.one_le_two_pow d_Mo_ideal_12 ?_
  refine g_istore_n (lv' := [(1, .int (nI ((2 ^ n) - 1))), (0, .ref mo)]) C d_Mo_ideal_13 rfl (by decide) rfl ?_
  refine g_iconst (v := nI 0) C d_Mo_ideal_14 (by decide) ?_
  refine g_istore_n (lv' := [(2, .int (nI 0)), (1, .int (nI ((2 ^ n) - 1))), (0, .ref mo)]) C d_Mo_ideal_15 rfl (by decide) rfl ?_
  have loop16 : ∀ (f : Nat) (i : Nat) (acc : Nat) (kn1 : Bool) (H1 : Nat → Nat) (K1 : Nat → Nat) (E1 : Nat → Bool) (A1 : Nat → Bool) (R1 : Nat → Nat) (g1 : Nat), (i ≤ 2 ^ n) → (RKs i kn T U n HI KD HE AV MR gr kn1 H1 K1 E1 A1 R1 g1) → (acc = metM (qK kn T U n HI KD HE AV) 1 (2 ^ n - 1) i) → 2 ^ n - i < f → GG p l e ({ frames := 4, cells := 0, slots := 0, locals := 91 } : Room) s m args below meth c (MQ below (va_Qi (fun (r : Int32) (_ : Unit) => r = nI (joiM (qK kn T U n HI KD HE AV) 4 (metM (qK kn T U n HI KD HE AV) 1 (2 ^ n - 1) (2 ^ n)) (2 ^ n))) (BC D A (fun _ : Unit => [(mo, .inr (7, [.int (nI 0), .int (nI n), .ref m1, .ref m2, .ref m3, .ref m4, .ref m5, .ref m6, .int (bI true), .int (bI lg), .int (bI td), .int (nI ld), .int (pI lt), .ref m7, .int (nI (qG kn T U n HI gr)), .int (nI mv), .ref m8, .ref m9, .ref m10, .ref m11, .ref m12, .ref m13, .int (nI la), .ref m14, .ref m15])), (m1, .inl (E 0, 12, .inl (aN T))), (m2, .inl (E 0, 12, .inl (aN U))), (m3, .inl (E 0, 4096, .inl (aN (qH kn T n HI)))), (m4, .inl (E 2, 4096, .inl (aN (qK kn T U n HI KD HE AV)))), (m5, .inl (E 3, 4096, .inl (aB (qE kn T U n HI HE)))), (m6, .inl (E 3, 4096, .inl (aB (qA kn T U n HI HE AV)))), (m7, .inl (E 0, 12, .inl (aN (qR kn T U n HI MR))))])) A) args s (({ frames := 4, cells := 0, slots := 0, locals := 91 } : Room)).cells (({ frames := 4, cells := 0, slots := 0, locals := 91 } : Room)).slots A) D A 4 0 0 16 [(0, .ref mo), (1, .int (nI acc)), (2, .int (nI i))] [] [(mo, .inr (7, [.int (nI 0), .int (nI n), .ref m1, .ref m2, .ref m3, .ref m4, .ref m5, .ref m6, .int (bI kn1), .int (bI lg), .int (bI td), .int (nI ld), .int (pI lt), .ref m7, .int (nI g1), .int (nI mv), .ref m8, .ref m9, .ref m10, .ref m11, .ref m12, .ref m13, .int (nI la), .ref m14, .ref m15])), (m1, .inl (E 0, 12, .inl (aN T))), (m2, .inl (E 0, 12, .inl (aN U))), (m3, .inl (E 0, 4096, .inl (aN H1))), (m4, .inl (E 2, 4096, .inl (aN K1))), (m5, .inl (E 3, 4096, .inl (aB E1))), (m6, .inl (E 3, 4096, .inl (aB A1))), (m7, .inl (E 0, 12, .inl (aN R1)))] := by
    intro f
    induction f with
    | zero => intro i acc kn1 H1 K1 E1 A1 R1 g1 hi hS hc hf; exact absurd hf (Nat.not_lt_zero _)
    | succ f ih =>
      intro i acc kn1 H1 K1 E1 A1 R1 g1 hi hS hc hf
      have ih16 := ih
      refine g_iload_n C d_Mo_ideal_16 rfl 2 rfl ?_
      refine g_iconst (v := nI 1) C d_Mo_ideal_17 (by decide) ?_
      refine g_aload_n C d_Mo_ideal_18 rfl 0 rfl ?_
      refine g_get C lay_Mo 0 rfl rfl 1 (by decide) m_635 rfl d_Mo_ideal_19 ?_
      refine g_ishl1N C (by omega) d_Mo_ideal_22 ?_
      refine g_icmp_geN (tgt := 49) C (by have := p12_le hn; omega) (pow_lt (by omega)) d_Mo_ideal_23 (by decide) (fun b0 => ?_) (fun b0 => ?_)
      · skip
        refine g_ws (ws' := [(mo, .inr (7, [.int (nI 0), .int (nI n), .ref m1, .ref m2, .ref m3, .ref m4, .ref m5, .ref m6, .int (bI true), .int (bI lg), .int (bI td), .int (nI ld), .int (pI lt), .ref m7, .int (nI (qG kn T U n HI gr)), .int (nI mv), .ref m8, .ref m9, .ref m10, .ref m11, .ref m12, .ref m13, .int (nI la), .ref m14, .ref m15])), (m1, .inl (E 0, 12, .inl (aN T))), (m2, .inl (E 0, 12, .inl (aN U))), (m3, .inl (E 0, 4096, .inl (aN (qH kn T n HI)))), (m4, .inl (E 2, 4096, .inl (aN (qK kn T U n HI KD HE AV)))), (m5, .inl (E 3, 4096, .inl (aB (qE kn T U n HI HE)))), (m6, .inl (E 3, 4096, .inl (aB (qA kn T U n HI HE AV)))), (m7, .inl (E 0, 12, .inl (aN (qR kn T U n HI MR))))]) (by obtain ⟨e1, e2, e3, e4, e5, e6, e7⟩ := hS.end_ (by have := Nat.one_le_two_pow (n := n); omega); rw [e1, e2, e3, e4, e5, e6, e7]) ?_
        refine g_iconst (v := nI 0) C d_Mo_ideal_49 (by decide) ?_
        refine g_istore_n (lv' := [(2, .int (nI 0)), (0, .ref mo), (1, .int (nI acc))]) C d_Mo_ideal_50 rfl (by decide) rfl ?_
        refine g_iconst (v := nI 0) C d_Mo_ideal_51 (by decide) ?_
        refine g_istore_n (lv' := [(3, .int (nI 0)), (2, .int (nI 0)), (0, .ref mo), (1, .int (nI acc))]) C d_Mo_ideal_52 rfl (by decide) rfl ?_
        have loop53 : ∀ (f : Nat) (j : Nat) (bst : Nat), (j ≤ 2 ^ n) → (bst = joiM (qK kn T U n HI KD HE AV) 4 acc j) → 2 ^ n - j < f → GG p l e ({ frames := 4, cells := 0, slots := 0, locals := 91 } : Room) s m args below meth c (MQ below (va_Qi (fun (r : Int32) (_ : Unit) => r = nI (joiM (qK kn T U n HI KD HE AV) 4 (metM (qK kn T U n HI KD HE AV) 1 (2 ^ n - 1) (2 ^ n)) (2 ^ n))) (BC D A (fun _ : Unit => [(mo, .inr (7, [.int (nI 0), .int (nI n), .ref m1, .ref m2, .ref m3, .ref m4, .ref m5, .ref m6, .int (bI true), .int (bI lg), .int (bI td), .int (nI ld), .int (pI lt), .ref m7, .int (nI (qG kn T U n HI gr)), .int (nI mv), .ref m8, .ref m9, .ref m10, .ref m11, .ref m12, .ref m13, .int (nI la), .ref m14, .ref m15])), (m1, .inl (E 0, 12, .inl (aN T))), (m2, .inl (E 0, 12, .inl (aN U))), (m3, .inl (E 0, 4096, .inl (aN (qH kn T n HI)))), (m4, .inl (E 2, 4096, .inl (aN (qK kn T U n HI KD HE AV)))), (m5, .inl (E 3, 4096, .inl (aB (qE kn T U n HI HE)))), (m6, .inl (E 3, 4096, .inl (aB (qA kn T U n HI HE AV)))), (m7, .inl (E 0, 12, .inl (aN (qR kn T U n HI MR))))])) A) args s (({ frames := 4, cells := 0, slots := 0, locals := 91 } : Room)).cells (({ frames := 4, cells := 0, slots := 0, locals := 91 } : Room)).slots A) D A 4 0 0 53 [(0, .ref mo), (1, .int (nI acc)), (2, .int (nI bst)), (3, .int (nI j))] [] [(mo, .inr (7, [.int (nI 0), .int (nI n), .ref m1, .ref m2, .ref m3, .ref m4, .ref m5, .ref m6, .int (bI true), .int (bI lg), .int (bI td), .int (nI ld), .int (pI lt), .ref m7, .int (nI (qG kn T U n HI gr)), .int (nI mv), .ref m8, .ref m9, .ref m10, .ref m11, .ref m12, .ref m13, .int (nI la), .ref m14, .ref m15])), (m1, .inl (E 0, 12, .inl (aN T))), (m2, .inl (E 0, 12, .inl (aN U))), (m3, .inl (E 0, 4096, .inl (aN (qH kn T n HI)))), (m4, .inl (E 2, 4096, .inl (aN (qK kn T U n HI KD HE AV)))), (m5, .inl (E 3, 4096, .inl (aB (qE kn T U n HI HE)))), (m6, .inl (E 3, 4096, .inl (aB (qA kn T U n HI HE AV)))), (m7, .inl (E 0, 12, .inl (aN (qR kn T U n HI MR))))] := by
          intro f
          induction f with
          | zero => intro j bst hj hd hf; exact absurd hf (Nat.not_lt_zero _)
          | succ f ih =>
            intro j bst hj hd hf
            have ih53 := ih
            refine g_iload_n C d_Mo_ideal_53 rfl 3 rfl ?_
            refine g_iconst (v := nI 1) C d_Mo_ideal_54 (by decide) ?_
            refine g_aload_n C d_Mo_ideal_55 rfl 0 rfl ?_
            refine g_get C lay_Mo 0 rfl rfl 1 (by decide) m_635 rfl d_Mo_ideal_56 ?_
            refine g_ishl1N C (by omega) d_Mo_ideal_59 ?_
            refine g_icmp_geN (tgt := 94) C (by have := p12_le hn; omega) (pow_lt (by omega)) d_Mo_ideal_60 (by decide) (fun b2 => ?_) (fun b2 => ?_)
            · skip
              refine g_iload_n C d_Mo_ideal_94 rfl 2 rfl ?_
              exact g_iret C hrt hlk () (congrArg nI (by rw [hd, hc, show j = 2 ^ n by omega, show i = 2 ^ n by omega])) rfl d_Mo_ideal_95
            · skip
              refine g_iload_n C d_Mo_ideal_63 rfl 3 rfl ?_
              refine g_iload_n C d_Mo_ideal_64 rfl 1 rfl ?_
              refine g_iconst (v := (-1)) C d_Mo_ideal_65 (by decide) ?_
              refine g_ixor C d_Mo_ideal_66 ?_
              refine g_iandD C d_Mo_ideal_67 ?_
              refine g_if_neN (tgt := 86) C (dif_lt (by have := p12_le hn; omega)) d_Mo_ideal_68 (by decide) (fun b3 => ?_) (fun b3 => ?_)
              · skip
                refine g_iload_n C d_Mo_ideal_86 rfl 2 rfl ?_
                refine g_istore_n (lv' := [(2, .int (nI bst)), (0, .ref mo), (1, .int (nI acc)), (3, .int (nI j))]) C d_Mo_ideal_87 rfl (by decide) rfl ?_
                refine g_iinc (lv' := [(3, .int (nI (j + 1))), (2, .int (nI bst)), (0, .ref mo), (1, .int (nI acc))]) C d_Mo_ideal_88 3 rfl (nI_1 _) (by decide) rfl ?_
                refine g_goto (tgt := 53) C d_Mo_ideal_91 (by decide) ?_
                refine g_perm [2, 3, 1, 0] rfl ?_
                exact ih53 (j + 1) bst (by omega) (by first | (simp [joiM, b3, b4, hd]; done) | (simp [joiM, b3, hd]; done)) (by omega)
              · skip
                refine g_aload_n C d_Mo_ideal_71 rfl 0 rfl ?_
                refine g_iconst (v := nI 4) C d_Mo_ideal_72 (by decide) ?_
                refine g_iload_n C d_Mo_ideal_73 rfl 3 rfl ?_
                refine g_iV (rest := []) (wr := []) C (o_isOf l D E mo m1 m2 m3 m4 m5 m6 m7 m8 m9 m10 m11 m12 m13 m14 m15 0 n true lg td ld lt (qG kn T U n HI gr) mv la T U (qH kn T n HI) (qK kn T U n HI KD HE AV) (qE kn T U n HI HE) (qA kn T U n HI HE AV) (qR kn T U n HI MR) 4 j hn hT hU (qH_b hT hHI) (qK_b hKD) (by decide) (by have := p12_le hn; omega)) rd_Mo_isOf m_794 m_796 m_31 rfl rfl (Nat.le_of_ble_eq_true rfl) (Nat.le_of_ble_eq_true rfl) (Nat.le_of_ble_eq_true rfl) (Nat.le_of_ble_eq_true rfl) rfl rfl (Nat.le_of_ble_eq_true rfl) d_Mo_ideal_74 [0, 1, 2, 3, 4, 5, 6, 7] [] rfl (by decide) rfl (by decide) (by decide) (fun r74 _ (hr74 : r74 = bI ((qK true T U n (qH kn T n HI) (qK kn T U n HI KD HE AV) (qE kn T U n HI HE) (qA kn T U n HI HE AV) j).testBit 4)) => ?_)
                subst hr74
                refine g_cells (ws' := [(mo, .inr (7, [.int (nI 0), .int (nI n), .ref m1, .ref m2, .ref m3, .ref m4, .ref m5, .ref m6, .int (bI true), .int (bI lg), .int (bI td), .int (nI ld), .int (pI lt), .ref m7, .int (nI (qG true T U n (qH kn T n HI) (qG kn T U n HI gr))), .int (nI mv), .ref m8, .ref m9, .ref m10, .ref m11, .ref m12, .ref m13, .int (nI la), .ref m14, .ref m15])), (m1, .inl (E 0, 12, .inl (aN T))), (m2, .inl (E 0, 12, .inl (aN U))), (m3, .inl (E 0, 4096, .inl (aN (qH true T n (qH kn T n HI))))), (m4, .inl (E 2, 4096, .inl (aN (qK true T U n (qH kn T n HI) (qK kn T U n HI KD HE AV) (qE kn T U n HI HE) (qA kn T U n HI HE AV))))), (m5, .inl (E 3, 4096, .inl (aB (qE true T U n (qH kn T n HI) (qE kn T U n HI HE))))), (m6, .inl (E 3, 4096, .inl (aB (qA true T U n (qH kn T n HI) (qE kn T U n HI HE) (qA kn T U n HI HE AV))))), (m7, .inl (E 0, 12, .inl (aN (qR true T U n (qH kn T n HI) (qR kn T U n HI MR)))))]) [0, 1, 2, 3, 4, 5, 6, 7] (by decide) rfl ?_
                refine g_top (show bI ((qK true T U n (qH kn T n HI) (qK kn T U n HI KD HE AV) (qE kn T U n HI HE) (qA kn T U n HI HE AV) j).testBit 4) = bI ((qK kn T U n HI KD HE AV j).testBit 4) from rfl) ?_
                refine g_ws (ws' := [(mo, .inr (7, [.int (nI 0), .int (nI n), .ref m1, .ref m2, .ref m3, .ref m4, .ref m5, .ref m6, .int (bI true), .int (bI lg), .int (bI td), .int (nI ld), .int (pI lt), .ref m7, .int (nI (qG kn T U n HI gr)), .int (nI mv), .ref m8, .ref m9, .ref m10, .ref m11, .ref m12, .ref m13, .int (nI la), .ref m14, .ref m15])), (m1, .inl (E 0, 12, .inl (aN T))), (m2, .inl (E 0, 12, .inl (aN U))), (m3, .inl (E 0, 4096, .inl (aN (qH kn T n HI)))), (m4, .inl (E 2, 4096, .inl (aN (qK kn T U n HI KD HE AV)))), (m5, .inl (E 3, 4096, .inl (aB (qE kn T U n HI HE)))), (m6, .inl (E 3, 4096, .inl (aB (qA kn T U n HI HE AV)))), (m7, .inl (E 0, 12, .inl (aN (qR kn T U n HI MR))))]) (rfl) ?_
                refine g_if_eqB (tgt := 86) C d_Mo_ideal_77 (by decide) (fun b4 => ?_) (fun b4 => ?_)
                · skip
                  refine g_iload_n C d_Mo_ideal_86 rfl 2 rfl ?_
                  refine g_istore_n (lv' := [(2, .int (nI bst)), (0, .ref mo), (1, .int (nI acc)), (3, .int (nI j))]) C d_Mo_ideal_87 rfl (by decide) rfl ?_
                  refine g_iinc (lv' := [(3, .int (nI (j + 1))), (2, .int (nI bst)), (0, .ref mo), (1, .int (nI acc))]) C d_Mo_ideal_88 3 rfl (nI_1 _) (by decide) rfl ?_
                  refine g_goto (tgt := 53) C d_Mo_ideal_91 (by decide) ?_
                  refine g_perm [2, 3, 1, 0] rfl ?_
                  exact ih53 (j + 1) bst (by omega) (by first | (simp [joiM, b3, b4, hd]; done) | (simp [joiM, b3, hd]; done)) (by omega)
                · skip
                  refine g_iload_n C d_Mo_ideal_80 rfl 2 rfl ?_
                  refine g_iload_n C d_Mo_ideal_81 rfl 3 rfl ?_
                  refine g_iorN C d_Mo_ideal_82 ?_
                  refine g_goto (tgt := 87) C d_Mo_ideal_83 (by decide) ?_
                  refine g_istore_n (lv' := [(2, .int (nI (bst ||| j))), (0, .ref mo), (1, .int (nI acc)), (3, .int (nI j))]) C d_Mo_ideal_87 rfl (by decide) rfl ?_
                  refine g_iinc (lv' := [(3, .int (nI (j + 1))), (2, .int (nI (bst ||| j))), (0, .ref mo), (1, .int (nI acc))]) C d_Mo_ideal_88 3 rfl (nI_1 _) (by decide) rfl ?_
                  refine g_goto (tgt := 53) C d_Mo_ideal_91 (by decide) ?_
                  refine g_perm [2, 3, 1, 0] rfl ?_
                  exact ih53 (j + 1) (bst ||| j) (by omega) (by first | (simp [joiM, b3, b4, hd]; done) | (simp [joiM, b3, hd]; done)) (by omega)
        refine g_perm [2, 3, 1, 0] rfl ?_
        exact loop53 (2 ^ n - 0 + 1) 0 0 (Nat.zero_le _) (rfl) (Nat.lt_succ_self _)
      · skip
        refine g_aload_n C d_Mo_ideal_26 rfl 0 rfl ?_
        refine g_iconst (v := nI 1) C d_Mo_ideal_27 (by decide) ?_
        refine g_iload_n C d_Mo_ideal_28 rfl 2 rfl ?_
        refine g_iV (rest := []) (wr := []) C (o_isOf l D E mo m1 m2 m3 m4 m5 m6 m7 m8 m9 m10 m11 m12 m13 m14 m15 0 n kn1 lg td ld lt g1 mv la T U H1 K1 E1 A1 R1 1 i hn hT hU (hS.hb hT hHI) (hS.kb hKD) (by decide) (by have := p12_le hn; omega)) rd_Mo_isOf m_794 m_796 m_31 rfl rfl (Nat.le_of_ble_eq_true rfl) (Nat.le_of_ble_eq_true rfl) (Nat.le_of_ble_eq_true rfl) (Nat.le_of_ble_eq_true rfl) rfl rfl (Nat.le_of_ble_eq_true rfl) d_Mo_ideal_29 [0, 1, 2, 3, 4, 5, 6, 7] [] rfl (by decide) rfl (by decide) (by decide) (fun r29 _ (hr29 : r29 = bI ((qK kn1 T U n H1 K1 E1 A1 i).testBit 1)) => ?_)
        subst hr29
        refine g_cells (ws' := [(mo, .inr (7, [.int (nI 0), .int (nI n), .ref m1, .ref m2, .ref m3, .ref m4, .ref m5, .ref m6, .int (bI true), .int (bI lg), .int (bI td), .int (nI ld), .int (pI lt), .ref m7, .int (nI (qG kn1 T U n H1 g1)), .int (nI mv), .ref m8, .ref m9, .ref m10, .ref m11, .ref m12, .ref m13, .int (nI la), .ref m14, .ref m15])), (m1, .inl (E 0, 12, .inl (aN T))), (m2, .inl (E 0, 12, .inl (aN U))), (m3, .inl (E 0, 4096, .inl (aN (qH kn1 T n H1)))), (m4, .inl (E 2, 4096, .inl (aN (qK kn1 T U n H1 K1 E1 A1)))), (m5, .inl (E 3, 4096, .inl (aB (qE kn1 T U n H1 E1)))), (m6, .inl (E 3, 4096, .inl (aB (qA kn1 T U n H1 E1 A1)))), (m7, .inl (E 0, 12, .inl (aN (qR kn1 T U n H1 R1))))]) [0, 1, 2, 3, 4, 5, 6, 7] (by decide) rfl ?_
        refine g_top (show bI ((qK kn1 T U n H1 K1 E1 A1 i).testBit 1) = bI ((qK kn T U n HI KD HE AV i).testBit 1) from by rw [hS.canon.2.1]) ?_
        refine g_ws (ws' := [(mo, .inr (7, [.int (nI 0), .int (nI n), .ref m1, .ref m2, .ref m3, .ref m4, .ref m5, .ref m6, .int (bI true), .int (bI lg), .int (bI td), .int (nI ld), .int (pI lt), .ref m7, .int (nI (qG kn T U n HI gr)), .int (nI mv), .ref m8, .ref m9, .ref m10, .ref m11, .ref m12, .ref m13, .int (nI la), .ref m14, .ref m15])), (m1, .inl (E 0, 12, .inl (aN T))), (m2, .inl (E 0, 12, .inl (aN U))), (m3, .inl (E 0, 4096, .inl (aN (qH kn T n HI)))), (m4, .inl (E 2, 4096, .inl (aN (qK kn T U n HI KD HE AV)))), (m5, .inl (E 3, 4096, .inl (aB (qE kn T U n HI HE)))), (m6, .inl (E 3, 4096, .inl (aB (qA kn T U n HI HE AV)))), (m7, .inl (E 0, 12, .inl (aN (qR kn T U n HI MR))))]) (by obtain ⟨e1, e2, e3, e4, e5, e6⟩ := hS.canon; rw [e1, e2, e3, e4, e5, e6]) ?_
        refine g_if_eqB (tgt := 41) C d_Mo_ideal_32 (by decide) (fun b1 => ?_) (fun b1 => ?_)
        · skip
          refine g_iload_n C d_Mo_ideal_41 rfl 1 rfl ?_
          refine g_istore_n (lv' := [(1, .int (nI acc)), (0, .ref mo), (2, .int (nI i))]) C d_Mo_ideal_42 rfl (by decide) rfl ?_
          refine g_iinc (lv' := [(2, .int (nI (i + 1))), (1, .int (nI acc)), (0, .ref mo)]) C d_Mo_ideal_43 2 rfl (nI_1 _) (by decide) rfl ?_
          refine g_goto (tgt := 16) C d_Mo_ideal_46 (by decide) ?_
          refine g_perm [2, 1, 0] rfl ?_
          exact ih16 (i + 1) acc true (qH kn T n HI) (qK kn T U n HI KD HE AV) (qE kn T U n HI HE) (qA kn T U n HI HE AV) (qR kn T U n HI MR) (qG kn T U n HI gr) (by omega) (RKs_s) (by simp [metM, b1, hc]) (by omega)
        · skip
          refine g_iload_n C d_Mo_ideal_35 rfl 1 rfl ?_
          refine g_iload_n C d_Mo_ideal_36 rfl 2 rfl ?_
          refine g_iandN C d_Mo_ideal_37 ?_
          refine g_goto (tgt := 42) C d_Mo_ideal_38 (by decide) ?_
          refine g_istore_n (lv' := [(1, .int (nI (acc &&& i))), (0, .ref mo), (2, .int (nI i))]) C d_Mo_ideal_42 rfl (by decide) rfl ?_
          refine g_iinc (lv' := [(2, .int (nI (i + 1))), (1, .int (nI (acc &&& i))), (0, .ref mo)]) C d_Mo_ideal_43 2 rfl (nI_1 _) (by decide) rfl ?_
          refine g_goto (tgt := 16) C d_Mo_ideal_46 (by decide) ?_
          refine g_perm [2, 1, 0] rfl ?_
          exact ih16 (i + 1) (acc &&& i) true (qH kn T n HI) (qK kn T U n HI KD HE AV) (qE kn T U n HI HE) (qA kn T U n HI HE AV) (qR kn T U n HI MR) (qG kn T U n HI gr) (by omega) (RKs_s) (by simp [metM, b1, hc]) (by omega)
  refine g_perm [2, 1, 0] rfl ?_
  exact loop16 (2 ^ n - 0 + 1) 0 ((2 ^ n) - 1) kn HI KD HE AV MR gr (Nat.zero_le _) (RKs_0) (rfl) (Nat.lt_succ_self _)

set_option maxHeartbeats 4000000 in
set_option maxRecDepth 100000 in
theorem o_move (l : Launch) (D : va_G) (E : Nat → ClassId) (mo : Nat) (m1 : Nat) (m2 : Nat) (m3 : Nat) (m4 : Nat) (m5 : Nat) (m6 : Nat) (m7 : Nat) (m8 : Nat) (m9 : Nat) (m10 : Nat) (m11 : Nat) (m12 : Nat) (m13 : Nat) (m14 : Nat) (m15 : Nat) (th : Nat) (n : Nat) (kn : Bool) (lg : Bool) (td : Bool) (ld : Nat) (lt : Nat) (gr : Nat) (mv : Nat) (la : Nat) (Sy : Nat → Nat) (Ay : Nat → Int32) (Dy : Nat → Nat) (x : Int32) (y : Int32) (hmv : mv ≤ 500) : MI l D E y_Mo_move (.code y_Mo_move k_Mo_move 3 (some .int)) ({ frames := 0, cells := 0, slots := 0, locals := 0 } : Room) [.ref mo, .int x, .int y] [(mo, .inr (7, [.int (nI th), .int (nI n), .ref m1, .ref m2, .ref m3, .ref m4, .ref m5, .ref m6, .int (bI kn), .int (bI lg), .int (bI td), .int (nI ld), .int (pI lt), .ref m7, .int (nI gr), .int (nI mv), .ref m8, .ref m9, .ref m10, .ref m11, .ref m12, .ref m13, .int (nI la), .ref m14, .ref m15])), (m8, .inl (E 0, 500, .inl (aN Sy))), (m9, .inl (E 0, 500, .inl Ay)), (m10, .inl (E 0, 500, .inl (aN Dy)))] (fun (r : Int32) (_ : Unit) => r = tellF mv Sy Ay Dy x y) (fun _ : Unit => [(mo, .inr (7, [.int (nI 0), .int (nI n), .ref m1, .ref m2, .ref m3, .ref m4, .ref m5, .ref m6, .int (bI kn), .int (bI lg), .int (bI td), .int (nI ld), .int (pI lt), .ref m7, .int (nI gr), .int (nI mv), .ref m8, .ref m9, .ref m10, .ref m11, .ref m12, .ref m13, .int (nI la), .ref m14, .ref m15])), (m8, .inl (E 0, 500, .inl (aN Sy))), (m9, .inl (E 0, 500, .inl Ay)), (m10, .inl (E 0, 500, .inl (aN Dy)))]) := by
  refine MI.of (by decide) (Nat.le_of_ble_eq_true rfl) ?_
  intro p e s m args below meth c A C hrt hlk hnm
  refine g_lv (lv' := [(0, .ref mo), (1, .int x), (2, .int y)]) rfl ?_
  refine g_aload_n C d_Mo_move_0 rfl 0 rfl ?_
  refine g_iconst (v := nI 0) C d_Mo_move_1 (by decide) ?_
  refine g_put (ws' := [(mo, .inr (7, [.int (nI 0), .int (nI n), .ref m1, .ref m2, .ref m3, .ref m4, .ref m5, .ref m6, .int (bI kn), .int (bI lg), .int (bI td), .int (nI ld), .int (pI lt), .ref m7, .int (nI gr), .int (nI mv), .ref m8, .ref m9, .ref m10, .ref m11, .ref m12, .ref m13, .int (nI la), .ref m14, .ref m15])), (m8, .inl (E 0, 500, .inl (aN Sy))), (m9, .inl (E 0, 500, .inl Ay)), (m10, .inl (E 0, 500, .inl (aN Dy)))]) C lay_Mo ty_Mo nm_Mo 0 rfl rfl 0 (by decide) m_634 rfl rfl rfl (Nat.le_of_ble_eq_true rfl) rfl d_Mo_move_2 ?_
  refine g_iload_n C d_Mo_move_5 rfl 1 rfl ?_
  refine g_if_lt (tgt := 17) C d_Mo_move_6 (by decide) (fun b0 => ?_) (fun b0 => ?_)
  · skip
    refine g_iconst (v := (-1)) C d_Mo_move_17 (by decide) ?_
    exact g_iret C hrt hlk () (by rw [tellF_no (by simp_all [inR])]) rfl d_Mo_move_18
  · skip
    refine g_iload_n C d_Mo_move_9 rfl 1 rfl ?_
    refine g_aload_n C d_Mo_move_10 rfl 0 rfl ?_
    refine g_get C lay_Mo 0 rfl rfl 15 (by decide) m_649 rfl d_Mo_move_11 ?_
    refine g_icmp_lt (tgt := 19) C d_Mo_move_14 (by decide) (fun b1 => ?_) (fun b1 => ?_)
    · skip
      refine g_iload_n C d_Mo_move_19 rfl 2 rfl ?_
      refine g_if_ne (tgt := 32) C d_Mo_move_20 (by decide) (fun b2 => ?_) (fun b2 => ?_)
      · skip
        refine g_iload_n C d_Mo_move_32 rfl 2 rfl ?_
        refine g_iconst (v := nI 1) C d_Mo_move_33 (by decide) ?_
        refine g_icmp_ne (tgt := 46) C d_Mo_move_34 (by decide) (fun b3 => ?_) (fun b3 => ?_)
        · skip
          refine g_iload_n C d_Mo_move_46 rfl 2 rfl ?_
          refine g_iconst (v := nI 2) C d_Mo_move_47 (by decide) ?_
          refine g_icmp_ne (tgt := 60) C d_Mo_move_48 (by decide) (fun b4 => ?_) (fun b4 => ?_)
          · skip
            refine g_iconst (v := (-1)) C d_Mo_move_60 (by decide) ?_
            exact g_iret C hrt hlk () (by rw [tellF_dn (by simp_all [inR]) b2 b3 b4]) rfl d_Mo_move_61
          · skip
            refine g_aload_n C d_Mo_move_51 rfl 0 rfl ?_
            refine g_get C lay_Mo 0 rfl rfl 18 (by decide) m_652 rfl d_Mo_move_52 ?_
            refine g_iload_n C d_Mo_move_55 rfl 1 rfl ?_
            obtain ⟨j, hj, rfl⟩ := inR_of (x := x) (n := mv) (by simp_all [inR])
            refine g_ialdN C 3 rfl (by omega) (by decide) d_Mo_move_56 ?_
            refine g_top (show (aN Dy) j = nI (Dy j) from rfl) ?_
            refine g_goto (tgt := 61) C d_Mo_move_57 (by decide) ?_
            exact g_iret C hrt hlk () (by simp only [tellF, inR_nI (show j < 2 ^ 31 by omega) (show mv < 2 ^ 31 by omega), nI_clamp (show j < 2 ^ 31 by omega), hj, decide_true, if_true]; rw [if_neg b2, if_neg (show ¬ y = 1 from b3), if_pos (show y = 2 from b4)]) rfl d_Mo_move_61
        · skip
          refine g_aload_n C d_Mo_move_37 rfl 0 rfl ?_
          refine g_get C lay_Mo 0 rfl rfl 17 (by decide) m_651 rfl d_Mo_move_38 ?_
          refine g_iload_n C d_Mo_move_41 rfl 1 rfl ?_
          obtain ⟨j, hj, rfl⟩ := inR_of (x := x) (n := mv) (by simp_all [inR])
          refine g_ialdN C 2 rfl (by omega) (by decide) d_Mo_move_42 ?_
          refine g_goto (tgt := 61) C d_Mo_move_43 (by decide) ?_
          exact g_iret C hrt hlk () (by simp only [tellF, inR_nI (show j < 2 ^ 31 by omega) (show mv < 2 ^ 31 by omega), nI_clamp (show j < 2 ^ 31 by omega), hj, decide_true, if_true]; rw [if_neg b2, if_pos (show y = 1 from b3)]) rfl d_Mo_move_61
      · skip
        refine g_aload_n C d_Mo_move_23 rfl 0 rfl ?_
        refine g_get C lay_Mo 0 rfl rfl 16 (by decide) m_650 rfl d_Mo_move_24 ?_
        refine g_iload_n C d_Mo_move_27 rfl 1 rfl ?_
        obtain ⟨j, hj, rfl⟩ := inR_of (x := x) (n := mv) (by simp_all [inR])
        refine g_ialdN C 1 rfl (by omega) (by decide) d_Mo_move_28 ?_
        refine g_top (show (aN Sy) j = nI (Sy j) from rfl) ?_
        refine g_goto (tgt := 61) C d_Mo_move_29 (by decide) ?_
        exact g_iret C hrt hlk () (by simp only [tellF, inR_nI (show j < 2 ^ 31 by omega) (show mv < 2 ^ 31 by omega), nI_clamp (show j < 2 ^ 31 by omega), hj, decide_true, if_true]; rw [if_pos b2]) rfl d_Mo_move_61
    · skip
      refine g_iconst (v := (-1)) C d_Mo_move_17 (by decide) ?_
      exact g_iret C hrt hlk () (by rw [tellF_no (by simp_all [inR])]) rfl d_Mo_move_18

set_option maxHeartbeats 4000000 in
set_option maxRecDepth 100000 in
theorem o_against (l : Launch) (D : va_G) (E : Nat → ClassId) (mo : Nat) (m1 : Nat) (m2 : Nat) (m3 : Nat) (m4 : Nat) (m5 : Nat) (m6 : Nat) (m7 : Nat) (m8 : Nat) (m9 : Nat) (m10 : Nat) (m11 : Nat) (m12 : Nat) (m13 : Nat) (m14 : Nat) (m15 : Nat) (th : Nat) (n : Nat) (kn : Bool) (lg : Bool) (td : Bool) (ld : Nat) (lt : Nat) (gr : Nat) (mv : Nat) (la : Nat) (U : Nat → Nat) (MR : Nat → Nat) (a : Nat) (hn : n ≤ 12) (ha : a < 12) (hU : ∀ a, U a < 4096) (hMR : ∀ a, MR a < 4096) : MI l D E y_Mo_against (.code y_Mo_against k_Mo_against 5 (some .int)) ({ frames := 0, cells := 0, slots := 0, locals := 0 } : Room) [.ref mo, .int (nI a)] [(mo, .inr (7, [.int (nI th), .int (nI n), .ref m1, .ref m2, .ref m3, .ref m4, .ref m5, .ref m6, .int (bI kn), .int (bI lg), .int (bI td), .int (nI ld), .int (pI lt), .ref m7, .int (nI gr), .int (nI mv), .ref m8, .ref m9, .ref m10, .ref m11, .ref m12, .ref m13, .int (nI la), .ref m14, .ref m15])), (m2, .inl (E 0, 12, .inl (aN U))), (m7, .inl (E 0, 12, .inl (aN MR)))] (fun (r : Int32) (_ : Unit) => r = oI (agU U MR a n n)) (fun _ : Unit => [(mo, .inr (7, [.int (nI th), .int (nI n), .ref m1, .ref m2, .ref m3, .ref m4, .ref m5, .ref m6, .int (bI kn), .int (bI lg), .int (bI td), .int (nI ld), .int (pI lt), .ref m7, .int (nI gr), .int (nI mv), .ref m8, .ref m9, .ref m10, .ref m11, .ref m12, .ref m13, .int (nI la), .ref m14, .ref m15])), (m2, .inl (E 0, 12, .inl (aN U))), (m7, .inl (E 0, 12, .inl (aN MR)))]) := by
  refine MI.of (by decide) (Nat.le_of_ble_eq_true rfl) ?_
  intro p e s m args below meth c A C hrt hlk hnm
  refine g_lv (lv' := [(0, .ref mo), (1, .int (nI a))]) rfl ?_
  refine g_iconst (v := (-1)) C d_Mo_against_0 (by decide) ?_
  refine g_istore_n (lv' := [(2, .int (-1)), (0, .ref mo), (1, .int (nI a))]) C d_Mo_against_1 rfl (by decide) rfl ?_
  refine g_aload_n C d_Mo_against_2 rfl 1 rfl ?_
  refine g_get C lay_Mo 0 rfl rfl 1 (by decide) m_635 rfl d_Mo_against_3 ?_
  refine g_iconst (v := nI 1) C d_Mo_against_6 (by decide) ?_
  refine g_isub C d_Mo_against_7 ?_
  refine g_istore_n (lv' := [(3, .int (pI n)), (2, .int (-1)), (0, .ref mo), (1, .int (nI a))]) C d_Mo_against_8 rfl (by decide) rfl ?_
  have loop9 : ∀ (f : Nat) (i : Nat) (o : Option Nat), (i ≤ n) → (o = agU U MR a n (n - i)) → i < f → GG p l e ({ frames := 0, cells := 0, slots := 0, locals := 0 } : Room) s m args below meth c (MQ below (va_Qi (fun (r : Int32) (_ : Unit) => r = oI (agU U MR a n n)) (BC D A (fun _ : Unit => [(mo, .inr (7, [.int (nI th), .int (nI n), .ref m1, .ref m2, .ref m3, .ref m4, .ref m5, .ref m6, .int (bI kn), .int (bI lg), .int (bI td), .int (nI ld), .int (pI lt), .ref m7, .int (nI gr), .int (nI mv), .ref m8, .ref m9, .ref m10, .ref m11, .ref m12, .ref m13, .int (nI la), .ref m14, .ref m15])), (m2, .inl (E 0, 12, .inl (aN U))), (m7, .inl (E 0, 12, .inl (aN MR)))])) A) args s (({ frames := 0, cells := 0, slots := 0, locals := 0 } : Room)).cells (({ frames := 0, cells := 0, slots := 0, locals := 0 } : Room)).slots A) D A 5 0 0 9 [(0, .ref mo), (1, .int (nI a)), (2, .int (oI o)), (3, .int (pI i))] [] [(mo, .inr (7, [.int (nI th), .int (nI n), .ref m1, .ref m2, .ref m3, .ref m4, .ref m5, .ref m6, .int (bI kn), .int (bI lg), .int (bI td), .int (nI ld), .int (pI lt), .ref m7, .int (nI gr), .int (nI mv), .ref m8, .ref m9, .ref m10, .ref m11, .ref m12, .ref m13, .int (nI la), .ref m14, .ref m15])), (m2, .inl (E 0, 12, .inl (aN U))), (m7, .inl (E 0, 12, .inl (aN MR)))] := by
    intro f
    induction f with
    | zero => intro i o hi ho hf; exact absurd hf (Nat.not_lt_zero _)
    | succ f ih =>
      intro i o hi ho hf
      have ih9 := ih
      refine g_iload_n C d_Mo_against_9 rfl 3 rfl ?_
      refine g_if_ltP (tgt := 80) C (by omega) d_Mo_against_10 (by decide) (fun b0 => ?_) (fun z0 b0 => ?_)
      · skip
        refine g_iload_n C d_Mo_against_80 rfl 2 rfl ?_
        exact g_iret C hrt hlk () (by rw [ho, b0, Nat.sub_zero]) rfl d_Mo_against_81
      · skip
        refine g_lv (lv' := [(0, .ref mo), (1, .int (nI a)), (2, .int (oI o)), (3, .int (nI z0))]) (by rw [b0, pI_s]) ?_
        refine g_aload_n C d_Mo_against_13 rfl 0 rfl ?_
        refine g_get C lay_Mo 0 rfl rfl 3 (by decide) m_637 rfl d_Mo_against_14 ?_
        refine g_iload_n C d_Mo_against_17 rfl 1 rfl ?_
        refine g_ialdN C 1 rfl (by omega) (by decide) d_Mo_against_18 ?_
        refine g_top (show (aN U) a = nI (U a) from rfl) ?_
        refine g_iload_n C d_Mo_against_19 rfl 3 rfl ?_
        refine g_ishrN C (lt4 (hU _)) (by omega) d_Mo_against_20 ?_
        refine g_iconst (v := nI 1) C d_Mo_against_21 (by decide) ?_
        refine g_iandB C d_Mo_against_22 ?_
        refine g_iconst (v := nI 1) C d_Mo_against_23 (by decide) ?_
        refine g_top (show nI 1 = bI true from rfl) ?_
        refine g_icmp_neB (tgt := 40) C d_Mo_against_24 (by decide) (fun b1 => ?_) (fun b1 => ?_)
        · skip
          refine g_iconst (v := nI 0) C d_Mo_against_40 (by decide) ?_
          refine g_istore (lv' := [(4, .int (nI 0)), (0, .ref mo), (1, .int (nI a)), (2, .int (oI o)), (3, .int (nI z0))]) C d_Mo_against_41 (by decide) rfl ?_
          refine g_iload C d_Mo_against_43 0 rfl ?_
          refine g_if_eqN (tgt := 72) C (by decide) d_Mo_against_45 (by decide) (fun _ => ?_) (fun h => absurd h (by decide))
          refine g_iload_n C d_Mo_against_72 rfl 3 rfl ?_
          refine g_istore_n (lv' := [(2, .int (oI o)), (4, .int (nI 0)), (0, .ref mo), (1, .int (nI a)), (3, .int (nI z0))]) C d_Mo_against_73 rfl (by decide) rfl ?_
          refine g_iinc (lv' := [(3, .int (pI z0)), (2, .int (oI o)), (4, .int (nI 0)), (0, .ref mo), (1, .int (nI a))]) C d_Mo_against_74 4 rfl (pI_of _) (by decide) rfl ?_
          refine g_goto (tgt := 9) C d_Mo_against_77 (by decide) ?_
          refine g_perm [3, 4, 1, 0] rfl ?_
          exact ih9 z0 o (by omega) (by subst b0; first | exact AG_y0 ho hi b1 b2 | exact AG_y1 ho hi b1 b2 b5 | exact AG_n2 ho hi b5 | exact AG_n1 ho hi (fun q => b1 q.1) | exact AG_n1 ho hi (fun q => by omega)) (by omega)
        · skip
          refine g_aload_n C d_Mo_against_27 rfl 0 rfl ?_
          refine g_get C lay_Mo 0 rfl rfl 13 (by decide) m_647 rfl d_Mo_against_28 ?_
          refine g_iload_n C d_Mo_against_31 rfl 3 rfl ?_
          refine g_ialdN C 2 rfl (by omega) (by decide) d_Mo_against_32 ?_
          refine g_top (show (aN MR) z0 = nI (MR z0) from rfl) ?_
          refine g_if_leN (tgt := 40) C (lt4 (hMR _)) d_Mo_against_33 (by decide) (fun b2 => ?_) (fun b2 => ?_)
          · skip
            refine g_iconst (v := nI 0) C d_Mo_against_40 (by decide) ?_
            refine g_istore (lv' := [(4, .int (nI 0)), (0, .ref mo), (1, .int (nI a)), (2, .int (oI o)), (3, .int (nI z0))]) C d_Mo_against_41 (by decide) rfl ?_
            refine g_iload C d_Mo_against_43 0 rfl ?_
            refine g_if_eqN (tgt := 72) C (by decide) d_Mo_against_45 (by decide) (fun _ => ?_) (fun h => absurd h (by decide))
            refine g_iload_n C d_Mo_against_72 rfl 3 rfl ?_
            refine g_istore_n (lv' := [(2, .int (oI o)), (4, .int (nI 0)), (0, .ref mo), (1, .int (nI a)), (3, .int (nI z0))]) C d_Mo_against_73 rfl (by decide) rfl ?_
            refine g_iinc (lv' := [(3, .int (pI z0)), (2, .int (oI o)), (4, .int (nI 0)), (0, .ref mo), (1, .int (nI a))]) C d_Mo_against_74 4 rfl (pI_of _) (by decide) rfl ?_
            refine g_goto (tgt := 9) C d_Mo_against_77 (by decide) ?_
            refine g_perm [3, 4, 1, 0] rfl ?_
            exact ih9 z0 o (by omega) (by subst b0; first | exact AG_y0 ho hi b1 b2 | exact AG_y1 ho hi b1 b2 b5 | exact AG_n2 ho hi b5 | exact AG_n1 ho hi (fun q => b1 q.1) | exact AG_n1 ho hi (fun q => by omega)) (by omega)
          · skip
            refine g_iconst (v := nI 1) C d_Mo_against_36 (by decide) ?_
            refine g_goto (tgt := 41) C d_Mo_against_37 (by decide) ?_
            refine g_istore (lv' := [(4, .int (nI 1)), (0, .ref mo), (1, .int (nI a)), (2, .int (oI o)), (3, .int (nI z0))]) C d_Mo_against_41 (by decide) rfl ?_
            refine g_iload C d_Mo_against_43 0 rfl ?_
            refine g_if_eqN (tgt := 72) C (by decide) d_Mo_against_45 (by decide) (fun h => absurd h (by decide)) (fun _ => ?_)
            refine g_iload_n C d_Mo_against_48 rfl 3 rfl ?_
            refine g_iconst (v := (-1)) C d_Mo_against_49 (by decide) ?_
            refine g_icmp_eqO (tgt := 68) C (fun j q => by subst q; have := AG_lt (by omega) ho.symm; omega) d_Mo_against_50 (by decide) (fun b4 => ?_) (fun j4 b4 => ?_)
            · skip
              subst b4
              refine g_iload_n C d_Mo_against_68 rfl 4 rfl ?_
              refine g_goto (tgt := 73) C d_Mo_against_69 (by decide) ?_
              refine g_istore_n (lv' := [(2, .int (nI z0)), (4, .int (nI 1)), (0, .ref mo), (1, .int (nI a)), (3, .int (nI z0))]) C d_Mo_against_73 rfl (by decide) rfl ?_
              refine g_iinc (lv' := [(3, .int (pI z0)), (2, .int (nI z0)), (4, .int (nI 1)), (0, .ref mo), (1, .int (nI a))]) C d_Mo_against_74 4 rfl (pI_of _) (by decide) rfl ?_
              refine g_goto (tgt := 9) C d_Mo_against_77 (by decide) ?_
              refine g_lv (lv' := [(3, .int (pI z0)), (2, .int (oI (some z0))), (4, .int (nI 1)), (0, .ref mo), (1, .int (nI a))]) rfl ?_
              refine g_perm [3, 4, 1, 0] rfl ?_
              exact ih9 z0 (some z0) (by omega) (by subst b0; first | exact AG_y0 ho hi b1 b2 | exact AG_y1 ho hi b1 b2 b5 | exact AG_n2 ho hi b5 | exact AG_n1 ho hi (fun q => b1 q.1) | exact AG_n1 ho hi (fun q => by omega)) (by omega)
            · skip
              subst b4
              refine g_aload_n C d_Mo_against_53 rfl 1 rfl ?_
              refine g_get C lay_Mo 0 rfl rfl 13 (by decide) m_647 rfl d_Mo_against_54 ?_
              refine g_iload_n C d_Mo_against_57 rfl 4 rfl ?_
              refine g_ialdN C 2 rfl (by omega) (by decide) d_Mo_against_58 ?_
              refine g_top (show (aN MR) z0 = nI (MR z0) from rfl) ?_
              refine g_aload_n C d_Mo_against_59 rfl 1 rfl ?_
              refine g_get C lay_Mo 0 rfl rfl 13 (by decide) m_647 rfl d_Mo_against_60 ?_
              refine g_iload_n C d_Mo_against_63 rfl 3 rfl ?_
              refine g_ialdN C 2 rfl (by have := AG_lt (by omega) ho.symm; omega) (by decide) d_Mo_against_64 ?_
              refine g_top (show (aN MR) j4 = nI (MR j4) from rfl) ?_
              refine g_icmp_gtN (tgt := 72) C (lt4 (hMR _)) (lt4 (hMR _)) d_Mo_against_65 (by decide) (fun b5 => ?_) (fun b5 => ?_)
              · skip
                refine g_iload_n C d_Mo_against_72 rfl 3 rfl ?_
                refine g_istore_n (lv' := [(2, .int (nI j4)), (4, .int (nI 1)), (0, .ref mo), (1, .int (nI a)), (3, .int (nI z0))]) C d_Mo_against_73 rfl (by decide) rfl ?_
                refine g_iinc (lv' := [(3, .int (pI z0)), (2, .int (nI j4)), (4, .int (nI 1)), (0, .ref mo), (1, .int (nI a))]) C d_Mo_against_74 4 rfl (pI_of _) (by decide) rfl ?_
                refine g_goto (tgt := 9) C d_Mo_against_77 (by decide) ?_
                refine g_lv (lv' := [(3, .int (pI z0)), (2, .int (oI (some j4))), (4, .int (nI 1)), (0, .ref mo), (1, .int (nI a))]) rfl ?_
                refine g_perm [3, 4, 1, 0] rfl ?_
                exact ih9 z0 (some j4) (by omega) (by subst b0; first | exact AG_y0 ho hi b1 b2 | exact AG_y1 ho hi b1 b2 b5 | exact AG_n2 ho hi b5 | exact AG_n1 ho hi (fun q => b1 q.1) | exact AG_n1 ho hi (fun q => by omega)) (by omega)
              · skip
                refine g_iload_n C d_Mo_against_68 rfl 4 rfl ?_
                refine g_goto (tgt := 73) C d_Mo_against_69 (by decide) ?_
                refine g_istore_n (lv' := [(2, .int (nI z0)), (4, .int (nI 1)), (0, .ref mo), (1, .int (nI a)), (3, .int (nI z0))]) C d_Mo_against_73 rfl (by decide) rfl ?_
                refine g_iinc (lv' := [(3, .int (pI z0)), (2, .int (nI z0)), (4, .int (nI 1)), (0, .ref mo), (1, .int (nI a))]) C d_Mo_against_74 4 rfl (pI_of _) (by decide) rfl ?_
                refine g_goto (tgt := 9) C d_Mo_against_77 (by decide) ?_
                refine g_lv (lv' := [(3, .int (pI z0)), (2, .int (oI (some z0))), (4, .int (nI 1)), (0, .ref mo), (1, .int (nI a))]) rfl ?_
                refine g_perm [3, 4, 1, 0] rfl ?_
                exact ih9 z0 (some z0) (by omega) (by subst b0; first | exact AG_y0 ho hi b1 b2 | exact AG_y1 ho hi b1 b2 b5 | exact AG_n2 ho hi b5 | exact AG_n1 ho hi (fun q => b1 q.1) | exact AG_n1 ho hi (fun q => by omega)) (by omega)
  refine g_lv (lv' := [(3, .int (pI n)), (2, .int (oI none)), (0, .ref mo), (1, .int (nI a))]) rfl ?_
  refine g_perm [2, 3, 1, 0] rfl ?_
  exact loop9 (n + 1) n none (Nat.le_refl _) (by rw [Nat.sub_self]; rfl) (Nat.lt_succ_self _)
