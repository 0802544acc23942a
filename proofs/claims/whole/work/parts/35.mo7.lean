set_option maxHeartbeats 4000000 in
set_option maxRecDepth 100000 in
theorem o_circles (l : Launch) (D : va_G) (E : Nat → ClassId) (mo : Nat) (m1 : Nat) (m2 : Nat) (m3 : Nat) (m4 : Nat) (m5 : Nat) (m6 : Nat) (m7 : Nat) (m8 : Nat) (m9 : Nat) (m10 : Nat) (m11 : Nat) (m12 : Nat) (m13 : Nat) (m14 : Nat) (m15 : Nat) (th : Nat) (n : Nat) (kn : Bool) (lg : Bool) (td : Bool) (ld : Nat) (lt : Nat) (gr : Nat) (mv : Nat) (la : Nat) (T : Nat → Nat) (MX : Nat → Nat) (MC : Nat → Int32) (hn : n ≤ 12) (hT : ∀ a, T a < 4096) (hMX : ∀ a, MX a < 4096) (hok : ∀ k, (mnS (mrX T n MX) n (ovI MC n) k).2 ≠ 2 ^ n - 1 → ∃ a, nxU (mrX T n MX) n (mnS (mrX T n MX) n (ovI MC n) k).2 n = some a ∧ ((frM (mrX T n MX) a n &&& (mrX T n MX) a).testBit a = true ∧ frM (mrX T n MX) a n &&& (mrX T n MX) a < 2 ^ n)) : MI l D E y_Mo_circles (.code y_Mo_circles k_Mo_circles 1 (some .int)) ({ frames := 3, cells := 0, slots := 0, locals := 69 } : Room) [.ref mo] [(mo, .inr (7, [.int (nI th), .int (nI n), .ref m1, .ref m2, .ref m3, .ref m4, .ref m5, .ref m6, .int (bI kn), .int (bI lg), .int (bI td), .int (nI ld), .int (pI lt), .ref m7, .int (nI gr), .int (nI mv), .ref m8, .ref m9, .ref m10, .ref m11, .ref m12, .ref m13, .int (nI la), .ref m14, .ref m15])), (m1, .inl (E 0, 12, .inl (aN T))), (m14, .inl (E 0, 12, .inl (aN MX))), (m15, .inl (E 0, 12, .inl MC))] (fun (r : Int32) (u : (Nat → Int32) × Nat) => match u with | (V, z) => (r = nI z) ∧ (mnS (mrX T n MX) n (ovI MC n) z = (V, 2 ^ n - 1)) ∧ (z ≤ 4096) ∧ (∀ j, j < z → (mnS (mrX T n MX) n (ovI MC n) j).2 ≠ 2 ^ n - 1)) (fun (u : (Nat → Int32) × Nat) => match u with | (V, z) => [(mo, .inr (7, [.int (nI 0), .int (nI n), .ref m1, .ref m2, .ref m3, .ref m4, .ref m5, .ref m6, .int (bI kn), .int (bI lg), .int (bI td), .int (nI ld), .int (pI lt), .ref m7, .int (nI gr), .int (nI mv), .ref m8, .ref m9, .ref m10, .ref m11, .ref m12, .ref m13, .int (nI la), .ref m14, .ref m15])), (m1, .inl (E 0, 12, .inl (aN T))), (m14, .inl (E 0, 12, .inl (aN (mrX T n MX)))), (m15, .inl (E 0, 12, .inl V))]) := by
  refine MI.of (by decide) (Nat.le_of_ble_eq_true rfl) ?_
  intro p e s m args below meth c A C hrt hlk hnm
  refine g_lv (lv' := [(0, .ref mo)]) rfl ?_
  refine g_aload_n C d_Mo_circles_0 rfl 0 rfl ?_
  refine g_iconst (v := nI 0) C d_Mo_circles_1 (by decide) ?_
  refine g_put (ws' := [(mo, .inr (7, [.int (nI 0), .int (nI n), .ref m1, .ref m2, .ref m3, .ref m4, .ref m5, .ref m6, .int (bI kn), .int (bI lg), .int (bI td), .int (nI ld), .int (pI lt), .ref m7, .int (nI gr), .int (nI mv), .ref m8, .ref m9, .ref m10, .ref m11, .ref m12, .ref m13, .int (nI la), .ref m14, .ref m15])), (m1, .inl (E 0, 12, .inl (aN T))), (m14, .inl (E 0, 12, .inl (aN MX))), (m15, .inl (E 0, 12, .inl MC))]) C lay_Mo ty_Mo nm_Mo 0 rfl rfl 0 (by decide) m_634 rfl rfl rfl (Nat.le_of_ble_eq_true rfl) rfl d_Mo_circles_2 ?_
  refine g_aload_n C d_Mo_circles_5 rfl 0 rfl ?_
  refine g_iV (rest := []) (wr := []) C (o_numbers l D E mo m1 m2 m3 m4 m5 m6 m7 m8 m9 m10 m11 m12 m13 m14 m15 0 n kn lg td ld lt gr mv la T MX MC hn hT hMX hok) rd_Mo_numbers m_858 m_860 m_34 rfl rfl (Nat.le_of_ble_eq_true rfl) (Nat.le_of_ble_eq_true rfl) (Nat.le_of_ble_eq_true rfl) (Nat.le_of_ble_eq_true rfl) rfl rfl (Nat.le_of_ble_eq_true rfl) d_Mo_circles_6 [0, 1, 2, 3] [] rfl (by decide) rfl (by decide) (by decide) (fun r6 u6 hu6 => ?_)
  obtain ⟨V_1, z_2⟩ := u6
  obtain ⟨hr6, hm6, hz6, hmin6⟩ : (r6 = nI z_2) ∧ (mnS (mrX T n MX) n (ovI MC n) z_2 = (V_1, 2 ^ n - 1)) ∧ (z_2 ≤ 4096) ∧ (∀ j, j < z_2 → (mnS (mrX T n MX) n (ovI MC n) j).2 ≠ 2 ^ n - 1) := hu6
  subst hr6
  refine g_cells (ws' := [(mo, .inr (7, [.int (nI 0), .int (nI n), .ref m1, .ref m2, .ref m3, .ref m4, .ref m5, .ref m6, .int (bI kn), .int (bI lg), .int (bI td), .int (nI ld), .int (pI lt), .ref m7, .int (nI gr), .int (nI mv), .ref m8, .ref m9, .ref m10, .ref m11, .ref m12, .ref m13, .int (nI la), .ref m14, .ref m15])), (m1, .inl (E 0, 12, .inl (aN T))), (m14, .inl (E 0, 12, .inl (aN (mrX T n MX)))), (m15, .inl (E 0, 12, .inl V_1))]) [0, 1, 2, 3] (by decide) rfl ?_
  exact g_iret C hrt hlk (V_1, z_2) (⟨rfl, hm6, hz6, hmin6⟩) rfl d_Mo_circles_9

set_option maxHeartbeats 4000000 in
set_option maxRecDepth 100000 in
theorem o_circle (l : Launch) (D : va_G) (E : Nat → ClassId) (mo : Nat) (m1 : Nat) (m2 : Nat) (m3 : Nat) (m4 : Nat) (m5 : Nat) (m6 : Nat) (m7 : Nat) (m8 : Nat) (m9 : Nat) (m10 : Nat) (m11 : Nat) (m12 : Nat) (m13 : Nat) (m14 : Nat) (m15 : Nat) (th : Nat) (n : Nat) (kn : Bool) (lg : Bool) (td : Bool) (ld : Nat) (lt : Nat) (gr : Nat) (mv : Nat) (la : Nat) (T : Nat → Nat) (MX : Nat → Nat) (MC : Nat → Int32) (i : Nat) (hn : n ≤ 12) (hT : ∀ a, T a < 4096) (hMX : ∀ a, MX a < 4096) (hok : ∀ k, (mnS (mrX T n MX) n (ovI MC n) k).2 ≠ 2 ^ n - 1 → ∃ a, nxU (mrX T n MX) n (mnS (mrX T n MX) n (ovI MC n) k).2 n = some a ∧ ((frM (mrX T n MX) a n &&& (mrX T n MX) a).testBit a = true ∧ frM (mrX T n MX) a n &&& (mrX T n MX) a < 2 ^ n)) (hi : i < n) : MI l D E y_Mo_circle (.code y_Mo_circle k_Mo_circle 3 (some .int)) ({ frames := 3, cells := 0, slots := 0, locals := 69 } : Room) [.ref mo, .int (nI i)] [(mo, .inr (7, [.int (nI th), .int (nI n), .ref m1, .ref m2, .ref m3, .ref m4, .ref m5, .ref m6, .int (bI kn), .int (bI lg), .int (bI td), .int (nI ld), .int (pI lt), .ref m7, .int (nI gr), .int (nI mv), .ref m8, .ref m9, .ref m10, .ref m11, .ref m12, .ref m13, .int (nI la), .ref m14, .ref m15])), (m1, .inl (E 0, 12, .inl (aN T))), (m14, .inl (E 0, 12, .inl (aN MX))), (m15, .inl (E 0, 12, .inl MC))] (fun (r : Int32) (u : (Nat → Int32) × Nat) => match u with | (V, z) => (r = V i) ∧ (mnS (mrX T n MX) n (ovI MC n) z = (V, 2 ^ n - 1)) ∧ (z ≤ 4096) ∧ (∀ j, j < z → (mnS (mrX T n MX) n (ovI MC n) j).2 ≠ 2 ^ n - 1)) (fun (u : (Nat → Int32) × Nat) => match u with | (V, z) => [(mo, .inr (7, [.int (nI 0), .int (nI n), .ref m1, .ref m2, .ref m3, .ref m4, .ref m5, .ref m6, .int (bI kn), .int (bI lg), .int (bI td), .int (nI ld), .int (pI lt), .ref m7, .int (nI gr), .int (nI mv), .ref m8, .ref m9, .ref m10, .ref m11, .ref m12, .ref m13, .int (nI la), .ref m14, .ref m15])), (m1, .inl (E 0, 12, .inl (aN T))), (m14, .inl (E 0, 12, .inl (aN (mrX T n MX)))), (m15, .inl (E 0, 12, .inl V))]) := by
  refine MI.of (by decide) (Nat.le_of_ble_eq_true rfl) ?_
  intro p e s m args below meth c A C hrt hlk hnm
  refine g_lv (lv' := [(0, .ref mo), (1, .int (nI i))]) rfl ?_
  refine g_aload_n C d_Mo_circle_0 rfl 0 rfl ?_
  refine g_iconst (v := nI 0) C d_Mo_circle_1 (by decide) ?_
  refine g_put (ws' := [(mo, .inr (7, [.int (nI 0), .int (nI n), .ref m1, .ref m2, .ref m3, .ref m4, .ref m5, .ref m6, .int (bI kn), .int (bI lg), .int (bI td), .int (nI ld), .int (pI lt), .ref m7, .int (nI gr), .int (nI mv), .ref m8, .ref m9, .ref m10, .ref m11, .ref m12, .ref m13, .int (nI la), .ref m14, .ref m15])), (m1, .inl (E 0, 12, .inl (aN T))), (m14, .inl (E 0, 12, .inl (aN MX))), (m15, .inl (E 0, 12, .inl MC))]) C lay_Mo ty_Mo nm_Mo 0 rfl rfl 0 (by decide) m_634 rfl rfl rfl (Nat.le_of_ble_eq_true rfl) rfl d_Mo_circle_2 ?_
  refine g_aload_n C d_Mo_circle_5 rfl 0 rfl ?_
  refine g_iV (rest := []) (wr := []) C (o_numbers l D E mo m1 m2 m3 m4 m5 m6 m7 m8 m9 m10 m11 m12 m13 m14 m15 0 n kn lg td ld lt gr mv la T MX MC hn hT hMX hok) rd_Mo_numbers m_858 m_860 m_34 rfl rfl (Nat.le_of_ble_eq_true rfl) (Nat.le_of_ble_eq_true rfl) (Nat.le_of_ble_eq_true rfl) (Nat.le_of_ble_eq_true rfl) rfl rfl (Nat.le_of_ble_eq_true rfl) d_Mo_circle_6 [0, 1, 2, 3] [] rfl (by decide) rfl (by decide) (by decide) (fun r6 u6 hu6 => ?_)
  obtain ⟨V_1, z_2⟩ := u6
  obtain ⟨hr6, hm6, hz6, hmin6⟩ : (r6 = nI z_2) ∧ (mnS (mrX T n MX) n (ovI MC n) z_2 = (V_1, 2 ^ n - 1)) ∧ (z_2 ≤ 4096) ∧ (∀ j, j < z_2 → (mnS (mrX T n MX) n (ovI MC n) j).2 ≠ 2 ^ n - 1) := hu6
  subst hr6
  refine g_cells (ws' := [(mo, .inr (7, [.int (nI 0), .int (nI n), .ref m1, .ref m2, .ref m3, .ref m4, .ref m5, .ref m6, .int (bI kn), .int (bI lg), .int (bI td), .int (nI ld), .int (pI lt), .ref m7, .int (nI gr), .int (nI mv), .ref m8, .ref m9, .ref m10, .ref m11, .ref m12, .ref m13, .int (nI la), .ref m14, .ref m15])), (m1, .inl (E 0, 12, .inl (aN T))), (m14, .inl (E 0, 12, .inl (aN (mrX T n MX)))), (m15, .inl (E 0, 12, .inl V_1))]) [0, 1, 2, 3] (by decide) rfl ?_
  refine g_istore_n (lv' := [(2, .int (nI z_2)), (0, .ref mo), (1, .int (nI i))]) C d_Mo_circle_9 rfl (by decide) rfl ?_
  refine g_aload_n C d_Mo_circle_10 rfl 1 rfl ?_
  refine g_iload_n C d_Mo_circle_11 rfl 2 rfl ?_
  refine g_iV (rest := []) (wr := [(m1, .inl (E 0, 12, .inl (aN T))), (m14, .inl (E 0, 12, .inl (aN (mrX T n MX)))), (m15, .inl (E 0, 12, .inl V_1))]) C (o_isArgument l D E mo m1 m2 m3 m4 m5 m6 m7 m8 m9 m10 m11 m12 m13 m14 m15 0 n kn lg td ld lt gr mv la (nI i) ) rd_Mo_isArgument m_731 m_733 m_22 rfl rfl (Nat.le_of_ble_eq_true rfl) (Nat.le_of_ble_eq_true rfl) (Nat.le_of_ble_eq_true rfl) (Nat.le_of_ble_eq_true rfl) rfl rfl (Nat.le_of_ble_eq_true rfl) d_Mo_circle_12 [0] [1, 2, 3] rfl (by decide) rfl (by decide) (by decide) (fun r12 _ (hr12 : r12 = bI (inR (nI i) n)) => ?_)
  subst hr12
  refine g_cells (ws' := [(mo, .inr (7, [.int (nI 0), .int (nI n), .ref m1, .ref m2, .ref m3, .ref m4, .ref m5, .ref m6, .int (bI kn), .int (bI lg), .int (bI td), .int (nI ld), .int (pI lt), .ref m7, .int (nI gr), .int (nI mv), .ref m8, .ref m9, .ref m10, .ref m11, .ref m12, .ref m13, .int (nI la), .ref m14, .ref m15])), (m1, .inl (E 0, 12, .inl (aN T))), (m14, .inl (E 0, 12, .inl (aN (mrX T n MX)))), (m15, .inl (E 0, 12, .inl V_1))]) [3, 0, 1, 2] (by decide) rfl ?_
  refine g_if_eqB (tgt := 31) C d_Mo_circle_15 (by decide) (fun b0 => ?_) (fun b0 => ?_)
  · skip
    rw [inR_nI (by omega) (by omega)] at b0; simp at b0; omega
  · skip
    refine g_iload_n C d_Mo_circle_18 rfl 0 rfl ?_
    refine g_if_leN (tgt := 31) C (by omega) d_Mo_circle_19 (by decide) (fun b1 => ?_) (fun b1 => ?_)
    · skip
      rw [b1] at hm6; exact absurd (congrArg Prod.snd hm6) (by show ¬ (0 = 2 ^ n - 1); have := Nat.pow_le_pow_right (n := 2) (by decide) (show 1 ≤ n by omega); omega)
    · skip
      refine g_aload_n C d_Mo_circle_22 rfl 1 rfl ?_
      refine g_get C lay_Mo 0 rfl rfl 24 (by decide) m_658 rfl d_Mo_circle_23 ?_
      refine g_iload_n C d_Mo_circle_26 rfl 2 rfl ?_
      refine g_ialdN C 3 rfl (by omega) (by decide) d_Mo_circle_27 ?_
      refine g_goto (tgt := 32) C d_Mo_circle_28 (by decide) ?_
      exact g_iret C hrt hlk (V_1, z_2) (⟨rfl, hm6, hz6, hmin6⟩) rfl d_Mo_circle_32

set_option maxHeartbeats 4000000 in
set_option maxRecDepth 100000 in
theorem o_circleBad (l : Launch) (D : va_G) (E : Nat → ClassId) (mo : Nat) (m1 : Nat) (m2 : Nat) (m3 : Nat) (m4 : Nat) (m5 : Nat) (m6 : Nat) (m7 : Nat) (m8 : Nat) (m9 : Nat) (m10 : Nat) (m11 : Nat) (m12 : Nat) (m13 : Nat) (m14 : Nat) (m15 : Nat) (th : Nat) (n : Nat) (kn : Bool) (lg : Bool) (td : Bool) (ld : Nat) (lt : Nat) (gr : Nat) (mv : Nat) (la : Nat) (T : Nat → Nat) (MX : Nat → Nat) (MC : Nat → Int32) (x : Int32) (hn : n ≤ 12) (hT : ∀ a, T a < 4096) (hMX : ∀ a, MX a < 4096) (hok : ∀ k, (mnS (mrX T n MX) n (ovI MC n) k).2 ≠ 2 ^ n - 1 → ∃ a, nxU (mrX T n MX) n (mnS (mrX T n MX) n (ovI MC n) k).2 n = some a ∧ ((frM (mrX T n MX) a n &&& (mrX T n MX) a).testBit a = true ∧ frM (mrX T n MX) a n &&& (mrX T n MX) a < 2 ^ n)) (hb : inR x n = false) : MI l D E y_Mo_circle (.code y_Mo_circle k_Mo_circle 3 (some .int)) ({ frames := 3, cells := 0, slots := 0, locals := 69 } : Room) [.ref mo, .int x] [(mo, .inr (7, [.int (nI th), .int (nI n), .ref m1, .ref m2, .ref m3, .ref m4, .ref m5, .ref m6, .int (bI kn), .int (bI lg), .int (bI td), .int (nI ld), .int (pI lt), .ref m7, .int (nI gr), .int (nI mv), .ref m8, .ref m9, .ref m10, .ref m11, .ref m12, .ref m13, .int (nI la), .ref m14, .ref m15])), (m1, .inl (E 0, 12, .inl (aN T))), (m14, .inl (E 0, 12, .inl (aN MX))), (m15, .inl (E 0, 12, .inl MC))] (fun (r : Int32) (u : (Nat → Int32) × Nat) => match u with | (V, z) => (r = -1) ∧ (mnS (mrX T n MX) n (ovI MC n) z = (V, 2 ^ n - 1)) ∧ (z ≤ 4096) ∧ (∀ j, j < z → (mnS (mrX T n MX) n (ovI MC n) j).2 ≠ 2 ^ n - 1)) (fun (u : (Nat → Int32) × Nat) => match u with | (V, z) => [(mo, .inr (7, [.int (nI 0), .int (nI n), .ref m1, .ref m2, .ref m3, .ref m4, .ref m5, .ref m6, .int (bI kn), .int (bI lg), .int (bI td), .int (nI ld), .int (pI lt), .ref m7, .int (nI gr), .int (nI mv), .ref m8, .ref m9, .ref m10, .ref m11, .ref m12, .ref m13, .int (nI la), .ref m14, .ref m15])), (m1, .inl (E 0, 12, .inl (aN T))), (m14, .inl (E 0, 12, .inl (aN (mrX T n MX)))), (m15, .inl (E 0, 12, .inl V))]) := by
  refine MI.of (by decide) (Nat.le_of_ble_eq_true rfl) ?_
  intro p e s m args below meth c A C hrt hlk hnm
  refine g_lv (lv' := [(0, .ref mo), (1, .int x)]) rfl ?_
  refine g_aload_n C d_Mo_circle_0 rfl 0 rfl ?_
  refine g_iconst (v := nI 0) C d_Mo_circle_1 (by decide) ?_
  refine g_put (ws' := [(mo, .inr (7, [.int (nI 0), .int (nI n), .ref m1, .ref m2, .ref m3, .ref m4, .ref m5, .ref m6, .int (bI kn), .int (bI lg), .int (bI td), .int (nI ld), .int (pI lt), .ref m7, .int (nI gr), .int (nI mv), .ref m8, .ref m9, .ref m10, .ref m11, .ref m12, .ref m13, .int (nI la), .ref m14, .ref m15])), (m1, .inl (E 0, 12, .inl (aN T))), (m14, .inl (E 0, 12, .inl (aN MX))), (m15, .inl (E 0, 12, .inl MC))]) C lay_Mo ty_Mo nm_Mo 0 rfl rfl 0 (by decide) m_634 rfl rfl rfl (Nat.le_of_ble_eq_true rfl) rfl d_Mo_circle_2 ?_
  refine g_aload_n C d_Mo_circle_5 rfl 0 rfl ?_
  refine g_iV (rest := []) (wr := []) C (o_numbers l D E mo m1 m2 m3 m4 m5 m6 m7 m8 m9 m10 m11 m12 m13 m14 m15 0 n kn lg td ld lt gr mv la T MX MC hn hT hMX hok) rd_Mo_numbers m_858 m_860 m_34 rfl rfl (Nat.le_of_ble_eq_true rfl) (Nat.le_of_ble_eq_true rfl) (Nat.le_of_ble_eq_true rfl) (Nat.le_of_ble_eq_true rfl) rfl rfl (Nat.le_of_ble_eq_true rfl) d_Mo_circle_6 [0, 1, 2, 3] [] rfl (by decide) rfl (by decide) (by decide) (fun r6 u6 hu6 => ?_)
  obtain ⟨V_1, z_2⟩ := u6
  obtain ⟨hr6, hm6, hz6, hmin6⟩ : (r6 = nI z_2) ∧ (mnS (mrX T n MX) n (ovI MC n) z_2 = (V_1, 2 ^ n - 1)) ∧ (z_2 ≤ 4096) ∧ (∀ j, j < z_2 → (mnS (mrX T n MX) n (ovI MC n) j).2 ≠ 2 ^ n - 1) := hu6
  subst hr6
  refine g_cells (ws' := [(mo, .inr (7, [.int (nI 0), .int (nI n), .ref m1, .ref m2, .ref m3, .ref m4, .ref m5, .ref m6, .int (bI kn), .int (bI lg), .int (bI td), .int (nI ld), .int (pI lt), .ref m7, .int (nI gr), .int (nI mv), .ref m8, .ref m9, .ref m10, .ref m11, .ref m12, .ref m13, .int (nI la), .ref m14, .ref m15])), (m1, .inl (E 0, 12, .inl (aN T))), (m14, .inl (E 0, 12, .inl (aN (mrX T n MX)))), (m15, .inl (E 0, 12, .inl V_1))]) [0, 1, 2, 3] (by decide) rfl ?_
  refine g_istore_n (lv' := [(2, .int (nI z_2)), (0, .ref mo), (1, .int x)]) C d_Mo_circle_9 rfl (by decide) rfl ?_
  refine g_aload_n C d_Mo_circle_10 rfl 1 rfl ?_
  refine g_iload_n C d_Mo_circle_11 rfl 2 rfl ?_
  refine g_iV (rest := []) (wr := [(m1, .inl (E 0, 12, .inl (aN T))), (m14, .inl (E 0, 12, .inl (aN (mrX T n MX)))), (m15, .inl (E 0, 12, .inl V_1))]) C (o_isArgument l D E mo m1 m2 m3 m4 m5 m6 m7 m8 m9 m10 m11 m12 m13 m14 m15 0 n kn lg td ld lt gr mv la x ) rd_Mo_isArgument m_731 m_733 m_22 rfl rfl (Nat.le_of_ble_eq_true rfl) (Nat.le_of_ble_eq_true rfl) (Nat.le_of_ble_eq_true rfl) (Nat.le_of_ble_eq_true rfl) rfl rfl (Nat.le_of_ble_eq_true rfl) d_Mo_circle_12 [0] [1, 2, 3] rfl (by decide) rfl (by decide) (by decide) (fun r12 _ (hr12 : r12 = bI (inR x n)) => ?_)
  subst hr12
  refine g_cells (ws' := [(mo, .inr (7, [.int (nI 0), .int (nI n), .ref m1, .ref m2, .ref m3, .ref m4, .ref m5, .ref m6, .int (bI kn), .int (bI lg), .int (bI td), .int (nI ld), .int (pI lt), .ref m7, .int (nI gr), .int (nI mv), .ref m8, .ref m9, .ref m10, .ref m11, .ref m12, .ref m13, .int (nI la), .ref m14, .ref m15])), (m1, .inl (E 0, 12, .inl (aN T))), (m14, .inl (E 0, 12, .inl (aN (mrX T n MX)))), (m15, .inl (E 0, 12, .inl V_1))]) [3, 0, 1, 2] (by decide) rfl ?_
  refine g_if_eqB (tgt := 31) C d_Mo_circle_15 (by decide) (fun b0 => ?_) (fun b0 => ?_)
  · skip
    refine g_iconst (v := (-1)) C d_Mo_circle_31 (by decide) ?_
    exact g_iret C hrt hlk (V_1, z_2) (⟨rfl, hm6, hz6, hmin6⟩) rfl d_Mo_circle_32
  · skip
    rw [hb] at b0; cases b0
