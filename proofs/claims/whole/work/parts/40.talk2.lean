set_option maxHeartbeats 4000000 in
set_option maxRecDepth 100000 in
theorem c_Tk_about0 (l : Launch) (D : va_G) (E : Nat → ClassId) (v : Nat) (va : Nat) (vb : Nat) (vc : Nat) (Sa : Nat → Nat) (An : Nat → Int32) (Sd : Nat → Nat) (z : Nat) (tl : Bool) (h : Nat) (t : Nat) (u : Nat) (n : Nat) (T : Nat → Nat) (U : Nat → Nat) (q : Nat) (qa : Nat) (R : Nat → Nat) (al : Nat) (a : Nat) (hn : n ≤ 12) (hal : al < 4096) (ha : a < n) (hR : ∀ a, R a < 4096) (hra : R a = 0) : MI l D E y_Talk_about (.code y_Talk_about k_Talk_about 4 (some .int)) ({ frames := 1, cells := 0, slots := 0, locals := 21 } : Room) [.ref v, .int (nI a), .ref h, .ref q] [(v, .inr (5, [.ref va, .ref vb, .ref vc, .int (nI z), .int (bI tl)])), (va, .inl (E 0, 500, .inl (aN Sa))), (vb, .inl (E 0, 500, .inl An)), (vc, .inl (E 0, 500, .inl (aN Sd))), (h, .inr (6, [.ref t, .ref u, .int (nI n)])), (t, .inl (E 0, 12, .inl (aN T))), (u, .inl (E 0, 12, .inl (aN U))), (q, .inr (1, [.ref qa, .int (nI al)])), (qa, .inl (E 0, 12, .inl (aN R)))] (fun (r : Int32) (_ : Unit) => r = nI 0) (fun _ : Unit => [(v, .inr (5, [.ref va, .ref vb, .ref vc, .int (nI 0), .int (bI false)])), (va, .inl (E 0, 500, .inl (aN Sa))), (vb, .inl (E 0, 500, .inl An)), (vc, .inl (E 0, 500, .inl (aN Sd))), (h, .inr (6, [.ref t, .ref u, .int (nI n)])), (t, .inl (E 0, 12, .inl (aN T))), (u, .inl (E 0, 12, .inl (aN U))), (q, .inr (1, [.ref qa, .int (nI al)])), (qa, .inl (E 0, 12, .inl (aN R)))]) := by
  refine MI.of (by decide) (Nat.le_of_ble_eq_true rfl) ?_
  intro p e s m args below meth c A C hrt hlk hnm
  refine g_lv (lv' := [(0, .ref v), (1, .int (nI a)), (2, .ref h), (3, .ref q)]) rfl ?_
  refine g_aload_n C d_Talk_about_0 rfl 0 rfl ?_
  refine g_iconst (v := nI 0) C d_Talk_about_1 (by decide) ?_
  refine g_put (ws' := [(v, .inr (5, [.ref va, .ref vb, .ref vc, .int (nI 0), .int (bI tl)])), (va, .inl (E 0, 500, .inl (aN Sa))), (vb, .inl (E 0, 500, .inl An)), (vc, .inl (E 0, 500, .inl (aN Sd))), (h, .inr (6, [.ref t, .ref u, .int (nI n)])), (t, .inl (E 0, 12, .inl (aN T))), (u, .inl (E 0, 12, .inl (aN U))), (q, .inr (1, [.ref qa, .int (nI al)])), (qa, .inl (E 0, 12, .inl (aN R)))]) C lay_Talk ty_Talk nm_Talk 0 rfl rfl 3 (by decide) m_142 rfl rfl rfl (Nat.le_of_ble_eq_true rfl) rfl d_Talk_about_2 ?_
  refine g_aload_n C d_Talk_about_5 rfl 0 rfl ?_
  refine g_iconst (v := nI 0) C d_Talk_about_6 (by decide) ?_
  refine g_top (show nI 0 = bI false from rfl) ?_
  refine g_put (ws' := [(v, .inr (5, [.ref va, .ref vb, .ref vc, .int (nI 0), .int (bI false)])), (va, .inl (E 0, 500, .inl (aN Sa))), (vb, .inl (E 0, 500, .inl An)), (vc, .inl (E 0, 500, .inl (aN Sd))), (h, .inr (6, [.ref t, .ref u, .int (nI n)])), (t, .inl (E 0, 12, .inl (aN T))), (u, .inl (E 0, 12, .inl (aN U))), (q, .inr (1, [.ref qa, .int (nI al)])), (qa, .inl (E 0, 12, .inl (aN R)))]) C lay_Talk ty_Talk nm_Talk 0 rfl rfl 4 (by decide) m_143 rfl (bI_nar _) (bI_fit _) (Nat.le_of_ble_eq_true rfl) rfl d_Talk_about_7 ?_
  refine g_aload_n C d_Talk_about_10 rfl 3 rfl ?_
  refine g_iload_n C d_Talk_about_11 rfl 1 rfl ?_
  refine g_iV (rest := []) (wr := [(v, .inr (5, [.ref va, .ref vb, .ref vc, .int (nI 0), .int (bI false)])), (va, .inl (E 0, 500, .inl (aN Sa))), (vb, .inl (E 0, 500, .inl An)), (vc, .inl (E 0, 500, .inl (aN Sd))), (h, .inr (6, [.ref t, .ref u, .int (nI n)])), (t, .inl (E 0, 12, .inl (aN T))), (u, .inl (E 0, 12, .inl (aN U)))]) C (c_Gr_roundOf l D E q qa R al a (by omega)) rd_Grounds_roundOf m_609 m_375 m_376 rfl rfl (Nat.le_of_ble_eq_true rfl) (Nat.le_of_ble_eq_true rfl) (Nat.le_of_ble_eq_true rfl) (Nat.le_of_ble_eq_true rfl) rfl rfl (Nat.le_of_ble_eq_true rfl) d_Talk_about_12 [7, 8] [0, 1, 2, 3, 4, 5, 6] rfl (by decide) rfl (by decide) (by decide) (fun r12 _ (hr12 : r12 = nI (R a)) => ?_)
  subst hr12
  refine g_cells (ws' := [(v, .inr (5, [.ref va, .ref vb, .ref vc, .int (nI 0), .int (bI false)])), (va, .inl (E 0, 500, .inl (aN Sa))), (vb, .inl (E 0, 500, .inl An)), (vc, .inl (E 0, 500, .inl (aN Sd))), (h, .inr (6, [.ref t, .ref u, .int (nI n)])), (t, .inl (E 0, 12, .inl (aN T))), (u, .inl (E 0, 12, .inl (aN U))), (q, .inr (1, [.ref qa, .int (nI al)])), (qa, .inl (E 0, 12, .inl (aN R)))]) [0, 1, 2, 3, 4, 5, 6, 7, 8] (by decide) rfl ?_
  refine g_top (show nI (R a) = nI (R a) from rfl) ?_
  refine g_if_neN (tgt := 20) C (lt4 (hR _)) d_Talk_about_15 (by decide) (fun b0 => ?_) (fun b0 => ?_)
  · skip
    exact absurd hra b0
  · skip
    refine g_iconst (v := nI 0) C d_Talk_about_18 (by decide) ?_
    exact g_iret C hrt hlk () (rfl) rfl d_Talk_about_19

set_option maxHeartbeats 4000000 in
set_option maxRecDepth 100000 in
theorem c_Tk_about (l : Launch) (D : va_G) (E : Nat → ClassId) (v : Nat) (va : Nat) (vb : Nat) (vc : Nat) (Sa : Nat → Nat) (An : Nat → Int32) (Sd : Nat → Nat) (z : Nat) (tl : Bool) (h : Nat) (t : Nat) (u : Nat) (n : Nat) (T : Nat → Nat) (U : Nat → Nat) (q : Nat) (qa : Nat) (R : Nat → Nat) (al : Nat) (a : Nat) (hn : n ≤ 12) (hU : ∀ a, U a < 4096) (hR : ∀ a, R a < 4096) (hal : al < 4096) (hG : DG U R al n) (ha : a < n) (hra : 0 < R a) (hr12 : R a ≤ 12) : MI l D E y_Talk_about (.code y_Talk_about k_Talk_about 4 (some .int)) ({ frames := 23, cells := 0, slots := 0, locals := 677 } : Room) [.ref v, .int (nI a), .ref h, .ref q] [(v, .inr (5, [.ref va, .ref vb, .ref vc, .int (nI z), .int (bI tl)])), (va, .inl (E 0, 500, .inl (aN Sa))), (vb, .inl (E 0, 500, .inl An)), (vc, .inl (E 0, 500, .inl (aN Sd))), (h, .inr (6, [.ref t, .ref u, .int (nI n)])), (t, .inl (E 0, 12, .inl (aN T))), (u, .inl (E 0, 12, .inl (aN U))), (q, .inr (1, [.ref qa, .int (nI al)])), (qa, .inl (E 0, 12, .inl (aN R)))] (fun (r : Int32) (uu : (Nat → Nat) × (Nat → Int32) × (Nat → Nat) × Nat × Bool) => match uu with | (Sa2, An2, Sd2, z2, tl2) => (r = dlA (mvs U (eaF U R al) 12 a (-1) 0)) ∧ (dlW (mvs U (eaF U R al) 12 a (-1) 0) Sa An Sd Sa2 An2 Sd2 z2) ∧ (z2 ≤ 500)) (fun (uu : (Nat → Nat) × (Nat → Int32) × (Nat → Nat) × Nat × Bool) => match uu with | (Sa2, An2, Sd2, z2, tl2) => [(v, .inr (5, [.ref va, .ref vb, .ref vc, .int (nI z2), .int (bI tl2)])), (va, .inl (E 0, 500, .inl (aN Sa2))), (vb, .inl (E 0, 500, .inl An2)), (vc, .inl (E 0, 500, .inl (aN Sd2))), (h, .inr (6, [.ref t, .ref u, .int (nI n)])), (t, .inl (E 0, 12, .inl (aN T))), (u, .inl (E 0, 12, .inl (aN U))), (q, .inr (1, [.ref qa, .int (nI al)])), (qa, .inl (E 0, 12, .inl (aN R)))]) := by
  refine MI.of (by decide) (Nat.le_of_ble_eq_true rfl) ?_
  intro p e s m args below meth c A C hrt hlk hnm
  refine g_lv (lv' := [(0, .ref v), (1, .int (nI a)), (2, .ref h), (3, .ref q)]) rfl ?_
  refine g_aload_n C d_Talk_about_0 rfl 0 rfl ?_
  refine g_iconst (v := nI 0) C d_Talk_about_1 (by decide) ?_
  refine g_put (ws' := [(v, .inr (5, [.ref va, .ref vb, .ref vc, .int (nI 0), .int (bI tl)])), (va, .inl (E 0, 500, .inl (aN Sa))), (vb, .inl (E 0, 500, .inl An)), (vc, .inl (E 0, 500, .inl (aN Sd))), (h, .inr (6, [.ref t, .ref u, .int (nI n)])), (t, .inl (E 0, 12, .inl (aN T))), (u, .inl (E 0, 12, .inl (aN U))), (q, .inr (1, [.ref qa, .int (nI al)])), (qa, .inl (E 0, 12, .inl (aN R)))]) C lay_Talk ty_Talk nm_Talk 0 rfl rfl 3 (by decide) m_142 rfl rfl rfl (Nat.le_of_ble_eq_true rfl) rfl d_Talk_about_2 ?_
  refine g_aload_n C d_Talk_about_5 rfl 0 rfl ?_
  refine g_iconst (v := nI 0) C d_Talk_about_6 (by decide) ?_
  refine g_top (show nI 0 = bI false from rfl) ?_
  refine g_put (ws' := [(v, .inr (5, [.ref va, .ref vb, .ref vc, .int (nI 0), .int (bI false)])), (va, .inl (E 0, 500, .inl (aN Sa))), (vb, .inl (E 0, 500, .inl An)), (vc, .inl (E 0, 500, .inl (aN Sd))), (h, .inr (6, [.ref t, .ref u, .int (nI n)])), (t, .inl (E 0, 12, .inl (aN T))), (u, .inl (E 0, 12, .inl (aN U))), (q, .inr (1, [.ref qa, .int (nI al)])), (qa, .inl (E 0, 12, .inl (aN R)))]) C lay_Talk ty_Talk nm_Talk 0 rfl rfl 4 (by decide) m_143 rfl (bI_nar _) (bI_fit _) (Nat.le_of_ble_eq_true rfl) rfl d_Talk_about_7 ?_
  refine g_aload_n C d_Talk_about_10 rfl 3 rfl ?_
  refine g_iload_n C d_Talk_about_11 rfl 1 rfl ?_
  refine g_iV (rest := []) (wr := [(v, .inr (5, [.ref va, .ref vb, .ref vc, .int (nI 0), .int (bI false)])), (va, .inl (E 0, 500, .inl (aN Sa))), (vb, .inl (E 0, 500, .inl An)), (vc, .inl (E 0, 500, .inl (aN Sd))), (h, .inr (6, [.ref t, .ref u, .int (nI n)])), (t, .inl (E 0, 12, .inl (aN T))), (u, .inl (E 0, 12, .inl (aN U)))]) C (c_Gr_roundOf l D E q qa R al a (by omega)) rd_Grounds_roundOf m_609 m_375 m_376 rfl rfl (Nat.le_of_ble_eq_true rfl) (Nat.le_of_ble_eq_true rfl) (Nat.le_of_ble_eq_true rfl) (Nat.le_of_ble_eq_true rfl) rfl rfl (Nat.le_of_ble_eq_true rfl) d_Talk_about_12 [7, 8] [0, 1, 2, 3, 4, 5, 6] rfl (by decide) rfl (by decide) (by decide) (fun r12 _ (hr12 : r12 = nI (R a)) => ?_)
  subst hr12
  refine g_cells (ws' := [(v, .inr (5, [.ref va, .ref vb, .ref vc, .int (nI 0), .int (bI false)])), (va, .inl (E 0, 500, .inl (aN Sa))), (vb, .inl (E 0, 500, .inl An)), (vc, .inl (E 0, 500, .inl (aN Sd))), (h, .inr (6, [.ref t, .ref u, .int (nI n)])), (t, .inl (E 0, 12, .inl (aN T))), (u, .inl (E 0, 12, .inl (aN U))), (q, .inr (1, [.ref qa, .int (nI al)])), (qa, .inl (E 0, 12, .inl (aN R)))]) [0, 1, 2, 3, 4, 5, 6, 7, 8] (by decide) rfl ?_
  refine g_top (show nI (R a) = nI (R a) from rfl) ?_
  refine g_if_neN (tgt := 20) C (lt4 (hR _)) d_Talk_about_15 (by decide) (fun b0 => ?_) (fun b0 => ?_)
  · skip
    refine g_aload_n C d_Talk_about_20 rfl 0 rfl ?_
    refine g_iload_n C d_Talk_about_21 rfl 1 rfl ?_
    refine g_iconst (v := (-1)) C d_Talk_about_22 (by decide) ?_
    refine g_aload_n C d_Talk_about_23 rfl 2 rfl ?_
    refine g_aload_n C d_Talk_about_24 rfl 3 rfl ?_
    refine g_iconst (v := nI 0) C d_Talk_about_25 (by decide) ?_
    refine g_vV (rest := []) (wr := []) C (c_Tk_defend l D E 12 v va vb vc Sa An Sd 0 h t u n T U q qa R al a (-1) 0 hn hU hR hal hG ha hra hr12 (by omega) (by omega)) rd_Talk_defend m_610 m_612 m_18 rfl rfl (Nat.le_of_ble_eq_true rfl) (Nat.le_of_ble_eq_true rfl) (Nat.le_of_ble_eq_true rfl) (Nat.le_of_ble_eq_true rfl) rfl rfl (Nat.le_of_ble_eq_true rfl) d_Talk_about_26 [0, 1, 2, 3, 4, 5, 6, 7, 8] [] rfl (by decide) rfl (by decide) (by decide) (fun u26 hu26 => ?_)
    obtain ⟨Sa2_1, An2_2, Sd2_3, z2_4, tl2_5⟩ := u26
    obtain ⟨hf26, ho26, hz226⟩ : (0 + (mvs U (eaF U R al) 12 a (-1) 0).length ≤ 500 → WR (mvs U (eaF U R al) 12 a (-1) 0) Sa An Sd 0 Sa2_1 An2_2 Sd2_3 z2_4 ∧ tl2_5 = false) ∧ (500 < 0 + (mvs U (eaF U R al) 12 a (-1) 0).length → tl2_5 = true) ∧ (z2_4 ≤ 500) := hu26
    refine g_cells (ws' := [(v, .inr (5, [.ref va, .ref vb, .ref vc, .int (nI z2_4), .int (bI tl2_5)])), (va, .inl (E 0, 500, .inl (aN Sa2_1))), (vb, .inl (E 0, 500, .inl An2_2)), (vc, .inl (E 0, 500, .inl (aN Sd2_3))), (h, .inr (6, [.ref t, .ref u, .int (nI n)])), (t, .inl (E 0, 12, .inl (aN T))), (u, .inl (E 0, 12, .inl (aN U))), (q, .inr (1, [.ref qa, .int (nI al)])), (qa, .inl (E 0, 12, .inl (aN R)))]) [0, 1, 2, 3, 4, 5, 6, 7, 8] (by decide) rfl ?_
    refine g_aload_n C d_Talk_about_29 rfl 0 rfl ?_
    refine g_get C lay_Talk 0 rfl rfl 4 (by decide) m_143 rfl d_Talk_about_30 ?_
    refine g_if_eqB (tgt := 43) C d_Talk_about_33 (by decide) (fun b1 => ?_) (fun b1 => ?_)
    · skip
      refine g_aload_n C d_Talk_about_43 rfl 0 rfl ?_
      refine g_get C lay_Talk 0 rfl rfl 3 (by decide) m_142 rfl d_Talk_about_44 ?_
      exact g_iret C hrt hlk (Sa2_1, An2_2, Sd2_3, z2_4, tl2_5) (dl_y hf26 ho26 hz226 b1) rfl d_Talk_about_47
    · skip
      refine g_aload_n C d_Talk_about_36 rfl 0 rfl ?_
      refine g_iconst (v := nI 0) C d_Talk_about_37 (by decide) ?_
      refine g_put (ws' := [(v, .inr (5, [.ref va, .ref vb, .ref vc, .int (nI 0), .int (bI tl2_5)])), (va, .inl (E 0, 500, .inl (aN Sa2_1))), (vb, .inl (E 0, 500, .inl An2_2)), (vc, .inl (E 0, 500, .inl (aN Sd2_3))), (h, .inr (6, [.ref t, .ref u, .int (nI n)])), (t, .inl (E 0, 12, .inl (aN T))), (u, .inl (E 0, 12, .inl (aN U))), (q, .inr (1, [.ref qa, .int (nI al)])), (qa, .inl (E 0, 12, .inl (aN R)))]) C lay_Talk ty_Talk nm_Talk 0 rfl rfl 3 (by decide) m_142 rfl rfl rfl (Nat.le_of_ble_eq_true rfl) rfl d_Talk_about_38 ?_
      refine g_iconst (v := (-1)) C d_Talk_about_41 (by decide) ?_
      exact g_iret C hrt hlk (Sa2_1, An2_2, Sd2_3, 0, tl2_5) (dl_n hf26 b1) rfl d_Talk_about_42
  · skip
    exact absurd b0 (by omega)

set_option maxHeartbeats 4000000 in
set_option maxRecDepth 100000 in
theorem a_dialogue0 (l : Launch) (D : va_G) (E : Nat → ClassId) (bb : Nat) (h : Nat) (g : Nat) (li : Nat) (q : Nat) (v : Nat) (w : Nat) (t : Nat) (u : Nat) (n : Nat) (T : Nat → Nat) (U : Nat → Nat) (qa : Nat) (R : Nat → Nat) (al : Nat) (va : Nat) (vb : Nat) (vc : Nat) (Sa : Nat → Nat) (An : Nat → Int32) (Sd : Nat → Nat) (z : Nat) (tl : Bool) (a : Nat) (hn : n ≤ 12) (hT : ∀ a, T a < 4096) (hU : ∀ a, U a < 4096) (hR : ∀ a, (gdR T n (ovw R (fun _ => 0) 12) 12) a < 4096) (ha : a < n) (hra : (gdR T n (ovw R (fun _ => 0) 12) 12) a = 0) : MI l D E y_AB_dialogue (.code y_AB_dialogue k_AB_dialogue 2 (some .int)) ({ frames := 4, cells := 0, slots := 0, locals := 89 } : Room) [.ref bb, .int (nI a)] [(bb, .inr (0, [.ref h, .ref g, .ref li, .ref q, .ref v, .ref w])), (h, .inr (6, [.ref t, .ref u, .int (nI n)])), (t, .inl (E 0, 12, .inl (aN T))), (u, .inl (E 0, 12, .inl (aN U))), (q, .inr (1, [.ref qa, .int (nI al)])), (qa, .inl (E 0, 12, .inl (aN R))), (v, .inr (5, [.ref va, .ref vb, .ref vc, .int (nI z), .int (bI tl)])), (va, .inl (E 0, 500, .inl (aN Sa))), (vb, .inl (E 0, 500, .inl An)), (vc, .inl (E 0, 500, .inl (aN Sd)))] (fun (r : Int32) (_ : Unit) => r = nI 0) (fun _ : Unit => [(bb, .inr (0, [.ref h, .ref g, .ref li, .ref q, .ref v, .ref w])), (h, .inr (6, [.ref t, .ref u, .int (nI n)])), (t, .inl (E 0, 12, .inl (aN T))), (u, .inl (E 0, 12, .inl (aN U))), (q, .inr (1, [.ref qa, .int (nI (gdA T n 12))])), (qa, .inl (E 0, 12, .inl (aN (gdR T n (ovw R (fun _ => 0) 12) 12)))), (v, .inr (5, [.ref va, .ref vb, .ref vc, .int (nI 0), .int (bI false)])), (va, .inl (E 0, 500, .inl (aN Sa))), (vb, .inl (E 0, 500, .inl An)), (vc, .inl (E 0, 500, .inl (aN Sd)))]) := by
  refine MI.of (by decide) (Nat.le_of_ble_eq_true rfl) ?_
  intro p e s m args below meth c A C hrt hlk hnm
  refine g_lv (lv' := [(0, .ref bb), (1, .int (nI a))]) rfl ?_
  refine g_aload_n C d_AB_dialogue_0 rfl 0 rfl ?_
  refine g_get C lay_AB 0 rfl rfl 0 (by decide) m_171 rfl d_AB_dialogue_1 ?_
  refine g_iload_n C d_AB_dialogue_4 rfl 1 rfl ?_
  refine g_iV (rest := []) (wr := [(bb, .inr (0, [.ref h, .ref g, .ref li, .ref q, .ref v, .ref w])), (q, .inr (1, [.ref qa, .int (nI al)])), (qa, .inl (E 0, 12, .inl (aN R))), (v, .inr (5, [.ref va, .ref vb, .ref vc, .int (nI z), .int (bI tl)])), (va, .inl (E 0, 500, .inl (aN Sa))), (vb, .inl (E 0, 500, .inl An)), (vc, .inl (E 0, 500, .inl (aN Sd)))]) C (c_Web_has l D E h t u n T U (nI a) ) rd_Web_has m_219 m_220 m_221 rfl rfl (Nat.le_of_ble_eq_true rfl) (Nat.le_of_ble_eq_true rfl) (Nat.le_of_ble_eq_true rfl) (Nat.le_of_ble_eq_true rfl) rfl rfl (Nat.le_of_ble_eq_true rfl) d_AB_dialogue_5 [1, 2, 3] [0, 4, 5, 6, 7, 8, 9] rfl (by decide) rfl (by decide) (by decide) (fun r5 _ (hr5 : r5 = bI (inR (nI a) n)) => ?_)
  subst hr5
  refine g_cells (ws' := [(bb, .inr (0, [.ref h, .ref g, .ref li, .ref q, .ref v, .ref w])), (h, .inr (6, [.ref t, .ref u, .int (nI n)])), (t, .inl (E 0, 12, .inl (aN T))), (u, .inl (E 0, 12, .inl (aN U))), (q, .inr (1, [.ref qa, .int (nI al)])), (qa, .inl (E 0, 12, .inl (aN R))), (v, .inr (5, [.ref va, .ref vb, .ref vc, .int (nI z), .int (bI tl)])), (va, .inl (E 0, 500, .inl (aN Sa))), (vb, .inl (E 0, 500, .inl An)), (vc, .inl (E 0, 500, .inl (aN Sd)))]) [0, 7, 8, 9, 1, 2, 3, 4, 5, 6] (by decide) rfl ?_
  refine g_if_neB (tgt := 21) C d_AB_dialogue_8 (by decide) (fun b0 => ?_) (fun b0 => ?_)
  · skip
    refine g_aload_n C d_AB_dialogue_21 rfl 0 rfl ?_
    refine g_get C lay_AB 0 rfl rfl 3 (by decide) m_174 rfl d_AB_dialogue_22 ?_
    refine g_aload_n C d_AB_dialogue_25 rfl 0 rfl ?_
    refine g_get C lay_AB 0 rfl rfl 0 (by decide) m_171 rfl d_AB_dialogue_26 ?_
    refine g_vV (rest := []) (wr := [(bb, .inr (0, [.ref h, .ref g, .ref li, .ref q, .ref v, .ref w])), (v, .inr (5, [.ref va, .ref vb, .ref vc, .int (nI z), .int (bI tl)])), (va, .inl (E 0, 500, .inl (aN Sa))), (vb, .inl (E 0, 500, .inl An)), (vc, .inl (E 0, 500, .inl (aN Sd)))]) C (c_Gr_settle l D E q qa R al h t u n T U hn hT) rd_Grounds_settle m_356 m_357 m_358 rfl rfl (Nat.le_of_ble_eq_true rfl) (Nat.le_of_ble_eq_true rfl) (Nat.le_of_ble_eq_true rfl) (Nat.le_of_ble_eq_true rfl) rfl rfl (Nat.le_of_ble_eq_true rfl) d_AB_dialogue_29 [4, 5, 1, 2, 3] [0, 6, 7, 8, 9] rfl (by decide) rfl (by decide) (by decide) (fun _ _ => ?_)
    refine g_cells (ws' := [(bb, .inr (0, [.ref h, .ref g, .ref li, .ref q, .ref v, .ref w])), (h, .inr (6, [.ref t, .ref u, .int (nI n)])), (t, .inl (E 0, 12, .inl (aN T))), (u, .inl (E 0, 12, .inl (aN U))), (q, .inr (1, [.ref qa, .int (nI (gdA T n 12))])), (qa, .inl (E 0, 12, .inl (aN (gdR T n (ovw R (fun _ => 0) 12) 12)))), (v, .inr (5, [.ref va, .ref vb, .ref vc, .int (nI z), .int (bI tl)])), (va, .inl (E 0, 500, .inl (aN Sa))), (vb, .inl (E 0, 500, .inl An)), (vc, .inl (E 0, 500, .inl (aN Sd)))]) [0, 7, 8, 9, 5, 6, 1, 2, 3, 4] (by decide) rfl ?_
    refine g_aload_n C d_AB_dialogue_32 rfl 0 rfl ?_
    refine g_get C lay_AB 0 rfl rfl 4 (by decide) m_175 rfl d_AB_dialogue_33 ?_
    refine g_iload_n C d_AB_dialogue_36 rfl 1 rfl ?_
    refine g_aload_n C d_AB_dialogue_37 rfl 0 rfl ?_
    refine g_get C lay_AB 0 rfl rfl 0 (by decide) m_171 rfl d_AB_dialogue_38 ?_
    refine g_aload_n C d_AB_dialogue_41 rfl 0 rfl ?_
    refine g_get C lay_AB 0 rfl rfl 3 (by decide) m_174 rfl d_AB_dialogue_42 ?_
    refine g_iV (rest := []) (wr := [(bb, .inr (0, [.ref h, .ref g, .ref li, .ref q, .ref v, .ref w]))]) C (c_Tk_about0 l D E v va vb vc Sa An Sd z tl h t u n T U q qa (gdR T n (ovw R (fun _ => 0) 12) 12) (gdA T n 12) a hn (gdA_lt hn _) ha hR hra) rd_Talk_about m_605 m_606 m_607 rfl rfl (Nat.le_of_ble_eq_true rfl) (Nat.le_of_ble_eq_true rfl) (Nat.le_of_ble_eq_true rfl) (Nat.le_of_ble_eq_true rfl) rfl rfl (Nat.le_of_ble_eq_true rfl) d_AB_dialogue_45 [6, 7, 8, 9, 1, 2, 3, 4, 5] [0] rfl (by decide) rfl (by decide) (by decide) (fun r45 _ (hr45 : r45 = nI 0) => ?_)
    subst hr45
    refine g_cells (ws' := [(bb, .inr (0, [.ref h, .ref g, .ref li, .ref q, .ref v, .ref w])), (h, .inr (6, [.ref t, .ref u, .int (nI n)])), (t, .inl (E 0, 12, .inl (aN T))), (u, .inl (E 0, 12, .inl (aN U))), (q, .inr (1, [.ref qa, .int (nI (gdA T n 12))])), (qa, .inl (E 0, 12, .inl (aN (gdR T n (ovw R (fun _ => 0) 12) 12)))), (v, .inr (5, [.ref va, .ref vb, .ref vc, .int (nI 0), .int (bI false)])), (va, .inl (E 0, 500, .inl (aN Sa))), (vb, .inl (E 0, 500, .inl An)), (vc, .inl (E 0, 500, .inl (aN Sd)))]) [0, 5, 6, 7, 8, 9, 1, 2, 3, 4] (by decide) rfl ?_
    exact g_iret C hrt hlk () (rfl) rfl d_AB_dialogue_48
  · skip
    rw [inR_nI (by omega) (by omega)] at b0; simp at b0; omega

set_option maxHeartbeats 4000000 in
set_option maxRecDepth 100000 in
theorem a_dialogue (l : Launch) (D : va_G) (E : Nat → ClassId) (bb : Nat) (h : Nat) (g : Nat) (li : Nat) (q : Nat) (v : Nat) (w : Nat) (t : Nat) (u : Nat) (n : Nat) (T : Nat → Nat) (U : Nat → Nat) (qa : Nat) (R : Nat → Nat) (al : Nat) (va : Nat) (vb : Nat) (vc : Nat) (Sa : Nat → Nat) (An : Nat → Int32) (Sd : Nat → Nat) (z : Nat) (tl : Bool) (a : Nat) (hn : n ≤ 12) (hT : ∀ a, T a < 4096) (hU : ∀ a, U a < 4096) (hR : ∀ a, (gdR T n (ovw R (fun _ => 0) 12) 12) a < 4096) (hG : DG U (gdR T n (ovw R (fun _ => 0) 12) 12) (gdA T n 12) n) (ha : a < n) (hra : 0 < (gdR T n (ovw R (fun _ => 0) 12) 12) a) (hr12 : (gdR T n (ovw R (fun _ => 0) 12) 12) a ≤ 12) : MI l D E y_AB_dialogue (.code y_AB_dialogue k_AB_dialogue 2 (some .int)) ({ frames := 24, cells := 0, slots := 0, locals := 700 } : Room) [.ref bb, .int (nI a)] [(bb, .inr (0, [.ref h, .ref g, .ref li, .ref q, .ref v, .ref w])), (h, .inr (6, [.ref t, .ref u, .int (nI n)])), (t, .inl (E 0, 12, .inl (aN T))), (u, .inl (E 0, 12, .inl (aN U))), (q, .inr (1, [.ref qa, .int (nI al)])), (qa, .inl (E 0, 12, .inl (aN R))), (v, .inr (5, [.ref va, .ref vb, .ref vc, .int (nI z), .int (bI tl)])), (va, .inl (E 0, 500, .inl (aN Sa))), (vb, .inl (E 0, 500, .inl An)), (vc, .inl (E 0, 500, .inl (aN Sd)))] (fun (r : Int32) (uu : (Nat → Nat) × (Nat → Int32) × (Nat → Nat) × Nat × Bool) => match uu with | (Sa2, An2, Sd2, z2, tl2) => (r = dlA (mvs U (eaF U (gdR T n (ovw R (fun _ => 0) 12) 12) (gdA T n 12)) 12 a (-1) 0)) ∧ (dlW (mvs U (eaF U (gdR T n (ovw R (fun _ => 0) 12) 12) (gdA T n 12)) 12 a (-1) 0) Sa An Sd Sa2 An2 Sd2 z2) ∧ (z2 ≤ 500)) (fun (uu : (Nat → Nat) × (Nat → Int32) × (Nat → Nat) × Nat × Bool) => match uu with | (Sa2, An2, Sd2, z2, tl2) => [(bb, .inr (0, [.ref h, .ref g, .ref li, .ref q, .ref v, .ref w])), (h, .inr (6, [.ref t, .ref u, .int (nI n)])), (t, .inl (E 0, 12, .inl (aN T))), (u, .inl (E 0, 12, .inl (aN U))), (q, .inr (1, [.ref qa, .int (nI (gdA T n 12))])), (qa, .inl (E 0, 12, .inl (aN (gdR T n (ovw R (fun _ => 0) 12) 12)))), (v, .inr (5, [.ref va, .ref vb, .ref vc, .int (nI z2), .int (bI tl2)])), (va, .inl (E 0, 500, .inl (aN Sa2))), (vb, .inl (E 0, 500, .inl An2)), (vc, .inl (E 0, 500, .inl (aN Sd2)))]) := by
  refine MI.of (by decide) (Nat.le_of_ble_eq_true rfl) ?_
  intro p e s m args below meth c A C hrt hlk hnm
  refine g_lv (lv' := [(0, .ref bb), (1, .int (nI a))]) rfl ?_
  refine g_aload_n C d_AB_dialogue_0 rfl 0 rfl ?_
  refine g_get C lay_AB 0 rfl rfl 0 (by decide) m_171 rfl d_AB_dialogue_1 ?_
  refine g_iload_n C d_AB_dialogue_4 rfl 1 rfl ?_
  refine g_iV (rest := []) (wr := [(bb, .inr (0, [.ref h, .ref g, .ref li, .ref q, .ref v, .ref w])), (q, .inr (1, [.ref qa, .int (nI al)])), (qa, .inl (E 0, 12, .inl (aN R))), (v, .inr (5, [.ref va, .ref vb, .ref vc, .int (nI z), .int (bI tl)])), (va, .inl (E 0, 500, .inl (aN Sa))), (vb, .inl (E 0, 500, .inl An)), (vc, .inl (E 0, 500, .inl (aN Sd)))]) C (c_Web_has l D E h t u n T U (nI a) ) rd_Web_has m_219 m_220 m_221 rfl rfl (Nat.le_of_ble_eq_true rfl) (Nat.le_of_ble_eq_true rfl) (Nat.le_of_ble_eq_true rfl) (Nat.le_of_ble_eq_true rfl) rfl rfl (Nat.le_of_ble_eq_true rfl) d_AB_dialogue_5 [1, 2, 3] [0, 4, 5, 6, 7, 8, 9] rfl (by decide) rfl (by decide) (by decide) (fun r5 _ (hr5 : r5 = bI (inR (nI a) n)) => ?_)
  subst hr5
  refine g_cells (ws' := [(bb, .inr (0, [.ref h, .ref g, .ref li, .ref q, .ref v, .ref w])), (h, .inr (6, [.ref t, .ref u, .int (nI n)])), (t, .inl (E 0, 12, .inl (aN T))), (u, .inl (E 0, 12, .inl (aN U))), (q, .inr (1, [.ref qa, .int (nI al)])), (qa, .inl (E 0, 12, .inl (aN R))), (v, .inr (5, [.ref va, .ref vb, .ref vc, .int (nI z), .int (bI tl)])), (va, .inl (E 0, 500, .inl (aN Sa))), (vb, .inl (E 0, 500, .inl An)), (vc, .inl (E 0, 500, .inl (aN Sd)))]) [0, 7, 8, 9, 1, 2, 3, 4, 5, 6] (by decide) rfl ?_
  refine g_if_neB (tgt := 21) C d_AB_dialogue_8 (by decide) (fun b0 => ?_) (fun b0 => ?_)
  · skip
    refine g_aload_n C d_AB_dialogue_21 rfl 0 rfl ?_
    refine g_get C lay_AB 0 rfl rfl 3 (by decide) m_174 rfl d_AB_dialogue_22 ?_
    refine g_aload_n C d_AB_dialogue_25 rfl 0 rfl ?_
    refine g_get C lay_AB 0 rfl rfl 0 (by decide) m_171 rfl d_AB_dialogue_26 ?_
    refine g_vV (rest := []) (wr := [(bb, .inr (0, [.ref h, .ref g, .ref li, .ref q, .ref v, .ref w])), (v, .inr (5, [.ref va, .ref vb, .ref vc, .int (nI z), .int (bI tl)])), (va, .inl (E 0, 500, .inl (aN Sa))), (vb, .inl (E 0, 500, .inl An)), (vc, .inl (E 0, 500, .inl (aN Sd)))]) C (c_Gr_settle l D E q qa R al h t u n T U hn hT) rd_Grounds_settle m_356 m_357 m_358 rfl rfl (Nat.le_of_ble_eq_true rfl) (Nat.le_of_ble_eq_true rfl) (Nat.le_of_ble_eq_true rfl) (Nat.le_of_ble_eq_true rfl) rfl rfl (Nat.le_of_ble_eq_true rfl) d_AB_dialogue_29 [4, 5, 1, 2, 3] [0, 6, 7, 8, 9] rfl (by decide) rfl (by decide) (by decide) (fun _ _ => ?_)
    refine g_cells (ws' := [(bb, .inr (0, [.ref h, .ref g, .ref li, .ref q, .ref v, .ref w])), (h, .inr (6, [.ref t, .ref u, .int (nI n)])), (t, .inl (E 0, 12, .inl (aN T))), (u, .inl (E 0, 12, .inl (aN U))), (q, .inr (1, [.ref qa, .int (nI (gdA T n 12))])), (qa, .inl (E 0, 12, .inl (aN (gdR T n (ovw R (fun _ => 0) 12) 12)))), (v, .inr (5, [.ref va, .ref vb, .ref vc, .int (nI z), .int (bI tl)])), (va, .inl (E 0, 500, .inl (aN Sa))), (vb, .inl (E 0, 500, .inl An)), (vc, .inl (E 0, 500, .inl (aN Sd)))]) [0, 7, 8, 9, 5, 6, 1, 2, 3, 4] (by decide) rfl ?_
    refine g_aload_n C d_AB_dialogue_32 rfl 0 rfl ?_
    refine g_get C lay_AB 0 rfl rfl 4 (by decide) m_175 rfl d_AB_dialogue_33 ?_
    refine g_iload_n C d_AB_dialogue_36 rfl 1 rfl ?_
    refine g_aload_n C d_AB_dialogue_37 rfl 0 rfl ?_
    refine g_get C lay_AB 0 rfl rfl 0 (by decide) m_171 rfl d_AB_dialogue_38 ?_
    refine g_aload_n C d_AB_dialogue_41 rfl 0 rfl ?_
    refine g_get C lay_AB 0 rfl rfl 3 (by decide) m_174 rfl d_AB_dialogue_42 ?_
    refine g_iV (rest := []) (wr := [(bb, .inr (0, [.ref h, .ref g, .ref li, .ref q, .ref v, .ref w]))]) C (c_Tk_about l D E v va vb vc Sa An Sd z tl h t u n T U q qa (gdR T n (ovw R (fun _ => 0) 12) 12) (gdA T n 12) a hn hU hR (gdA_lt hn _) hG ha hra hr12) rd_Talk_about m_605 m_606 m_607 rfl rfl (Nat.le_of_ble_eq_true rfl) (Nat.le_of_ble_eq_true rfl) (Nat.le_of_ble_eq_true rfl) (Nat.le_of_ble_eq_true rfl) rfl rfl (Nat.le_of_ble_eq_true rfl) d_AB_dialogue_45 [6, 7, 8, 9, 1, 2, 3, 4, 5] [0] rfl (by decide) rfl (by decide) (by decide) (fun r45 u45 hu45 => ?_)
    obtain ⟨Sa2_1, An2_2, Sd2_3, z2_4, tl2_5⟩ := u45
    obtain ⟨hr45, hw45, hz245⟩ : (r45 = dlA (mvs U (eaF U (gdR T n (ovw R (fun _ => 0) 12) 12) (gdA T n 12)) 12 a (-1) 0)) ∧ (dlW (mvs U (eaF U (gdR T n (ovw R (fun _ => 0) 12) 12) (gdA T n 12)) 12 a (-1) 0) Sa An Sd Sa2_1 An2_2 Sd2_3 z2_4) ∧ (z2_4 ≤ 500) := hu45
    subst hr45
    refine g_cells (ws' := [(bb, .inr (0, [.ref h, .ref g, .ref li, .ref q, .ref v, .ref w])), (h, .inr (6, [.ref t, .ref u, .int (nI n)])), (t, .inl (E 0, 12, .inl (aN T))), (u, .inl (E 0, 12, .inl (aN U))), (q, .inr (1, [.ref qa, .int (nI (gdA T n 12))])), (qa, .inl (E 0, 12, .inl (aN (gdR T n (ovw R (fun _ => 0) 12) 12)))), (v, .inr (5, [.ref va, .ref vb, .ref vc, .int (nI z2_4), .int (bI tl2_5)])), (va, .inl (E 0, 500, .inl (aN Sa2_1))), (vb, .inl (E 0, 500, .inl An2_2)), (vc, .inl (E 0, 500, .inl (aN Sd2_3)))]) [0, 5, 6, 7, 8, 9, 1, 2, 3, 4] (by decide) rfl ?_
    exact g_iret C hrt hlk (Sa2_1, An2_2, Sd2_3, z2_4, tl2_5) (⟨rfl, hw45, hz245⟩) rfl d_AB_dialogue_48
  · skip
    rw [inR_nI (by omega) (by omega)] at b0; simp at b0; omega
