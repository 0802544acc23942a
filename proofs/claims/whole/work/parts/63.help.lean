/-! The law's helpers. Written by gen_help.py. -/
abbrev rmH : Room := { frames := 40, cells := 1, slots := 6, locals := 900 }
/-- the law's array for an answer -/
abbrev ouC (E : Nat → ClassId) (ou : Nat) (f : Nat → Int64) : Nat × va_E := (ou, .inl (E 1, 1, .inr (.inl f)))
abbrev hwo (E : Nat → ClassId) (cA : Nat → Nat) (ou : Nat) : AS × (Nat → Int64) → va_W := fun u => aC E cA u.1 ++ [ouC E ou u.2]
set_option maxHeartbeats 4000000 in
set_option maxRecDepth 100000 in
theorem Hok_next {l : Launch} {D : va_G} {E : Nat → ClassId} {cA : Nat → Nat} {a : AS} {QA : Int32 → AS → Prop} (ou : Nat) (f : Nat → Int64) (hM : MI l D E y_AB_next (.code y_AB_next k_AB_next 1 (some .int)) rmA (.ref (cA 0) :: []) (aC E cA a) QA (aC E cA)) : MIT l D E y_Law_next (.codeWith y_Law_next k_Law_next 3 (some .int) [(0, 8, 11, 19)]) rmH [.ref (cA 0), .ref ou] (aC E cA a ++ [ouC E ou f]) (fun (k : Int32) (u : AS × (Nat → Int64)) => k = nI 0 ∧ ∃ r, QA r u.1 ∧ u.2 = vp_updL f 0 ((fun r : Int32 => r.toInt64) r)) (hwo E cA ou) := by
  refine MIT.of (by decide) (Nat.le_of_ble_eq_true rfl) ?_
  intro p e s m args below meth c A C K hex hrt hlk
  refine g_lv (lv' := [(0, .ref (cA 0)), (1, .ref ou)]) rfl ?_
  refine g_aload_n C d_Law_next_0 rfl 1 rfl ?_
  refine g_iconst (v := nI 0) C d_Law_next_1 (by decide) ?_
  refine g_aload_n C d_Law_next_2 rfl 0 rfl ?_
  refine g_iV (rest := [.int (nI 0), .ref ou]) (wr := [ouC E ou f]) C hM rd_AB_next m_530 m_531 m_532 rfl rfl (Nat.le_of_ble_eq_true rfl) (Nat.le_of_ble_eq_true rfl) (Nat.le_of_ble_eq_true rfl) (Nat.le_of_ble_eq_true rfl) rfl rfl (Nat.le_of_ble_eq_true rfl) d_Law_next_3 [0, 1, 2, 3, 4, 5, 6, 7, 8, 9, 10, 11, 12, 13, 14, 15, 16, 17] [18] rfl (by decide) rfl (by decide) (by decide) (fun r u hq => ?_)
  refine g_i2l C d_Law_next_6 ?_
  refine g_last C 0 rfl (show vp_in (nI 0) 1 from vp_in_nI (by decide) (by decide)) (ws' := ouC E ou (vp_updL f 0 r.toInt64) :: aC E cA u) rfl d_Law_next_7 ?_
  refine g_goto (tgt := 14) C d_Law_next_8 (by decide) ?_
  refine g_iconst (v := nI 0) C d_Law_next_14 (by decide) ?_
  refine g_cells (ws' := aC E cA u ++ [ouC E ou (vp_updL f 0 r.toInt64)]) [1, 2, 3, 4, 5, 6, 7, 8, 9, 10, 11, 12, 13, 14, 15, 16, 17, 18, 0] (by decide) rfl ?_
  refine g_widen (k := 1) (n := 6) (by decide) (by decide) ?_
  exact g_iret C hrt hlk (u, vp_updL f 0 r.toInt64) ⟨rfl, r, hq, rfl⟩ rfl d_Law_next_15
set_option maxHeartbeats 4000000 in
set_option maxRecDepth 100000 in
theorem His_next {l : Launch} {D : va_G} {E : Nat → ClassId} {cA : Nat → Nat} {a : AS} (ou : Nat) (f : Nat → Int64) (hT : MT l D E y_AB_next (.code y_AB_next k_AB_next 1 (some .int)) rmT (.ref (cA 0) :: []) (aC E cA a) isN) : MIT l D E y_Law_next (.codeWith y_Law_next k_Law_next 3 (some .int) [(0, 8, 11, 19)]) rmH [.ref (cA 0), .ref ou] (aC E cA a ++ [ouC E ou f]) (fun (k : Int32) (u : AS × (Nat → Int64)) => k = nI 1 ∧ u = (a, f)) (hwo E cA ou) := by
  refine MIT.of (by decide) (Nat.le_of_ble_eq_true rfl) ?_
  intro p e s m args below meth c A C K hex hrt hlk
  refine g_lv (lv' := [(0, .ref (cA 0)), (1, .ref ou)]) rfl ?_
  refine g_aload_n C d_Law_next_0 rfl 1 rfl ?_
  refine g_iconst (v := nI 0) C d_Law_next_1 (by decide) ?_
  refine g_aload_n C d_Law_next_2 rfl 0 rfl ?_
  obtain ⟨x0, ht, hx1, hx2, hx3, hx4⟩ := tab1 hex
  refine g_tV (rest := [.int (nI 0), .ref ou]) C K hT rd_AB_next m_530 m_531 m_532 rfl rfl (Nat.le_of_ble_eq_true rfl) (Nat.le_of_ble_eq_true rfl) (Nat.le_of_ble_eq_true rfl) (Nat.le_of_ble_eq_true rfl) rfl rfl (Nat.le_of_ble_eq_true rfl) d_Law_next_3 [0, 1, 2, 3, 4, 5, 6, 7, 8, 9, 10, 11, 12, 13, 14, 15, 16, 17] rfl (by decide) [] x0 [] ht (fun _ q => nomatch q) (cov hx1 hx2 (by decide) (by decide)) (by rw [hx4]; decide) (by rw [hx4]; exact m_529) (K.cast _ (by simp)) (fun q => ?_)
  rw [hx3]
  refine g_astore_n (lv' := [(2, .ref q), (0, .ref (cA 0)), (1, .ref ou)]) C d_Law_next_11 rfl (by decide) rfl ?_
  refine g_iconst (v := nI 1) C d_Law_next_12 (by decide) ?_
  exact g_iret C hrt hlk (a, f) ⟨rfl, rfl⟩ rfl d_Law_next_13
set_option maxHeartbeats 4000000 in
set_option maxRecDepth 100000 in
theorem Hok_label {l : Launch} {D : va_G} {E : Nat → ClassId} {cA : Nat → Nat} {a : AS} {QA : Int32 → AS → Prop} (ou : Nat) (f : Nat → Int64) (x : Int32) (hM : MI l D E y_AB_label (.code y_AB_label k_AB_label 3 (some .int)) rmA (.ref (cA 0) :: [.int x]) (aC E cA a) QA (aC E cA)) : MIT l D E y_Law_label (.codeWith y_Law_label k_Law_label 4 (some .int) [(0, 9, 12, 13), (0, 9, 15, 19)]) rmH [.ref (cA 0), .int x, .ref ou] (aC E cA a ++ [ouC E ou f]) (fun (k : Int32) (u : AS × (Nat → Int64)) => k = nI 0 ∧ ∃ r, QA r u.1 ∧ u.2 = vp_updL f 0 ((fun r : Int32 => r.toInt64) r)) (hwo E cA ou) := by
  refine MIT.of (by decide) (Nat.le_of_ble_eq_true rfl) ?_
  intro p e s m args below meth c A C K hex hrt hlk
  refine g_lv (lv' := [(0, .ref (cA 0)), (1, .int x), (2, .ref ou)]) rfl ?_
  refine g_aload_n C d_Law_label_0 rfl 2 rfl ?_
  refine g_iconst (v := nI 0) C d_Law_label_1 (by decide) ?_
  refine g_aload_n C d_Law_label_2 rfl 0 rfl ?_
  refine g_iload_n C d_Law_label_3 rfl 1 rfl ?_
  refine g_iV (rest := [.int (nI 0), .ref ou]) (wr := [ouC E ou f]) C hM rd_AB_label m_567 m_568 m_569 rfl rfl (Nat.le_of_ble_eq_true rfl) (Nat.le_of_ble_eq_true rfl) (Nat.le_of_ble_eq_true rfl) (Nat.le_of_ble_eq_true rfl) rfl rfl (Nat.le_of_ble_eq_true rfl) d_Law_label_4 [0, 1, 2, 3, 4, 5, 6, 7, 8, 9, 10, 11, 12, 13, 14, 15, 16, 17] [18] rfl (by decide) rfl (by decide) (by decide) (fun r u hq => ?_)
  refine g_i2l C d_Law_label_7 ?_
  refine g_last C 0 rfl (show vp_in (nI 0) 1 from vp_in_nI (by decide) (by decide)) (ws' := ouC E ou (vp_updL f 0 r.toInt64) :: aC E cA u) rfl d_Law_label_8 ?_
  refine g_goto (tgt := 18) C d_Law_label_9 (by decide) ?_
  refine g_iconst (v := nI 0) C d_Law_label_18 (by decide) ?_
  refine g_cells (ws' := aC E cA u ++ [ouC E ou (vp_updL f 0 r.toInt64)]) [1, 2, 3, 4, 5, 6, 7, 8, 9, 10, 11, 12, 13, 14, 15, 16, 17, 18, 0] (by decide) rfl ?_
  refine g_widen (k := 1) (n := 6) (by decide) (by decide) ?_
  exact g_iret C hrt hlk (u, vp_updL f 0 r.toInt64) ⟨rfl, r, hq, rfl⟩ rfl d_Law_label_19
set_option maxHeartbeats 4000000 in
set_option maxRecDepth 100000 in
theorem Hia_label {l : Launch} {D : va_G} {E : Nat → ClassId} {cA : Nat → Nat} {a : AS} (ou : Nat) (f : Nat → Int64) (x : Int32) (hT : MT l D E y_AB_label (.code y_AB_label k_AB_label 3 (some .int)) rmT (.ref (cA 0) :: [.int x]) (aC E cA a) iaN) : MIT l D E y_Law_label (.codeWith y_Law_label k_Law_label 4 (some .int) [(0, 9, 12, 13), (0, 9, 15, 19)]) rmH [.ref (cA 0), .int x, .ref ou] (aC E cA a ++ [ouC E ou f]) (fun (k : Int32) (u : AS × (Nat → Int64)) => k = nI 1 ∧ u = (a, f)) (hwo E cA ou) := by
  refine MIT.of (by decide) (Nat.le_of_ble_eq_true rfl) ?_
  intro p e s m args below meth c A C K hex hrt hlk
  refine g_lv (lv' := [(0, .ref (cA 0)), (1, .int x), (2, .ref ou)]) rfl ?_
  refine g_aload_n C d_Law_label_0 rfl 2 rfl ?_
  refine g_iconst (v := nI 0) C d_Law_label_1 (by decide) ?_
  refine g_aload_n C d_Law_label_2 rfl 0 rfl ?_
  refine g_iload_n C d_Law_label_3 rfl 1 rfl ?_
  obtain ⟨x0, x9, ht, ⟨hx1, hx2, hx3, hx4⟩, hz1, hz2, hz3, hz4⟩ := tab2 hex
  refine g_tV (rest := [.int (nI 0), .ref ou]) C K hT rd_AB_label m_567 m_568 m_569 rfl rfl (Nat.le_of_ble_eq_true rfl) (Nat.le_of_ble_eq_true rfl) (Nat.le_of_ble_eq_true rfl) (Nat.le_of_ble_eq_true rfl) rfl rfl (Nat.le_of_ble_eq_true rfl) d_Law_label_4 [0, 1, 2, 3, 4, 5, 6, 7, 8, 9, 10, 11, 12, 13, 14, 15, 16, 17] rfl (by decide) [] x0 [x9] ht (fun _ q => nomatch q) (cov hx1 hx2 (by decide) (by decide)) (by rw [hx4]; decide) (by rw [hx4]; exact m_450) (K.cast _ (by simp)) (fun q => ?_)
  rw [hx3]
  refine g_astore_n (lv' := [(3, .ref q), (0, .ref (cA 0)), (1, .int x), (2, .ref ou)]) C d_Law_label_12 rfl (by decide) rfl ?_
  refine g_iconst (v := nI 1) C d_Law_label_13 (by decide) ?_
  exact g_iret C hrt hlk (a, f) ⟨rfl, rfl⟩ rfl d_Law_label_14
set_option maxHeartbeats 4000000 in
set_option maxRecDepth 100000 in
theorem His_label {l : Launch} {D : va_G} {E : Nat → ClassId} {cA : Nat → Nat} {a : AS} (ou : Nat) (f : Nat → Int64) (x : Int32) (hT : MT l D E y_AB_label (.code y_AB_label k_AB_label 3 (some .int)) rmT (.ref (cA 0) :: [.int x]) (aC E cA a) isN) : MIT l D E y_Law_label (.codeWith y_Law_label k_Law_label 4 (some .int) [(0, 9, 12, 13), (0, 9, 15, 19)]) rmH [.ref (cA 0), .int x, .ref ou] (aC E cA a ++ [ouC E ou f]) (fun (k : Int32) (u : AS × (Nat → Int64)) => k = nI 2 ∧ u = (a, f)) (hwo E cA ou) := by
  refine MIT.of (by decide) (Nat.le_of_ble_eq_true rfl) ?_
  intro p e s m args below meth c A C K hex hrt hlk
  refine g_lv (lv' := [(0, .ref (cA 0)), (1, .int x), (2, .ref ou)]) rfl ?_
  refine g_aload_n C d_Law_label_0 rfl 2 rfl ?_
  refine g_iconst (v := nI 0) C d_Law_label_1 (by decide) ?_
  refine g_aload_n C d_Law_label_2 rfl 0 rfl ?_
  refine g_iload_n C d_Law_label_3 rfl 1 rfl ?_
  obtain ⟨x0, x9, ht, ⟨hx1, hx2, hx3, hx4⟩, hz1, hz2, hz3, hz4⟩ := tab2 hex
  refine g_tV (rest := [.int (nI 0), .ref ou]) C K hT rd_AB_label m_567 m_568 m_569 rfl rfl (Nat.le_of_ble_eq_true rfl) (Nat.le_of_ble_eq_true rfl) (Nat.le_of_ble_eq_true rfl) (Nat.le_of_ble_eq_true rfl) rfl rfl (Nat.le_of_ble_eq_true rfl) d_Law_label_4 [0, 1, 2, 3, 4, 5, 6, 7, 8, 9, 10, 11, 12, 13, 14, 15, 16, 17] rfl (by decide) [x0] x9 [] ht (fun y' hy' => by cases List.mem_singleton.mp hy'; exact ⟨by rw [hx4]; decide, iaN, by rw [hx4]; exact m_450, K.nc⟩) (cov hz1 hz2 (by decide) (by decide)) (by rw [hz4]; decide) (by rw [hz4]; exact m_529) (K.cast _ (by simp)) (fun q => ?_)
  rw [hz3]
  refine g_astore_n (lv' := [(3, .ref q), (0, .ref (cA 0)), (1, .int x), (2, .ref ou)]) C d_Law_label_15 rfl (by decide) rfl ?_
  refine g_iconst (v := nI 2) C d_Law_label_16 (by decide) ?_
  exact g_iret C hrt hlk (a, f) ⟨rfl, rfl⟩ rfl d_Law_label_17
set_option maxHeartbeats 4000000 in
set_option maxRecDepth 100000 in
theorem Hok_count {l : Launch} {D : va_G} {E : Nat → ClassId} {cA : Nat → Nat} {a : AS} {QA : Int32 → AS → Prop} (ou : Nat) (f : Nat → Int64) (x : Int32) (hM : MI l D E y_AB_count (.code y_AB_count k_AB_count 2 (some .int)) rmA (.ref (cA 0) :: [.int x]) (aC E cA a) QA (aC E cA)) : MIT l D E y_Law_count (.codeWith y_Law_count k_Law_count 4 (some .int) [(0, 9, 12, 13)]) rmH [.ref (cA 0), .int x, .ref ou] (aC E cA a ++ [ouC E ou f]) (fun (k : Int32) (u : AS × (Nat → Int64)) => k = nI 0 ∧ ∃ r, QA r u.1 ∧ u.2 = vp_updL f 0 ((fun r : Int32 => r.toInt64) r)) (hwo E cA ou) := by
  refine MIT.of (by decide) (Nat.le_of_ble_eq_true rfl) ?_
  intro p e s m args below meth c A C K hex hrt hlk
  refine g_lv (lv' := [(0, .ref (cA 0)), (1, .int x), (2, .ref ou)]) rfl ?_
  refine g_aload_n C d_Law_count_0 rfl 2 rfl ?_
  refine g_iconst (v := nI 0) C d_Law_count_1 (by decide) ?_
  refine g_aload_n C d_Law_count_2 rfl 0 rfl ?_
  refine g_iload_n C d_Law_count_3 rfl 1 rfl ?_
  refine g_iV (rest := [.int (nI 0), .ref ou]) (wr := [ouC E ou f]) C hM rd_AB_count m_581 m_582 m_583 rfl rfl (Nat.le_of_ble_eq_true rfl) (Nat.le_of_ble_eq_true rfl) (Nat.le_of_ble_eq_true rfl) (Nat.le_of_ble_eq_true rfl) rfl rfl (Nat.le_of_ble_eq_true rfl) d_Law_count_4 [0, 1, 2, 3, 4, 5, 6, 7, 8, 9, 10, 11, 12, 13, 14, 15, 16, 17] [18] rfl (by decide) rfl (by decide) (by decide) (fun r u hq => ?_)
  refine g_i2l C d_Law_count_7 ?_
  refine g_last C 0 rfl (show vp_in (nI 0) 1 from vp_in_nI (by decide) (by decide)) (ws' := ouC E ou (vp_updL f 0 r.toInt64) :: aC E cA u) rfl d_Law_count_8 ?_
  refine g_goto (tgt := 15) C d_Law_count_9 (by decide) ?_
  refine g_iconst (v := nI 0) C d_Law_count_15 (by decide) ?_
  refine g_cells (ws' := aC E cA u ++ [ouC E ou (vp_updL f 0 r.toInt64)]) [1, 2, 3, 4, 5, 6, 7, 8, 9, 10, 11, 12, 13, 14, 15, 16, 17, 18, 0] (by decide) rfl ?_
  refine g_widen (k := 1) (n := 6) (by decide) (by decide) ?_
  exact g_iret C hrt hlk (u, vp_updL f 0 r.toInt64) ⟨rfl, r, hq, rfl⟩ rfl d_Law_count_16
set_option maxHeartbeats 4000000 in
set_option maxRecDepth 100000 in
theorem Hia_count {l : Launch} {D : va_G} {E : Nat → ClassId} {cA : Nat → Nat} {a : AS} (ou : Nat) (f : Nat → Int64) (x : Int32) (hT : MT l D E y_AB_count (.code y_AB_count k_AB_count 2 (some .int)) rmT (.ref (cA 0) :: [.int x]) (aC E cA a) iaN) : MIT l D E y_Law_count (.codeWith y_Law_count k_Law_count 4 (some .int) [(0, 9, 12, 13)]) rmH [.ref (cA 0), .int x, .ref ou] (aC E cA a ++ [ouC E ou f]) (fun (k : Int32) (u : AS × (Nat → Int64)) => k = nI 1 ∧ u = (a, f)) (hwo E cA ou) := by
  refine MIT.of (by decide) (Nat.le_of_ble_eq_true rfl) ?_
  intro p e s m args below meth c A C K hex hrt hlk
  refine g_lv (lv' := [(0, .ref (cA 0)), (1, .int x), (2, .ref ou)]) rfl ?_
  refine g_aload_n C d_Law_count_0 rfl 2 rfl ?_
  refine g_iconst (v := nI 0) C d_Law_count_1 (by decide) ?_
  refine g_aload_n C d_Law_count_2 rfl 0 rfl ?_
  refine g_iload_n C d_Law_count_3 rfl 1 rfl ?_
  obtain ⟨x0, ht, hx1, hx2, hx3, hx4⟩ := tab1 hex
  refine g_tV (rest := [.int (nI 0), .ref ou]) C K hT rd_AB_count m_581 m_582 m_583 rfl rfl (Nat.le_of_ble_eq_true rfl) (Nat.le_of_ble_eq_true rfl) (Nat.le_of_ble_eq_true rfl) (Nat.le_of_ble_eq_true rfl) rfl rfl (Nat.le_of_ble_eq_true rfl) d_Law_count_4 [0, 1, 2, 3, 4, 5, 6, 7, 8, 9, 10, 11, 12, 13, 14, 15, 16, 17] rfl (by decide) [] x0 [] ht (fun _ q => nomatch q) (cov hx1 hx2 (by decide) (by decide)) (by rw [hx4]; decide) (by rw [hx4]; exact m_450) (K.cast _ (by simp)) (fun q => ?_)
  rw [hx3]
  refine g_astore_n (lv' := [(3, .ref q), (0, .ref (cA 0)), (1, .int x), (2, .ref ou)]) C d_Law_count_12 rfl (by decide) rfl ?_
  refine g_iconst (v := nI 1) C d_Law_count_13 (by decide) ?_
  exact g_iret C hrt hlk (a, f) ⟨rfl, rfl⟩ rfl d_Law_count_14
set_option maxHeartbeats 4000000 in
set_option maxRecDepth 100000 in
theorem Hok_dialogue {l : Launch} {D : va_G} {E : Nat → ClassId} {cA : Nat → Nat} {a : AS} {QA : Int32 → AS → Prop} (ou : Nat) (f : Nat → Int64) (x : Int32) (hM : MI l D E y_AB_dialogue (.code y_AB_dialogue k_AB_dialogue 2 (some .int)) rmA (.ref (cA 0) :: [.int x]) (aC E cA a) QA (aC E cA)) : MIT l D E y_Law_dialogue (.codeWith y_Law_dialogue k_Law_dialogue 4 (some .int) [(0, 9, 12, 13)]) rmH [.ref (cA 0), .int x, .ref ou] (aC E cA a ++ [ouC E ou f]) (fun (k : Int32) (u : AS × (Nat → Int64)) => k = nI 0 ∧ ∃ r, QA r u.1 ∧ u.2 = vp_updL f 0 ((fun r : Int32 => r.toInt64) r)) (hwo E cA ou) := by
  refine MIT.of (by decide) (Nat.le_of_ble_eq_true rfl) ?_
  intro p e s m args below meth c A C K hex hrt hlk
  refine g_lv (lv' := [(0, .ref (cA 0)), (1, .int x), (2, .ref ou)]) rfl ?_
  refine g_aload_n C d_Law_dialogue_0 rfl 2 rfl ?_
  refine g_iconst (v := nI 0) C d_Law_dialogue_1 (by decide) ?_
  refine g_aload_n C d_Law_dialogue_2 rfl 0 rfl ?_
  refine g_iload_n C d_Law_dialogue_3 rfl 1 rfl ?_
  refine g_iV (rest := [.int (nI 0), .ref ou]) (wr := [ouC E ou f]) C hM rd_AB_dialogue m_601 m_602 m_603 rfl rfl (Nat.le_of_ble_eq_true rfl) (Nat.le_of_ble_eq_true rfl) (Nat.le_of_ble_eq_true rfl) (Nat.le_of_ble_eq_true rfl) rfl rfl (Nat.le_of_ble_eq_true rfl) d_Law_dialogue_4 [0, 1, 2, 3, 4, 5, 6, 7, 8, 9, 10, 11, 12, 13, 14, 15, 16, 17] [18] rfl (by decide) rfl (by decide) (by decide) (fun r u hq => ?_)
  refine g_i2l C d_Law_dialogue_7 ?_
  refine g_last C 0 rfl (show vp_in (nI 0) 1 from vp_in_nI (by decide) (by decide)) (ws' := ouC E ou (vp_updL f 0 r.toInt64) :: aC E cA u) rfl d_Law_dialogue_8 ?_
  refine g_goto (tgt := 15) C d_Law_dialogue_9 (by decide) ?_
  refine g_iconst (v := nI 0) C d_Law_dialogue_15 (by decide) ?_
  refine g_cells (ws' := aC E cA u ++ [ouC E ou (vp_updL f 0 r.toInt64)]) [1, 2, 3, 4, 5, 6, 7, 8, 9, 10, 11, 12, 13, 14, 15, 16, 17, 18, 0] (by decide) rfl ?_
  refine g_widen (k := 1) (n := 6) (by decide) (by decide) ?_
  exact g_iret C hrt hlk (u, vp_updL f 0 r.toInt64) ⟨rfl, r, hq, rfl⟩ rfl d_Law_dialogue_16
set_option maxHeartbeats 4000000 in
set_option maxRecDepth 100000 in
theorem Hia_dialogue {l : Launch} {D : va_G} {E : Nat → ClassId} {cA : Nat → Nat} {a : AS} (ou : Nat) (f : Nat → Int64) (x : Int32) (hT : MT l D E y_AB_dialogue (.code y_AB_dialogue k_AB_dialogue 2 (some .int)) rmT (.ref (cA 0) :: [.int x]) (aC E cA a) iaN) : MIT l D E y_Law_dialogue (.codeWith y_Law_dialogue k_Law_dialogue 4 (some .int) [(0, 9, 12, 13)]) rmH [.ref (cA 0), .int x, .ref ou] (aC E cA a ++ [ouC E ou f]) (fun (k : Int32) (u : AS × (Nat → Int64)) => k = nI 1 ∧ u = (a, f)) (hwo E cA ou) := by
  refine MIT.of (by decide) (Nat.le_of_ble_eq_true rfl) ?_
  intro p e s m args below meth c A C K hex hrt hlk
  refine g_lv (lv' := [(0, .ref (cA 0)), (1, .int x), (2, .ref ou)]) rfl ?_
  refine g_aload_n C d_Law_dialogue_0 rfl 2 rfl ?_
  refine g_iconst (v := nI 0) C d_Law_dialogue_1 (by decide) ?_
  refine g_aload_n C d_Law_dialogue_2 rfl 0 rfl ?_
  refine g_iload_n C d_Law_dialogue_3 rfl 1 rfl ?_
  obtain ⟨x0, ht, hx1, hx2, hx3, hx4⟩ := tab1 hex
  refine g_tV (rest := [.int (nI 0), .ref ou]) C K hT rd_AB_dialogue m_601 m_602 m_603 rfl rfl (Nat.le_of_ble_eq_true rfl) (Nat.le_of_ble_eq_true rfl) (Nat.le_of_ble_eq_true rfl) (Nat.le_of_ble_eq_true rfl) rfl rfl (Nat.le_of_ble_eq_true rfl) d_Law_dialogue_4 [0, 1, 2, 3, 4, 5, 6, 7, 8, 9, 10, 11, 12, 13, 14, 15, 16, 17] rfl (by decide) [] x0 [] ht (fun _ q => nomatch q) (cov hx1 hx2 (by decide) (by decide)) (by rw [hx4]; decide) (by rw [hx4]; exact m_450) (K.cast _ (by simp)) (fun q => ?_)
  rw [hx3]
  refine g_astore_n (lv' := [(3, .ref q), (0, .ref (cA 0)), (1, .int x), (2, .ref ou)]) C d_Law_dialogue_12 rfl (by decide) rfl ?_
  refine g_iconst (v := nI 1) C d_Law_dialogue_13 (by decide) ?_
  exact g_iret C hrt hlk (a, f) ⟨rfl, rfl⟩ rfl d_Law_dialogue_14
set_option maxHeartbeats 4000000 in
set_option maxRecDepth 100000 in
theorem Hok_holds {l : Launch} {D : va_G} {E : Nat → ClassId} {cA : Nat → Nat} {a : AS} {QA : Int32 → AS → Prop} (ou : Nat) (f : Nat → Int64) (x : Int32) (y : Int32) (b : Int32) (hM : MI l D E y_AB_holds (.code y_AB_holds k_AB_holds 4 (some .boolean)) rmA (.ref (cA 0) :: [.int x, .int y, .int b]) (aC E cA a) QA (aC E cA)) : MIT l D E y_Law_holds (.codeWith y_Law_holds k_Law_holds 6 (some .int) [(0, 19, 22, 13)]) rmH [.ref (cA 0), .int x, .int y, .int b, .ref ou] (aC E cA a ++ [ouC E ou f]) (fun (k : Int32) (u : AS × (Nat → Int64)) => k = nI 0 ∧ ∃ r, QA r u.1 ∧ u.2 = vp_updL f 0 (zL r)) (hwo E cA ou) := by
  refine MIT.of (by decide) (Nat.le_of_ble_eq_true rfl) ?_
  intro p e s m args below meth c A C K hex hrt hlk
  refine g_lv (lv' := [(0, .ref (cA 0)), (1, .int x), (2, .int y), (3, .int b), (4, .ref ou)]) rfl ?_
  refine g_aload C d_Law_holds_0 4 rfl ?_
  refine g_iconst (v := nI 0) C d_Law_holds_2 (by decide) ?_
  refine g_aload_n C d_Law_holds_3 rfl 0 rfl ?_
  refine g_iload_n C d_Law_holds_4 rfl 1 rfl ?_
  refine g_iload_n C d_Law_holds_5 rfl 2 rfl ?_
  refine g_iload_n C d_Law_holds_6 rfl 3 rfl ?_
  refine g_iV (rest := [.int (nI 0), .ref ou]) (wr := [ouC E ou f]) C hM rd_AB_holds m_592 m_593 m_594 rfl rfl (Nat.le_of_ble_eq_true rfl) (Nat.le_of_ble_eq_true rfl) (Nat.le_of_ble_eq_true rfl) (Nat.le_of_ble_eq_true rfl) rfl rfl (Nat.le_of_ble_eq_true rfl) d_Law_holds_7 [0, 1, 2, 3, 4, 5, 6, 7, 8, 9, 10, 11, 12, 13, 14, 15, 16, 17] [18] rfl (by decide) rfl (by decide) (by decide) (fun r u hq => ?_)
  refine g_nzL C d_Law_holds_10 d_Law_holds_13 d_Law_holds_14 d_Law_holds_17 ?_
  refine g_last C 0 rfl (show vp_in (nI 0) 1 from vp_in_nI (by decide) (by decide)) (ws' := ouC E ou (vp_updL f 0 (zL r)) :: aC E cA u) rfl d_Law_holds_18 ?_
  refine g_goto (tgt := 26) C d_Law_holds_19 (by decide) ?_
  refine g_iconst (v := nI 0) C d_Law_holds_26 (by decide) ?_
  refine g_cells (ws' := aC E cA u ++ [ouC E ou (vp_updL f 0 (zL r))]) [1, 2, 3, 4, 5, 6, 7, 8, 9, 10, 11, 12, 13, 14, 15, 16, 17, 18, 0] (by decide) rfl ?_
  refine g_widen (k := 1) (n := 6) (by decide) (by decide) ?_
  exact g_iret C hrt hlk (u, vp_updL f 0 (zL r)) ⟨rfl, r, hq, rfl⟩ rfl d_Law_holds_27
set_option maxHeartbeats 4000000 in
set_option maxRecDepth 100000 in
theorem Hia_holds {l : Launch} {D : va_G} {E : Nat → ClassId} {cA : Nat → Nat} {a : AS} (ou : Nat) (f : Nat → Int64) (x : Int32) (y : Int32) (b : Int32) (hT : MT l D E y_AB_holds (.code y_AB_holds k_AB_holds 4 (some .boolean)) rmT (.ref (cA 0) :: [.int x, .int y, .int b]) (aC E cA a) iaN) : MIT l D E y_Law_holds (.codeWith y_Law_holds k_Law_holds 6 (some .int) [(0, 19, 22, 13)]) rmH [.ref (cA 0), .int x, .int y, .int b, .ref ou] (aC E cA a ++ [ouC E ou f]) (fun (k : Int32) (u : AS × (Nat → Int64)) => k = nI 1 ∧ u = (a, f)) (hwo E cA ou) := by
  refine MIT.of (by decide) (Nat.le_of_ble_eq_true rfl) ?_
  intro p e s m args below meth c A C K hex hrt hlk
  refine g_lv (lv' := [(0, .ref (cA 0)), (1, .int x), (2, .int y), (3, .int b), (4, .ref ou)]) rfl ?_
  refine g_aload C d_Law_holds_0 4 rfl ?_
  refine g_iconst (v := nI 0) C d_Law_holds_2 (by decide) ?_
  refine g_aload_n C d_Law_holds_3 rfl 0 rfl ?_
  refine g_iload_n C d_Law_holds_4 rfl 1 rfl ?_
  refine g_iload_n C d_Law_holds_5 rfl 2 rfl ?_
  refine g_iload_n C d_Law_holds_6 rfl 3 rfl ?_
  obtain ⟨x0, ht, hx1, hx2, hx3, hx4⟩ := tab1 hex
  refine g_tV (rest := [.int (nI 0), .ref ou]) C K hT rd_AB_holds m_592 m_593 m_594 rfl rfl (Nat.le_of_ble_eq_true rfl) (Nat.le_of_ble_eq_true rfl) (Nat.le_of_ble_eq_true rfl) (Nat.le_of_ble_eq_true rfl) rfl rfl (Nat.le_of_ble_eq_true rfl) d_Law_holds_7 [0, 1, 2, 3, 4, 5, 6, 7, 8, 9, 10, 11, 12, 13, 14, 15, 16, 17] rfl (by decide) [] x0 [] ht (fun _ q => nomatch q) (cov hx1 hx2 (by decide) (by decide)) (by rw [hx4]; decide) (by rw [hx4]; exact m_450) (K.cast _ (by simp)) (fun q => ?_)
  rw [hx3]
  refine g_astore (lv' := [(5, .ref q), (0, .ref (cA 0)), (1, .int x), (2, .int y), (3, .int b), (4, .ref ou)]) C d_Law_holds_22 (by decide) rfl ?_
  refine g_iconst (v := nI 1) C d_Law_holds_24 (by decide) ?_
  exact g_iret C hrt hlk (a, f) ⟨rfl, rfl⟩ rfl d_Law_holds_25
set_option maxHeartbeats 4000000 in
set_option maxRecDepth 100000 in
theorem Hok_start {l : Launch} {D : va_G} {E : Nat → ClassId} {cA : Nat → Nat} {a : AS} {QA : AS → Prop} (x : Int32) (hM : MV l D E y_AB_start (.code y_AB_start k_AB_start 2 none) rmA (.ref (cA 0) :: [.int x]) (aC E cA a) QA (aC E cA)) : MIT l D E y_Law_start (.codeWith y_Law_start k_Law_start 3 (some .int) [(0, 5, 8, 13)]) rmH [.ref (cA 0), .int x] (aC E cA a) (fun (k : Int32) (u : AS) => k = nI 0 ∧ QA u) (aC E cA) := by
  refine MIT.of (by decide) (Nat.le_of_ble_eq_true rfl) ?_
  intro p e s m args below meth c A C K hex hrt hlk
  refine g_lv (lv' := [(0, .ref (cA 0)), (1, .int x)]) rfl ?_
  refine g_aload_n C d_Law_start_0 rfl 0 rfl ?_
  refine g_iload_n C d_Law_start_1 rfl 1 rfl ?_
  refine g_vV (rest := []) (wr := []) C hM rd_AB_start m_451 m_452 m_453 rfl rfl (Nat.le_of_ble_eq_true rfl) (Nat.le_of_ble_eq_true rfl) (Nat.le_of_ble_eq_true rfl) (Nat.le_of_ble_eq_true rfl) rfl rfl (Nat.le_of_ble_eq_true rfl) d_Law_start_2 [0, 1, 2, 3, 4, 5, 6, 7, 8, 9, 10, 11, 12, 13, 14, 15, 16, 17] [] rfl (by decide) rfl (by decide) (by decide) (fun u hq => ?_)
  refine g_goto (tgt := 11) C d_Law_start_5 (by decide) ?_
  refine g_iconst (v := nI 0) C d_Law_start_11 (by decide) ?_
  refine g_widen (k := 1) (n := 6) (by decide) (by decide) ?_
  exact g_iret C hrt hlk u ⟨rfl, hq⟩ rfl d_Law_start_12
set_option maxHeartbeats 4000000 in
set_option maxRecDepth 100000 in
theorem Hia_start {l : Launch} {D : va_G} {E : Nat → ClassId} {cA : Nat → Nat} {a : AS} (x : Int32) (hT : MT l D E y_AB_start (.code y_AB_start k_AB_start 2 none) rmT (.ref (cA 0) :: [.int x]) (aC E cA a) iaN) : MIT l D E y_Law_start (.codeWith y_Law_start k_Law_start 3 (some .int) [(0, 5, 8, 13)]) rmH [.ref (cA 0), .int x] (aC E cA a) (fun (k : Int32) (u : AS) => k = nI 1 ∧ u = a) (aC E cA) := by
  refine MIT.of (by decide) (Nat.le_of_ble_eq_true rfl) ?_
  intro p e s m args below meth c A C K hex hrt hlk
  refine g_lv (lv' := [(0, .ref (cA 0)), (1, .int x)]) rfl ?_
  refine g_aload_n C d_Law_start_0 rfl 0 rfl ?_
  refine g_iload_n C d_Law_start_1 rfl 1 rfl ?_
  obtain ⟨x0, ht, hx1, hx2, hx3, hx4⟩ := tab1 hex
  refine g_tV (rest := []) C K hT rd_AB_start m_451 m_452 m_453 rfl rfl (Nat.le_of_ble_eq_true rfl) (Nat.le_of_ble_eq_true rfl) (Nat.le_of_ble_eq_true rfl) (Nat.le_of_ble_eq_true rfl) rfl rfl (Nat.le_of_ble_eq_true rfl) d_Law_start_2 [0, 1, 2, 3, 4, 5, 6, 7, 8, 9, 10, 11, 12, 13, 14, 15, 16, 17] rfl (by decide) [] x0 [] ht (fun _ q => nomatch q) (cov hx1 hx2 (by decide) (by decide)) (by rw [hx4]; decide) (by rw [hx4]; exact m_450) (K.cast _ (by simp)) (fun q => ?_)
  rw [hx3]
  refine g_astore_n (lv' := [(2, .ref q), (0, .ref (cA 0)), (1, .int x)]) C d_Law_start_8 rfl (by decide) rfl ?_
  refine g_iconst (v := nI 1) C d_Law_start_9 (by decide) ?_
  exact g_iret C hrt hlk a ⟨rfl, rfl⟩ rfl d_Law_start_10
/-- a helper's call and the reference's -/
def PRT (l : Launch) (D : va_G) (E : Nat → ClassId) (cA cO : Nat → Nat) (ou : Nat) (y1 : MethodName) (w1 : Cond) (y2 : MethodName) (w2 : Cond) (Z : Int32 → Int64) (hv as : List Value) (f : Nat → Int64) (a : AS) (o : OS) : Prop :=
  ∃ QA : Int32 → AS × (Nat → Int64) → Prop, MIT l D E y1 w1 rmH hv (aC E cA a ++ [ouC E ou f]) QA (hwo E cA ou) ∧ ∀ k u, QA k u → ∃ kk : Nat, k = nI kk ∧ kk < 3 ∧ MI l D E y2 w2 rmO (.ref (cO 0) :: as) (oC E cO o) (fun r' u' => u'.th = kk ∧ SIM u.1 u' ∧ (kk = 0 → u.2 0 = Z r')) (oC E cO)
section PRTs
variable {l : Launch} {D : va_G} {E : Nat → ClassId} {cA cO : Nat → Nat} {ou : Nat} {y1 : MethodName} {w1 : Cond} {y2 : MethodName} {w2 : Cond} {Z : Int32 → Int64} {hv as : List Value} {f : Nat → Int64} {a : AS} {o : OS}
theorem PRT.ok {QA : Int32 → AS → Prop} {QO : Int32 → OS → Prop} (hH : MIT l D E y1 w1 rmH hv (aC E cA a ++ [ouC E ou f]) (fun (k : Int32) (u : AS × (Nat → Int64)) => k = nI 0 ∧ ∃ r, QA r u.1 ∧ u.2 = vp_updL f 0 (Z r)) (hwo E cA ou)) (hO : MI l D E y2 w2 rmO (.ref (cO 0) :: as) (oC E cO o) QO (oC E cO)) (h : ∀ r u r' u', QA r u → QO r' u' → r' = r ∧ SIM u u' ∧ u'.th = 0) : PRT l D E cA cO ou y1 w1 y2 w2 Z hv as f a o := by
  refine ⟨_, hH, fun k u hq => ?_⟩
  obtain ⟨hk, r, hr, hf⟩ := hq
  refine ⟨0, hk, by decide, hO.post (fun r' u' hq' => ?_)⟩
  obtain ⟨h1, h2, h3⟩ := h r u.1 r' u' hr hq'
  exact ⟨h3, h2, fun _ => by rw [hf, h1]; simp [vp_updL]⟩
theorem PRT.th {QO : Int32 → OS → Prop} (kk : Nat) (hkk : 0 < kk ∧ kk < 3) (hH : MIT l D E y1 w1 rmH hv (aC E cA a ++ [ouC E ou f]) (fun (k : Int32) (u : AS × (Nat → Int64)) => k = nI kk ∧ u = (a, f)) (hwo E cA ou)) (hO : MI l D E y2 w2 rmO (.ref (cO 0) :: as) (oC E cO o) QO (oC E cO)) (h : ∀ r' u', QO r' u' → SIM a u' ∧ u'.th = kk) : PRT l D E cA cO ou y1 w1 y2 w2 Z hv as f a o := by
  refine ⟨_, hH, fun k u hq => ?_⟩
  obtain ⟨hk, hu⟩ := hq
  subst hu
  refine ⟨kk, hk, hkk.2, hO.post (fun r' u' hq' => ?_)⟩
  obtain ⟨h1, h2⟩ := h r' u' hq'
  exact ⟨h2, h1, fun q => absurd q (by omega)⟩
end PRTs
theorem R_next (l : Launch) (D : va_G) (E : Nat → ClassId) (cA cO : Nat → Nat) (ou : Nat) (f : Nat → Int64) (htr : TR l) {a : AS} {o : OS} (h : SIM a o) : PRT l D E cA cO ou y_Law_next (.codeWith y_Law_next k_Law_next 3 (some .int) [(0, 8, 11, 19)]) y_Mo_next (.code y_Mo_next k_Mo_next 2 (some .int)) (fun r : Int32 => r.toInt64) [.ref (cA 0), .ref ou] [] f a o := by
  refine h.un (motive := fun a o => PRT l D E cA cO ou y_Law_next (.codeWith y_Law_next k_Law_next 3 (some .int) [(0, 8, 11, 19)]) y_Mo_next (.code y_Mo_next k_Mo_next 2 (some .int)) (fun r : Int32 => r.toInt64) [.ref (cA 0), .ref ou] [] f a o) ?_
  clear h
  intro n T U TS M P tc ev kn op ki pl td R al Sa An Sd z tl X Y rz th kn2 lg td2 ld lt gr mv la HI KD HE AV MR Sy Ay Dy Sl Al Dl MX MC hn hC hL hR hS hK hr hX
  have hT := con_T hn hC
  have hU := con_U hn hC
  have hq := hR.q HE AV hn hC
  have hl := hL.q P hn hC
  obtain ⟨e1, e2, h5, h6, e3, h7⟩ := hS
  cases op with
  | false =>
    refine PRT.th 1 (by decide) (His_next ou f (T_next l D E cA _ rfl htr)) (O_nextNo l D E cO _ e1) ?_
    rintro r' u' ⟨rfl, rfl⟩
    exact ⟨SIM.mk rfl rfl rfl hn hC hL hR ⟨rfl, (fun q => nomatch q), h5, h6, e3, h7⟩ hK hr hX, rfl⟩
  | true =>
    obtain ⟨e4, e5⟩ := e2 rfl
    subst e4
    subst e5
    have hF := next_same (pl := lt) hl hq h5
    refine PRT.ok (Hok_next ou f (A_next l D E cA _ rfl hn hT hL.1 hL.2.1 h5 h6)) (O_next l D E cO _ e1 hn hT hU hR.1 hR.2.1 h5 h6) ?_
    rintro r u r' u' ⟨rfl, rfl⟩ ⟨kn1, H1, K1, E1, A1, R1, g1, ⟨rfl, hK1⟩, rfl⟩
    refine ⟨congrArg oI hF, ?_, rfl⟩
    refine SIM.mk rfl rfl rfl hn hC hl ?_ ?_ hK hr hX
    · rcases hK1 with ⟨-, q1, q2, q3, q4, q5, q6, q7⟩ | ⟨q1, q2, q3, q4, q5, q6, q7⟩
      · rw [q1, q2, q3, q6, q7]; exact hR
      · rw [q1, q2, q3, q6, q7]; exact hq
    · have hs : ∀ F : Option Nat, F = fstM (lnM kn T n TS M P) ld (lnEv kn n ev + 1 - lt) lt → LST n (true && F.isSome) ld (oP F lt) F F.isSome F.isSome ld (oP F lt) := by
        intro F hFe
        cases F with
        | none => exact ⟨rfl, fun q => absurd q (by decide), h5, h6, rfl, (fun _ q => nomatch q)⟩
        | some k =>
          have hk := fst_in hFe.symm
          have he := (hl.2.2 rfl).1
          have hp := p12_le hn
          have hp1 := Nat.one_le_two_pow (n := n)
          refine ⟨rfl, fun _ => ⟨rfl, rfl⟩, h5, ?_, rfl, fun k' q => ?_⟩
          · show k + 1 ≤ 4096
            omega
          · cases q
            exact ⟨rfl, by omega⟩
      have h9 := hs _ rfl
      have h10 : LST n (true && (fstM (lnM kn T n TS M P) ld (lnEv kn n ev + 1 - lt) lt).isSome) ld (oP (fstM (lnM kn T n TS M P) ld (lnEv kn n ev + 1 - lt) lt) lt) (fstM (lnM kn T n TS M P) ld (lnEv kn n ev + 1 - lt) lt) (fstM (qK kn2 T U n HI KD HE AV) ld (2 ^ n - lt) lt).isSome (fstM (qK kn2 T U n HI KD HE AV) ld (2 ^ n - lt) lt).isSome ld (oP (fstM (qK kn2 T U n HI KD HE AV) ld (2 ^ n - lt) lt) lt) := by
        rw [hF]; exact h9
      exact h10
theorem R_label (l : Launch) (D : va_G) (E : Nat → ClassId) (cA cO : Nat → Nat) (ou : Nat) (f : Nat → Int64) (htr : TR l) {a : AS} {o : OS} (h : SIM a o) (x : Int32) : PRT l D E cA cO ou y_Law_label (.codeWith y_Law_label k_Law_label 4 (some .int) [(0, 9, 12, 13), (0, 9, 15, 19)]) y_Mo_label (.code y_Mo_label k_Mo_label 2 (some .int)) (fun r : Int32 => r.toInt64) [.ref (cA 0), .int x, .ref ou] [.int x] f a o := by
  refine h.un (motive := fun a o => PRT l D E cA cO ou y_Law_label (.codeWith y_Law_label k_Law_label 4 (some .int) [(0, 9, 12, 13), (0, 9, 15, 19)]) y_Mo_label (.code y_Mo_label k_Mo_label 2 (some .int)) (fun r : Int32 => r.toInt64) [.ref (cA 0), .int x, .ref ou] [.int x] f a o) ?_
  clear h
  intro n T U TS M P tc ev kn op ki pl td R al Sa An Sd z tl X Y rz th kn2 lg td2 ld lt gr mv la HI KD HE AV MR Sy Ay Dy Sl Al Dl MX MC hn hC hL hR hS hK hr hX
  have hT := con_T hn hC
  have hU := con_U hn hC
  have hq := hR.q HE AV hn hC
  have hl := hL.q P hn hC
  cases hb : inR x n with
  | false =>
    refine PRT.th 1 (by decide) (Hia_label ou f x (T_labelBad l D E cA _ x hb htr)) (O_labelBad l D E cO _ x hb) ?_
    rintro r' u' ⟨rfl, rfl⟩
    exact ⟨SIM.mk rfl rfl rfl hn hC hL hR hS hK hr hX, rfl⟩
  | true =>
    obtain ⟨i, hi, rfl⟩ := inR_of hb
    obtain ⟨e1, e2, h5, h6, e3, h7⟩ := hS
    cases td with
    | none =>
      refine PRT.th 2 (by decide) (His_label ou f (nI i) (T_labelNo l D E cA _ (nI i) rfl hb htr)) (O_labelNo l D E cO _ i e3 hn hi) ?_
      rintro r' u' ⟨rfl, rfl⟩
      exact ⟨SIM.mk rfl rfl rfl hn hC hL hR ⟨e1, e2, h5, h6, rfl, (fun _ q => nomatch q)⟩ hK hr hX, rfl⟩
    | some k =>
      obtain ⟨e4, h2n⟩ := h7 k rfl
      have hp := p12_le hn
      refine PRT.ok (Hok_label ou f (nI i) (A_label l D E cA _ i k rfl hn hT hi (by omega))) (O_label l D E cO _ i k e3 e4 hn hT hU hR.1 hR.2.1 hi h2n) ?_
      rintro r u r' u' ⟨rfl, rfl⟩ ⟨rfl, rfl⟩
      exact ⟨congrArg (fun w : Nat => nI (if k.testBit i then 1 else if w.testBit i then 0 else 2)) ((hq.2.2.2 rfl).1 k h2n), SIM.mk rfl rfl rfl hn hC hL hq ⟨e1, fun q => ⟨(e2 q).1, e4.symm.trans (e2 q).2⟩, h5, h6, rfl, fun k' q => by cases q; exact ⟨rfl, h2n⟩⟩ hK hr hX, rfl⟩
theorem R_count (l : Launch) (D : va_G) (E : Nat → ClassId) (cA cO : Nat → Nat) (ou : Nat) (f : Nat → Int64) (htr : TR l) {a : AS} {o : OS} (h : SIM a o) (x : Int32) : PRT l D E cA cO ou y_Law_count (.codeWith y_Law_count k_Law_count 4 (some .int) [(0, 9, 12, 13)]) y_Mo_count (.code y_Mo_count k_Mo_count 4 (some .int)) (fun r : Int32 => r.toInt64) [.ref (cA 0), .int x, .ref ou] [.int x] f a o := by
  refine h.un (motive := fun a o => PRT l D E cA cO ou y_Law_count (.codeWith y_Law_count k_Law_count 4 (some .int) [(0, 9, 12, 13)]) y_Mo_count (.code y_Mo_count k_Mo_count 4 (some .int)) (fun r : Int32 => r.toInt64) [.ref (cA 0), .int x, .ref ou] [.int x] f a o) ?_
  clear h
  intro n T U TS M P tc ev kn op ki pl td R al Sa An Sd z tl X Y rz th kn2 lg td2 ld lt gr mv la HI KD HE AV MR Sy Ay Dy Sl Al Dl MX MC hn hC hL hR hS hK hr hX
  have hT := con_T hn hC
  have hU := con_U hn hC
  have hq := hR.q HE AV hn hC
  have hl := hL.q P hn hC
  cases hb : inR x 5 with
  | false =>
    refine PRT.th 1 (by decide) (Hia_count ou f x (T_count l D E cA _ x hb htr)) (O_countBad l D E cO _ x hn hb) ?_
    rintro r' u' ⟨rfl, rfl⟩
    exact ⟨SIM.mk rfl rfl rfl hn hC hL hR hS hK hr hX, rfl⟩
  | true =>
    obtain ⟨k, hk, rfl⟩ := inR_of hb
    refine PRT.ok (Hok_count ou f (nI k) (A_count l D E cA _ k hn hT hL.1 hL.2.1 hk)) (O_count l D E cO _ k hn hT hU hR.1 hR.2.1 hk) ?_
    rintro r u r' u' ⟨rfl, rfl⟩ ⟨rfl, rfl⟩
    exact ⟨congrArg nI (count_eq hl hq hk), SIM.mk rfl rfl rfl hn hC hl hq hS hK hr hX, rfl⟩
theorem R_holds (l : Launch) (D : va_G) (E : Nat → ClassId) (cA cO : Nat → Nat) (ou : Nat) (f : Nat → Int64) (htr : TR l) {a : AS} {o : OS} (h : SIM a o) (x y : Int32) (all : Bool) : PRT l D E cA cO ou y_Law_holds (.codeWith y_Law_holds k_Law_holds 6 (some .int) [(0, 19, 22, 13)]) y_Mo_holds (.code y_Mo_holds k_Mo_holds 7 (some .boolean)) zL [.ref (cA 0), .int x, .int y, .int (bI all), .ref ou] [.int x, .int y, .int (bI all)] f a o := by
  refine h.un (motive := fun a o => PRT l D E cA cO ou y_Law_holds (.codeWith y_Law_holds k_Law_holds 6 (some .int) [(0, 19, 22, 13)]) y_Mo_holds (.code y_Mo_holds k_Mo_holds 7 (some .boolean)) zL [.ref (cA 0), .int x, .int y, .int (bI all), .ref ou] [.int x, .int y, .int (bI all)] f a o) ?_
  clear h
  intro n T U TS M P tc ev kn op ki pl td R al Sa An Sd z tl X Y rz th kn2 lg td2 ld lt gr mv la HI KD HE AV MR Sy Ay Dy Sl Al Dl MX MC hn hC hL hR hS hK hr hX
  have hT := con_T hn hC
  have hU := con_U hn hC
  have hq := hR.q HE AV hn hC
  have hl := hL.q P hn hC
  cases hb : (inR x 5 && inR y n) with
  | false =>
    refine PRT.th 1 (by decide) (Hia_holds ou f x y (bI all) (T_holds l D E cA _ x y all hb htr)) (O_holdsBad l D E cO _ x y all hn hb) ?_
    rintro r' u' ⟨rfl, rfl⟩
    exact ⟨SIM.mk rfl rfl rfl hn hC hL hR hS hK hr hX, rfl⟩
  | true =>
    simp only [Bool.and_eq_true] at hb
    obtain ⟨h1, h2⟩ := hb
    obtain ⟨k, hk, rfl⟩ := inR_of h1
    obtain ⟨i, hi, rfl⟩ := inR_of h2
    refine PRT.ok (Hok_holds ou f (nI k) (nI i) (bI all) (A_holds l D E cA _ k i all hn hT hL.1 hL.2.1 hk hi)) (O_holds l D E cO _ k i all hn hT hU hR.1 hR.2.1 hk hi) ?_
    rintro r u r' u' ⟨rfl, rfl⟩ ⟨rfl, rfl⟩
    exact ⟨congrArg bI (holds_eq hl hq all hk hi), SIM.mk rfl rfl rfl hn hC hl hq hS hK hr hX, rfl⟩
theorem R_dialogue (l : Launch) (D : va_G) (E : Nat → ClassId) (cA cO : Nat → Nat) (ou : Nat) (f : Nat → Int64) (htr : TR l) {a : AS} {o : OS} (h : SIM a o) (x : Int32) : PRT l D E cA cO ou y_Law_dialogue (.codeWith y_Law_dialogue k_Law_dialogue 4 (some .int) [(0, 9, 12, 13)]) y_Mo_dialogue (.code y_Mo_dialogue k_Mo_dialogue 4 (some .int)) (fun r : Int32 => r.toInt64) [.ref (cA 0), .int x, .ref ou] [.int x] f a o := by
  refine h.un (motive := fun a o => PRT l D E cA cO ou y_Law_dialogue (.codeWith y_Law_dialogue k_Law_dialogue 4 (some .int) [(0, 9, 12, 13)]) y_Mo_dialogue (.code y_Mo_dialogue k_Mo_dialogue 4 (some .int)) (fun r : Int32 => r.toInt64) [.ref (cA 0), .int x, .ref ou] [.int x] f a o) ?_
  clear h
  intro n T U TS M P tc ev kn op ki pl td R al Sa An Sd z tl X Y rz th kn2 lg td2 ld lt gr mv la HI KD HE AV MR Sy Ay Dy Sl Al Dl MX MC hn hC hL hR hS hK hr hX
  have hT := con_T hn hC
  have hU := con_U hn hC
  have hq := hR.q HE AV hn hC
  have hl := hL.q P hn hC
  cases hb : inR x n with
  | false =>
    refine PRT.th 1 (by decide) (Hia_dialogue ou f x (T_dialogue l D E cA _ x hb htr)) (O_dialogueBad l D E cO _ x hb) ?_
    rintro r' u' ⟨rfl, rfl⟩
    exact ⟨SIM.mk rfl rfl rfl hn hC hL hR hS hK hr hX, rfl⟩
  | true =>
    obtain ⟨i, hi, rfl⟩ := inR_of hb
    have hRa : ∀ a, a < n → RND T n a ((gdR T n (ovw R (fun _ => 0) 12) 12) a) := fun a ha => gdR_RND (by omega) hn
    have hQa := (hq.2.2.2 rfl).2.2.2
    have hgb := gdR_b (T := T) (n := n) hr 12 (Nat.le_refl _)
    have hei : qR kn2 T U n HI MR i = (gdR T n (ovw R (fun _ => 0) 12) 12) i := RND_one (hQa i hi) (hRa i hi)
    by_cases h0 : (gdR T n (ovw R (fun _ => 0) 12) 12) i = 0
    · refine PRT.ok (Hok_dialogue ou f (nI i) (A_dialogue0 l D E cA _ i hn hT hU (fun a => Nat.lt_of_le_of_lt (hgb a) (by decide)) hi h0)) (O_dialogue0 l D E cO _ i hn hT hU hR.1 hR.2.1 hR.2.2.1 hi (hei.trans h0)) ?_
      rintro r u r' u' ⟨rfl, rfl⟩ ⟨rfl, rfl⟩
      exact ⟨rfl, SIM.mk rfl rfl rfl hn hC hL hq hS ⟨rfl, by decide, fun i q => absurd q (Nat.not_lt_zero i)⟩ hgb hX, rfl⟩
    · have hpos := Nat.pos_of_ne_zero h0
      refine PRT.ok (Hok_dialogue ou f (nI i) (A_dialogue l D E cA _ i hn hT hU (fun a => Nat.lt_of_le_of_lt (hgb a) (by decide)) (dg_ok hn hC hRa) hi hpos (hgb i))) (O_dialogue l D E cO _ i (eaO U (qR kn2 T U n HI MR) n) hn hT hU hR.1 hR.2.1 hR.2.2.1 hi (by show 0 < qR kn2 T U n HI MR i; rw [hei]; exact hpos) (de_ok hC hQa) ag_ok) ?_
      rintro r u r' u' ⟨Sa2, An2, Sd2, z2, tl2, ⟨rfl, hw, hz⟩, rfl⟩ ⟨S9, A9, D9, z9, S8, A8, D8, l8, ⟨rfl, hw9, hz9⟩, rfl⟩
      have hm := mvs_same hn hC hRa hQa 12 i hi hpos (-1) 0
      have h99 : dlW (mvs U (eaO U (qR kn2 T U n HI MR) n) 12 i (-1) 0) Sy Ay Dy S9 A9 D9 z9 := hw9
      rw [← hm] at h99
      exact ⟨congrArg dlA hm.symm, SIM.mk rfl rfl rfl hn hC hL hq hS (talk_same hw h99 hz) hgb hX, rfl⟩
theorem R_start (l : Launch) (D : va_G) (E : Nat → ClassId) (cA cO : Nat → Nat) (htr : TR l) {a : AS} {o : OS} (h : SIM a o) (x : Int32) : ∃ QA : Int32 → AS → Prop, MIT l D E y_Law_start (.codeWith y_Law_start k_Law_start 3 (some .int) [(0, 5, 8, 13)]) rmH [.ref (cA 0), .int x] (aC E cA a) QA (aC E cA) ∧ ∀ k u, QA k u → ∃ kk : Nat, k = nI kk ∧ kk < 3 ∧ MV l D E y_Mo_start (.code y_Mo_start k_Mo_start 2 none) rmO (.ref (cO 0) :: [.int x]) (oC E cO o) (fun u' => u'.th = kk ∧ SIM u u') (oC E cO) := by
  refine h.un (motive := fun a o => ∃ QA : Int32 → AS → Prop, MIT l D E y_Law_start (.codeWith y_Law_start k_Law_start 3 (some .int) [(0, 5, 8, 13)]) rmH [.ref (cA 0), .int x] (aC E cA a) QA (aC E cA) ∧ ∀ k u, QA k u → ∃ kk : Nat, k = nI kk ∧ kk < 3 ∧ MV l D E y_Mo_start (.code y_Mo_start k_Mo_start 2 none) rmO (.ref (cO 0) :: [.int x]) (oC E cO o) (fun u' => u'.th = kk ∧ SIM u u') (oC E cO)) ?_
  clear h
  intro n T U TS M P tc ev kn op ki pl td R al Sa An Sd z tl X Y rz th kn2 lg td2 ld lt gr mv la HI KD HE AV MR Sy Ay Dy Sl Al Dl MX MC hn hC hL hR hS hK hr hX
  cases hb : inR x 5 with
  | false =>
    refine ⟨_, Hia_start x (T_start l D E cA _ x hb htr), fun k9 u hq => ?_⟩
    obtain ⟨rfl, rfl⟩ := hq
    refine ⟨1, rfl, by decide, (O_startBad l D E cO _ x hb).post (fun u' hq' => ?_)⟩
    subst hq'
    exact ⟨rfl, SIM.mk rfl rfl rfl hn hC hL hR hS hK hr hX⟩
  | true =>
    obtain ⟨k, hk, rfl⟩ := inR_of hb
    refine ⟨_, Hok_start (nI k) (A_start l D E cA _ k hk), fun k9 u hq => ?_⟩
    obtain ⟨rfl, rfl⟩ := hq
    refine ⟨0, rfl, by decide, (O_start l D E cO _ k hk).post (fun u' hq' => ?_)⟩
    subst hq'
    exact ⟨rfl, SIM.mk rfl rfl rfl hn hC hL hR ⟨rfl, fun _ => ⟨rfl, rfl⟩, hk, by decide, rfl, (fun _ q => nomatch q)⟩ hK hr hX⟩
