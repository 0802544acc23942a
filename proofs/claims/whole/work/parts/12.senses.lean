set_option maxHeartbeats 4000000 in
set_option maxRecDepth 100000 in
theorem c_Se_forget (l : Launch) (D : va_G) (E : Nat → ClassId) (g : Nat) (ga : Nat) (gb : Nat) (gc : Nat) (TS : Nat → Nat) (M : Nat → Nat) (P : Nat → Nat) (tc : Nat) (ev : Nat) (kn : Bool)  : MV l D E y_Senses_forget (.code y_Senses_forget k_Senses_forget 1 none) ({ frames := 0, cells := 0, slots := 0, locals := 0 } : Room) [.ref g] [(g, .inr (4, [.ref ga, .ref gb, .ref gc, .int (nI tc), .int (nI ev), .int (bI kn)])), (ga, .inl (E 0, 4096, .inl (aN TS))), (gb, .inl (E 0, 4096, .inl (aN M))), (gc, .inl (E 0, 924, .inl (aN P)))] (fun _ : Unit => True) (fun _ : Unit => [(g, .inr (4, [.ref ga, .ref gb, .ref gc, .int (nI tc), .int (nI ev), .int (bI false)])), (ga, .inl (E 0, 4096, .inl (aN TS))), (gb, .inl (E 0, 4096, .inl (aN M))), (gc, .inl (E 0, 924, .inl (aN P)))]) := by
  refine MV.of (by decide) (Nat.le_of_ble_eq_true rfl) ?_
  intro p e s m args below meth c A C hrt hlk hnm
  refine g_lv (lv' := [(0, .ref g)]) rfl ?_
  refine g_aload_n C d_Senses_forget_0 rfl 0 rfl ?_
  refine g_iconst (v := nI 0) C d_Senses_forget_1 (by decide) ?_
  refine g_top (show nI 0 = bI false from rfl) ?_
  refine g_put (ws' := [(g, .inr (4, [.ref ga, .ref gb, .ref gc, .int (nI tc), .int (nI ev), .int (bI false)])), (ga, .inl (E 0, 4096, .inl (aN TS))), (gb, .inl (E 0, 4096, .inl (aN M))), (gc, .inl (E 0, 924, .inl (aN P)))]) C lay_Senses ty_Senses nm_Senses 0 rfl rfl 5 (by decide) m_87 rfl (bI_nar _) (bI_fit _) (Nat.le_of_ble_eq_true rfl) rfl d_Senses_forget_2 ?_
  exact g_vret C hrt hlk () (trivial) rfl d_Senses_forget_5

set_option maxHeartbeats 4000000 in
set_option maxRecDepth 100000 in
theorem c_Se_everything (l : Launch) (D : va_G) (E : Nat → ClassId) (g : Nat) (ga : Nat) (gb : Nat) (gc : Nat) (TS : Nat → Nat) (M : Nat → Nat) (P : Nat → Nat) (tc : Nat) (ev : Nat) (kn : Bool)  : MI l D E y_Senses_everything (.code y_Senses_everything k_Senses_everything 1 (some .int)) ({ frames := 0, cells := 0, slots := 0, locals := 0 } : Room) [.ref g] [(g, .inr (4, [.ref ga, .ref gb, .ref gc, .int (nI tc), .int (nI ev), .int (bI kn)])), (ga, .inl (E 0, 4096, .inl (aN TS))), (gb, .inl (E 0, 4096, .inl (aN M))), (gc, .inl (E 0, 924, .inl (aN P)))] (fun (r : Int32) (_ : Unit) => r = nI ev) (fun _ : Unit => [(g, .inr (4, [.ref ga, .ref gb, .ref gc, .int (nI tc), .int (nI ev), .int (bI kn)])), (ga, .inl (E 0, 4096, .inl (aN TS))), (gb, .inl (E 0, 4096, .inl (aN M))), (gc, .inl (E 0, 924, .inl (aN P)))]) := by
  refine MI.of (by decide) (Nat.le_of_ble_eq_true rfl) ?_
  intro p e s m args below meth c A C hrt hlk hnm
  refine g_lv (lv' := [(0, .ref g)]) rfl ?_
  refine g_aload_n C d_Senses_everything_0 rfl 0 rfl ?_
  refine g_get C lay_Senses 0 rfl rfl 4 (by decide) m_86 rfl d_Senses_everything_1 ?_
  exact g_iret C hrt hlk () (rfl) rfl d_Senses_everything_4

set_option maxHeartbeats 4000000 in
set_option maxRecDepth 100000 in
theorem c_Se_isNumber (l : Launch) (D : va_G) (E : Nat → ClassId) (x : Nat) (hx : x < 4096) : MI l D E y_Senses_isNumber (.code y_Senses_isNumber k_Senses_isNumber 1 (some .boolean)) ({ frames := 0, cells := 0, slots := 0, locals := 0 } : Room) [.int (nI x)] [] (fun (r : Int32) (_ : Unit) => r = bI true) (fun _ : Unit => []) := by
  refine MI.of (by decide) (Nat.le_of_ble_eq_true rfl) ?_
  intro p e s m args below meth c A C hrt hlk hnm
  refine g_lv (lv' := [(0, .int (nI x))]) rfl ?_
  refine g_iload_n C d_Senses_isNumber_0 rfl 0 rfl ?_
  refine g_if_ltN (tgt := 15) C (by omega) d_Senses_isNumber_1 (by decide) ?_
  refine g_iload_n C d_Senses_isNumber_4 rfl 0 rfl ?_
  refine g_sipush (v := nI 4096) C d_Senses_isNumber_5 (by decide) ?_
  refine g_icmp_geN (tgt := 15) C (by omega) (by decide) d_Senses_isNumber_8 (by decide) (fun b1 => ?_) (fun b1 => ?_)
  · skip
    exact absurd b1 (by omega)
  · skip
    refine g_iconst (v := nI 1) C d_Senses_isNumber_11 (by decide) ?_
    refine g_goto (tgt := 16) C d_Senses_isNumber_12 (by decide) ?_
    refine g_top (show nI 1 = bI true from rfl) ?_
    exact g_zret C hrt hlk () (rfl) rfl d_Senses_isNumber_16

set_option maxHeartbeats 4000000 in
set_option maxRecDepth 100000 in
theorem c_Se_hasMark (l : Launch) (D : va_G) (E : Nat → ClassId) (g : Nat) (ga : Nat) (gb : Nat) (gc : Nat) (TS : Nat → Nat) (M : Nat → Nat) (P : Nat → Nat) (tc : Nat) (ev : Nat) (kn : Bool) (x : Nat) (mk : Nat) (hx : x < 4096) (hm : mk < 2 ^ 31) : MI l D E y_Senses_hasMark (.code y_Senses_hasMark k_Senses_hasMark 3 (some .boolean)) ({ frames := 1, cells := 0, slots := 0, locals := 20 } : Room) [.ref g, .int (nI x), .int (nI mk)] [(g, .inr (4, [.ref ga, .ref gb, .ref gc, .int (nI tc), .int (nI ev), .int (bI kn)])), (ga, .inl (E 0, 4096, .inl (aN TS))), (gb, .inl (E 0, 4096, .inl (aN M))), (gc, .inl (E 0, 924, .inl (aN P)))] (fun (r : Int32) (_ : Unit) => r = bI (M x &&& mk != 0)) (fun _ : Unit => [(g, .inr (4, [.ref ga, .ref gb, .ref gc, .int (nI tc), .int (nI ev), .int (bI kn)])), (ga, .inl (E 0, 4096, .inl (aN TS))), (gb, .inl (E 0, 4096, .inl (aN M))), (gc, .inl (E 0, 924, .inl (aN P)))]) := by
  refine MI.of (by decide) (Nat.le_of_ble_eq_true rfl) ?_
  intro p e s m args below meth c A C hrt hlk hnm
  refine g_lv (lv' := [(0, .ref g), (1, .int (nI x)), (2, .int (nI mk))]) rfl ?_
  refine g_iload_n C d_Senses_hasMark_0 rfl 1 rfl ?_
  refine g_iS (rest := []) (wr := [(g, .inr (4, [.ref ga, .ref gb, .ref gc, .int (nI tc), .int (nI ev), .int (bI kn)])), (ga, .inl (E 0, 4096, .inl (aN TS))), (gb, .inl (E 0, 4096, .inl (aN M))), (gc, .inl (E 0, 924, .inl (aN P)))]) C (c_Se_isNumber l D E x hx) rd_Senses_isNumber m_303 m_304 (Nat.le_of_ble_eq_true rfl) (Nat.le_of_ble_eq_true rfl) (Nat.le_of_ble_eq_true rfl) (Nat.le_of_ble_eq_true rfl) rfl rfl (Nat.le_of_ble_eq_true rfl) d_Senses_hasMark_1 [] [0, 1, 2, 3] rfl (by decide) rfl (by decide) (by decide) (fun r1 _ (hr1 : r1 = bI true) => ?_)
  subst hr1
  refine g_cells (ws' := [(g, .inr (4, [.ref ga, .ref gb, .ref gc, .int (nI tc), .int (nI ev), .int (bI kn)])), (ga, .inl (E 0, 4096, .inl (aN TS))), (gb, .inl (E 0, 4096, .inl (aN M))), (gc, .inl (E 0, 924, .inl (aN P)))]) [0, 1, 2, 3] (by decide) rfl ?_
  refine g_if_eqB (tgt := 22) C d_Senses_hasMark_4 (by decide) (fun h => absurd h (by decide)) (fun _ => ?_)
  refine g_aload_n C d_Senses_hasMark_7 rfl 0 rfl ?_
  refine g_get C lay_Senses 0 rfl rfl 1 (by decide) m_83 rfl d_Senses_hasMark_8 ?_
  refine g_iload_n C d_Senses_hasMark_11 rfl 1 rfl ?_
  refine g_ialdN C 2 rfl (by omega) (by decide) d_Senses_hasMark_12 ?_
  refine g_top (show (aN M) x = nI (M x) from rfl) ?_
  refine g_iload_n C d_Senses_hasMark_13 rfl 2 rfl ?_
  refine g_iandN C d_Senses_hasMark_14 ?_
  refine g_if_eqN (tgt := 22) C (and_lt hm) d_Senses_hasMark_15 (by decide) (fun b1 => ?_) (fun b1 => ?_)
  · skip
    refine g_iconst (v := nI 0) C d_Senses_hasMark_22 (by decide) ?_
    refine g_top (show nI 0 = bI false from rfl) ?_
    exact g_zret C hrt hlk () (congrArg bI (by simp [b1])) rfl d_Senses_hasMark_23
  · skip
    refine g_iconst (v := nI 1) C d_Senses_hasMark_18 (by decide) ?_
    refine g_goto (tgt := 23) C d_Senses_hasMark_19 (by decide) ?_
    refine g_top (show nI 1 = bI true from rfl) ?_
    exact g_zret C hrt hlk () (congrArg bI (by simp [b1])) rfl d_Senses_hasMark_23

set_option maxHeartbeats 4000000 in
set_option maxRecDepth 100000 in
theorem c_Se_mark (l : Launch) (D : va_G) (E : Nat → ClassId) (g : Nat) (ga : Nat) (gb : Nat) (gc : Nat) (TS : Nat → Nat) (M : Nat → Nat) (P : Nat → Nat) (tc : Nat) (ev : Nat) (kn : Bool) (x : Nat) (mk : Nat) (hx : x < 4096) (hm : mk < 2 ^ 31) : MV l D E y_Senses_mark (.code y_Senses_mark k_Senses_mark 3 none) ({ frames := 1, cells := 0, slots := 0, locals := 20 } : Room) [.ref g, .int (nI x), .int (nI mk)] [(g, .inr (4, [.ref ga, .ref gb, .ref gc, .int (nI tc), .int (nI ev), .int (bI kn)])), (ga, .inl (E 0, 4096, .inl (aN TS))), (gb, .inl (E 0, 4096, .inl (aN M))), (gc, .inl (E 0, 924, .inl (aN P)))] (fun _ : Unit => True) (fun _ : Unit => [(g, .inr (4, [.ref ga, .ref gb, .ref gc, .int (nI tc), .int (nI ev), .int (bI kn)])), (ga, .inl (E 0, 4096, .inl (aN TS))), (gb, .inl (E 0, 4096, .inl (aN (va_up M x (M x ||| mk))))), (gc, .inl (E 0, 924, .inl (aN P)))]) := by
  refine MV.of (by decide) (Nat.le_of_ble_eq_true rfl) ?_
  intro p e s m args below meth c A C hrt hlk hnm
  refine g_lv (lv' := [(0, .ref g), (1, .int (nI x)), (2, .int (nI mk))]) rfl ?_
  refine g_iload_n C d_Senses_mark_0 rfl 1 rfl ?_
  refine g_iS (rest := []) (wr := [(g, .inr (4, [.ref ga, .ref gb, .ref gc, .int (nI tc), .int (nI ev), .int (bI kn)])), (ga, .inl (E 0, 4096, .inl (aN TS))), (gb, .inl (E 0, 4096, .inl (aN M))), (gc, .inl (E 0, 924, .inl (aN P)))]) C (c_Se_isNumber l D E x hx) rd_Senses_isNumber m_303 m_304 (Nat.le_of_ble_eq_true rfl) (Nat.le_of_ble_eq_true rfl) (Nat.le_of_ble_eq_true rfl) (Nat.le_of_ble_eq_true rfl) rfl rfl (Nat.le_of_ble_eq_true rfl) d_Senses_mark_1 [] [0, 1, 2, 3] rfl (by decide) rfl (by decide) (by decide) (fun r1 _ (hr1 : r1 = bI true) => ?_)
  subst hr1
  refine g_cells (ws' := [(g, .inr (4, [.ref ga, .ref gb, .ref gc, .int (nI tc), .int (nI ev), .int (bI kn)])), (ga, .inl (E 0, 4096, .inl (aN TS))), (gb, .inl (E 0, 4096, .inl (aN M))), (gc, .inl (E 0, 924, .inl (aN P)))]) [0, 1, 2, 3] (by decide) rfl ?_
  refine g_if_eqB (tgt := 17) C d_Senses_mark_4 (by decide) (fun h => absurd h (by decide)) (fun _ => ?_)
  refine g_aload_n C d_Senses_mark_7 rfl 0 rfl ?_
  refine g_get C lay_Senses 0 rfl rfl 1 (by decide) m_83 rfl d_Senses_mark_8 ?_
  refine g_iload_n C d_Senses_mark_11 rfl 1 rfl ?_
  refine g_dup2 C d_Senses_mark_12 rfl rfl ?_
  refine g_ialdN C 2 rfl (by omega) (by decide) d_Senses_mark_13 ?_
  refine g_top (show (aN M) x = nI (M x) from rfl) ?_
  refine g_iload_n C d_Senses_mark_14 rfl 2 rfl ?_
  refine g_iorN C d_Senses_mark_15 ?_
  refine g_iastN (f' := aN (va_up M x ((M x) ||| mk))) (ws' := [(g, .inr (4, [.ref ga, .ref gb, .ref gc, .int (nI tc), .int (nI ev), .int (bI kn)])), (ga, .inl (E 0, 4096, .inl (aN TS))), (gb, .inl (E 0, 4096, .inl (aN (va_up M x ((M x) ||| mk))))), (gc, .inl (E 0, 924, .inl (aN P)))]) C 2 rfl (by omega) (by decide) (aN_up _ _ _) rfl d_Senses_mark_16 ?_
  exact g_vret C hrt hlk () (trivial) rfl d_Senses_mark_17

set_option maxHeartbeats 4000000 in
set_option maxRecDepth 100000 in
theorem c_Se_hitBy (l : Launch) (D : va_G) (E : Nat → ClassId) (g : Nat) (ga : Nat) (gb : Nat) (gc : Nat) (TS : Nat → Nat) (M : Nat → Nat) (P : Nat → Nat) (tc : Nat) (ev : Nat) (kn : Bool) (x : Nat) (hx : x < 4096) : MI l D E y_Senses_hitBy (.code y_Senses_hitBy k_Senses_hitBy 2 (some .int)) ({ frames := 1, cells := 0, slots := 0, locals := 20 } : Room) [.ref g, .int (nI x)] [(g, .inr (4, [.ref ga, .ref gb, .ref gc, .int (nI tc), .int (nI ev), .int (bI kn)])), (ga, .inl (E 0, 4096, .inl (aN TS))), (gb, .inl (E 0, 4096, .inl (aN M))), (gc, .inl (E 0, 924, .inl (aN P)))] (fun (r : Int32) (_ : Unit) => r = nI (TS x)) (fun _ : Unit => [(g, .inr (4, [.ref ga, .ref gb, .ref gc, .int (nI tc), .int (nI ev), .int (bI kn)])), (ga, .inl (E 0, 4096, .inl (aN TS))), (gb, .inl (E 0, 4096, .inl (aN M))), (gc, .inl (E 0, 924, .inl (aN P)))]) := by
  refine MI.of (by decide) (Nat.le_of_ble_eq_true rfl) ?_
  intro p e s m args below meth c A C hrt hlk hnm
  refine g_lv (lv' := [(0, .ref g), (1, .int (nI x))]) rfl ?_
  refine g_iload_n C d_Senses_hitBy_0 rfl 1 rfl ?_
  refine g_iS (rest := []) (wr := [(g, .inr (4, [.ref ga, .ref gb, .ref gc, .int (nI tc), .int (nI ev), .int (bI kn)])), (ga, .inl (E 0, 4096, .inl (aN TS))), (gb, .inl (E 0, 4096, .inl (aN M))), (gc, .inl (E 0, 924, .inl (aN P)))]) C (c_Se_isNumber l D E x hx) rd_Senses_isNumber m_303 m_304 (Nat.le_of_ble_eq_true rfl) (Nat.le_of_ble_eq_true rfl) (Nat.le_of_ble_eq_true rfl) (Nat.le_of_ble_eq_true rfl) rfl rfl (Nat.le_of_ble_eq_true rfl) d_Senses_hitBy_1 [] [0, 1, 2, 3] rfl (by decide) rfl (by decide) (by decide) (fun r1 _ (hr1 : r1 = bI true) => ?_)
  subst hr1
  refine g_cells (ws' := [(g, .inr (4, [.ref ga, .ref gb, .ref gc, .int (nI tc), .int (nI ev), .int (bI kn)])), (ga, .inl (E 0, 4096, .inl (aN TS))), (gb, .inl (E 0, 4096, .inl (aN M))), (gc, .inl (E 0, 924, .inl (aN P)))]) [0, 1, 2, 3] (by decide) rfl ?_
  refine g_if_eqB (tgt := 16) C d_Senses_hitBy_4 (by decide) (fun h => absurd h (by decide)) (fun _ => ?_)
  refine g_aload_n C d_Senses_hitBy_7 rfl 0 rfl ?_
  refine g_get C lay_Senses 0 rfl rfl 0 (by decide) m_82 rfl d_Senses_hitBy_8 ?_
  refine g_iload_n C d_Senses_hitBy_11 rfl 1 rfl ?_
  refine g_ialdN C 1 rfl (by omega) (by decide) d_Senses_hitBy_12 ?_
  refine g_top (show (aN TS) x = nI (TS x) from rfl) ?_
  refine g_goto (tgt := 17) C d_Senses_hitBy_13 (by decide) ?_
  exact g_iret C hrt hlk () (rfl) rfl d_Senses_hitBy_17

set_option maxHeartbeats 4000000 in
set_option maxRecDepth 100000 in
theorem c_Se_rangeOf (l : Launch) (D : va_G) (E : Nat → ClassId) (g : Nat) (ga : Nat) (gb : Nat) (gc : Nat) (TS : Nat → Nat) (M : Nat → Nat) (P : Nat → Nat) (tc : Nat) (ev : Nat) (kn : Bool) (x : Nat) (hx : x < 4096) : MI l D E y_Senses_rangeOf (.code y_Senses_rangeOf k_Senses_rangeOf 2 (some .int)) ({ frames := 2, cells := 0, slots := 0, locals := 41 } : Room) [.ref g, .int (nI x)] [(g, .inr (4, [.ref ga, .ref gb, .ref gc, .int (nI tc), .int (nI ev), .int (bI kn)])), (ga, .inl (E 0, 4096, .inl (aN TS))), (gb, .inl (E 0, 4096, .inl (aN M))), (gc, .inl (E 0, 924, .inl (aN P)))] (fun (r : Int32) (_ : Unit) => r = nI (x ||| TS x)) (fun _ : Unit => [(g, .inr (4, [.ref ga, .ref gb, .ref gc, .int (nI tc), .int (nI ev), .int (bI kn)])), (ga, .inl (E 0, 4096, .inl (aN TS))), (gb, .inl (E 0, 4096, .inl (aN M))), (gc, .inl (E 0, 924, .inl (aN P)))]) := by
  refine MI.of (by decide) (Nat.le_of_ble_eq_true rfl) ?_
  intro p e s m args below meth c A C hrt hlk hnm
  refine g_lv (lv' := [(0, .ref g), (1, .int (nI x))]) rfl ?_
  refine g_iload_n C d_Senses_rangeOf_0 rfl 1 rfl ?_
  refine g_aload_n C d_Senses_rangeOf_1 rfl 0 rfl ?_
  refine g_iload_n C d_Senses_rangeOf_2 rfl 1 rfl ?_
  refine g_iV (rest := [.int (nI x)]) (wr := []) C (c_Se_hitBy l D E g ga gb gc TS M P tc ev kn x hx) rd_Senses_hitBy m_299 m_301 m_3 rfl rfl (Nat.le_of_ble_eq_true rfl) (Nat.le_of_ble_eq_true rfl) (Nat.le_of_ble_eq_true rfl) (Nat.le_of_ble_eq_true rfl) rfl rfl (Nat.le_of_ble_eq_true rfl) d_Senses_rangeOf_3 [0, 1, 2, 3] [] rfl (by decide) rfl (by decide) (by decide) (fun r3 _ (hr3 : r3 = nI (TS x)) => ?_)
  subst hr3
  refine g_cells (ws' := [(g, .inr (4, [.ref ga, .ref gb, .ref gc, .int (nI tc), .int (nI ev), .int (bI kn)])), (ga, .inl (E 0, 4096, .inl (aN TS))), (gb, .inl (E 0, 4096, .inl (aN M))), (gc, .inl (E 0, 924, .inl (aN P)))]) [0, 1, 2, 3] (by decide) rfl ?_
  refine g_iorN C d_Senses_rangeOf_6 ?_
  exact g_iret C hrt hlk () (rfl) rfl d_Senses_rangeOf_7

set_option maxHeartbeats 4000000 in
set_option maxRecDepth 100000 in
theorem c_Se_isOf (l : Launch) (D : va_G) (E : Nat → ClassId) (g : Nat) (ga : Nat) (gb : Nat) (gc : Nat) (TS : Nat → Nat) (M : Nat → Nat) (P : Nat → Nat) (tc : Nat) (ev : Nat) (kn : Bool) (k : Nat) (x : Nat) (hk : k < 31) (hx : x < 4096) : MI l D E y_Senses_isOf (.code y_Senses_isOf k_Senses_isOf 3 (some .boolean)) ({ frames := 2, cells := 0, slots := 0, locals := 42 } : Room) [.ref g, .int (nI k), .int (nI x)] [(g, .inr (4, [.ref ga, .ref gb, .ref gc, .int (nI tc), .int (nI ev), .int (bI kn)])), (ga, .inl (E 0, 4096, .inl (aN TS))), (gb, .inl (E 0, 4096, .inl (aN M))), (gc, .inl (E 0, 924, .inl (aN P)))] (fun (r : Int32) (_ : Unit) => r = bI ((M x).testBit k)) (fun _ : Unit => [(g, .inr (4, [.ref ga, .ref gb, .ref gc, .int (nI tc), .int (nI ev), .int (bI kn)])), (ga, .inl (E 0, 4096, .inl (aN TS))), (gb, .inl (E 0, 4096, .inl (aN M))), (gc, .inl (E 0, 924, .inl (aN P)))]) := by
  refine MI.of (by decide) (Nat.le_of_ble_eq_true rfl) ?_
  intro p e s m args below meth c A C hrt hlk hnm
  refine g_lv (lv' := [(0, .ref g), (1, .int (nI k)), (2, .int (nI x))]) rfl ?_
  refine g_aload_n C d_Senses_isOf_0 rfl 0 rfl ?_
  refine g_iload_n C d_Senses_isOf_1 rfl 2 rfl ?_
  refine g_iconst (v := nI 1) C d_Senses_isOf_2 (by decide) ?_
  refine g_iload_n C d_Senses_isOf_3 rfl 1 rfl ?_
  refine g_ishl1N C (by omega) d_Senses_isOf_4 ?_
  refine g_iV (rest := []) (wr := []) C (c_Se_hasMark l D E g ga gb gc TS M P tc ev kn x (2 ^ k) hx (pow_lt hk)) rd_Senses_hasMark m_315 m_317 m_6 rfl rfl (Nat.le_of_ble_eq_true rfl) (Nat.le_of_ble_eq_true rfl) (Nat.le_of_ble_eq_true rfl) (Nat.le_of_ble_eq_true rfl) rfl rfl (Nat.le_of_ble_eq_true rfl) d_Senses_isOf_5 [0, 1, 2, 3] [] rfl (by decide) rfl (by decide) (by decide) (fun r5 _ (hr5 : r5 = bI (M x &&& (2 ^ k) != 0)) => ?_)
  subst hr5
  refine g_cells (ws' := [(g, .inr (4, [.ref ga, .ref gb, .ref gc, .int (nI tc), .int (nI ev), .int (bI kn)])), (ga, .inl (E 0, 4096, .inl (aN TS))), (gb, .inl (E 0, 4096, .inl (aN M))), (gc, .inl (E 0, 924, .inl (aN P)))]) [0, 1, 2, 3] (by decide) rfl ?_
  exact g_zret C hrt hlk () (congrArg bI bit_and) rfl d_Senses_isOf_8

set_option maxHeartbeats 4000000 in
set_option maxRecDepth 100000 in
theorem c_Se_tally (l : Launch) (D : va_G) (E : Nat → ClassId) (g : Nat) (ga : Nat) (gb : Nat) (gc : Nat) (TS : Nat → Nat) (M : Nat → Nat) (P : Nat → Nat) (tc : Nat) (ev : Nat) (kn : Bool) (k : Nat) (hev : ev < 4096) (hk : k < 31) : MI l D E y_Senses_tally (.code y_Senses_tally k_Senses_tally 4 (some .int)) ({ frames := 3, cells := 0, slots := 0, locals := 64 } : Room) [.ref g, .int (nI k)] [(g, .inr (4, [.ref ga, .ref gb, .ref gc, .int (nI tc), .int (nI ev), .int (bI kn)])), (ga, .inl (E 0, 4096, .inl (aN TS))), (gb, .inl (E 0, 4096, .inl (aN M))), (gc, .inl (E 0, 924, .inl (aN P)))] (fun (r : Int32) (_ : Unit) => r = nI (cntM M k (ev + 1))) (fun _ : Unit => [(g, .inr (4, [.ref ga, .ref gb, .ref gc, .int (nI tc), .int (nI ev), .int (bI kn)])), (ga, .inl (E 0, 4096, .inl (aN TS))), (gb, .inl (E 0, 4096, .inl (aN M))), (gc, .inl (E 0, 924, .inl (aN P)))]) := by
  refine MI.of (by decide) (Nat.le_of_ble_eq_true rfl) ?_
  intro p e s m args below meth c A C hrt hlk hnm
  refine g_lv (lv' := [(0, .ref g), (1, .int (nI k))]) rfl ?_
  refine g_iconst (v := nI 0) C d_Senses_tally_0 (by decide) ?_
  refine g_istore_n (lv' := [(2, .int (nI 0)), (0, .ref g), (1, .int (nI k))]) C d_Senses_tally_1 rfl (by decide) rfl ?_
  refine g_iconst (v := nI 0) C d_Senses_tally_2 (by decide) ?_
  refine g_istore_n (lv' := [(3, .int (nI 0)), (2, .int (nI 0)), (0, .ref g), (1, .int (nI k))]) C d_Senses_tally_3 rfl (by decide) rfl ?_
  have loop4 : ∀ (f : Nat) (i : Nat) (acc : Nat), (i ≤ ev + 1) → (acc = cntM M k i) → ev + 1 - i < f → GG p l e ({ frames := 3, cells := 0, slots := 0, locals := 64 } : Room) s m args below meth c (MQ below (va_Qi (fun (r : Int32) (_ : Unit) => r = nI (cntM M k (ev + 1))) (BC D A (fun _ : Unit => [(g, .inr (4, [.ref ga, .ref gb, .ref gc, .int (nI tc), .int (nI ev), .int (bI kn)])), (ga, .inl (E 0, 4096, .inl (aN TS))), (gb, .inl (E 0, 4096, .inl (aN M))), (gc, .inl (E 0, 924, .inl (aN P)))])) A) args s (({ frames := 3, cells := 0, slots := 0, locals := 64 } : Room)).cells (({ frames := 3, cells := 0, slots := 0, locals := 64 } : Room)).slots A) D A 4 0 0 4 [(0, .ref g), (1, .int (nI k)), (2, .int (nI acc)), (3, .int (nI i))] [] [(g, .inr (4, [.ref ga, .ref gb, .ref gc, .int (nI tc), .int (nI ev), .int (bI kn)])), (ga, .inl (E 0, 4096, .inl (aN TS))), (gb, .inl (E 0, 4096, .inl (aN M))), (gc, .inl (E 0, 924, .inl (aN P)))] := by
    intro f
    induction f with
    | zero => intro i acc hi ha hf; exact absurd hf (Nat.not_lt_zero _)
    | succ f ih =>
      intro i acc hi ha hf
      have ih4 := ih
      refine g_iload_n C d_Senses_tally_4 rfl 3 rfl ?_
      refine g_aload_n C d_Senses_tally_5 rfl 0 rfl ?_
      refine g_get C lay_Senses 0 rfl rfl 4 (by decide) m_86 rfl d_Senses_tally_6 ?_
      refine g_icmp_gtN (tgt := 30) C (by omega) (by omega) d_Senses_tally_9 (by decide) (fun b0 => ?_) (fun b0 => ?_)
      · skip
        refine g_iload_n C d_Senses_tally_30 rfl 2 rfl ?_
        exact g_iret C hrt hlk () (by rw [ha, show i = ev + 1 by omega]) rfl d_Senses_tally_31
      · skip
        refine g_aload_n C d_Senses_tally_12 rfl 0 rfl ?_
        refine g_iload_n C d_Senses_tally_13 rfl 1 rfl ?_
        refine g_iload_n C d_Senses_tally_14 rfl 3 rfl ?_
        refine g_iV (rest := []) (wr := []) C (c_Se_isOf l D E g ga gb gc TS M P tc ev kn k i (by omega) (by omega)) rd_Senses_isOf m_386 m_336 m_337 rfl rfl (Nat.le_of_ble_eq_true rfl) (Nat.le_of_ble_eq_true rfl) (Nat.le_of_ble_eq_true rfl) (Nat.le_of_ble_eq_true rfl) rfl rfl (Nat.le_of_ble_eq_true rfl) d_Senses_tally_15 [0, 1, 2, 3] [] rfl (by decide) rfl (by decide) (by decide) (fun r15 _ (hr15 : r15 = bI ((M i).testBit k)) => ?_)
        subst hr15
        refine g_cells (ws' := [(g, .inr (4, [.ref ga, .ref gb, .ref gc, .int (nI tc), .int (nI ev), .int (bI kn)])), (ga, .inl (E 0, 4096, .inl (aN TS))), (gb, .inl (E 0, 4096, .inl (aN M))), (gc, .inl (E 0, 924, .inl (aN P)))]) [0, 1, 2, 3] (by decide) rfl ?_
        refine g_if_eqB (tgt := 24) C d_Senses_tally_18 (by decide) (fun b1 => ?_) (fun b1 => ?_)
        · skip
          refine g_iinc (lv' := [(3, .int (nI (i + 1))), (0, .ref g), (1, .int (nI k)), (2, .int (nI acc))]) C d_Senses_tally_24 3 rfl (nI_1 _) (by decide) rfl ?_
          refine g_goto (tgt := 4) C d_Senses_tally_27 (by decide) ?_
          refine g_perm [1, 2, 3, 0] rfl ?_
          exact ih4 (i + 1) acc (by omega) (by simp [cntM, *]) (by omega)
        · skip
          refine g_iinc (lv' := [(2, .int (nI (acc + 1))), (0, .ref g), (1, .int (nI k)), (3, .int (nI i))]) C d_Senses_tally_21 2 rfl (nI_1 _) (by decide) rfl ?_
          refine g_iinc (lv' := [(3, .int (nI (i + 1))), (2, .int (nI (acc + 1))), (0, .ref g), (1, .int (nI k))]) C d_Senses_tally_24 3 rfl (nI_1 _) (by decide) rfl ?_
          refine g_goto (tgt := 4) C d_Senses_tally_27 (by decide) ?_
          refine g_perm [2, 3, 1, 0] rfl ?_
          exact ih4 (i + 1) (acc + 1) (by omega) (by simp [cntM, *]) (by omega)
  refine g_perm [2, 3, 1, 0] rfl ?_
  exact loop4 (ev + 1 - 0 + 1) 0 0 (Nat.zero_le _) (rfl) (Nat.lt_succ_self _)

set_option maxHeartbeats 4000000 in
set_option maxRecDepth 100000 in
theorem c_Se_meet (l : Launch) (D : va_G) (E : Nat → ClassId) (g : Nat) (ga : Nat) (gb : Nat) (gc : Nat) (TS : Nat → Nat) (M : Nat → Nat) (P : Nat → Nat) (tc : Nat) (ev : Nat) (kn : Bool) (k : Nat) (hev : ev < 4096) (hk : k < 31) : MI l D E y_Senses_meet (.code y_Senses_meet k_Senses_meet 4 (some .int)) ({ frames := 3, cells := 0, slots := 0, locals := 64 } : Room) [.ref g, .int (nI k)] [(g, .inr (4, [.ref ga, .ref gb, .ref gc, .int (nI tc), .int (nI ev), .int (bI kn)])), (ga, .inl (E 0, 4096, .inl (aN TS))), (gb, .inl (E 0, 4096, .inl (aN M))), (gc, .inl (E 0, 924, .inl (aN P)))] (fun (r : Int32) (_ : Unit) => r = nI (metM M k ev (ev + 1))) (fun _ : Unit => [(g, .inr (4, [.ref ga, .ref gb, .ref gc, .int (nI tc), .int (nI ev), .int (bI kn)])), (ga, .inl (E 0, 4096, .inl (aN TS))), (gb, .inl (E 0, 4096, .inl (aN M))), (gc, .inl (E 0, 924, .inl (aN P)))]) := by
  refine MI.of (by decide) (Nat.le_of_ble_eq_true rfl) ?_
  intro p e s m args below meth c A C hrt hlk hnm
  refine g_lv (lv' := [(0, .ref g), (1, .int (nI k))]) rfl ?_
  refine g_aload_n C d_Senses_meet_0 rfl 0 rfl ?_
  refine g_get C lay_Senses 0 rfl rfl 4 (by decide) m_86 rfl d_Senses_meet_1 ?_
  refine g_istore_n (lv' := [(2, .int (nI ev)), (0, .ref g), (1, .int (nI k))]) C d_Senses_meet_4 rfl (by decide) rfl ?_
  refine g_iconst (v := nI 0) C d_Senses_meet_5 (by decide) ?_
  refine g_istore_n (lv' := [(3, .int (nI 0)), (2, .int (nI ev)), (0, .ref g), (1, .int (nI k))]) C d_Senses_meet_6 rfl (by decide) rfl ?_
  have loop7 : ∀ (f : Nat) (i : Nat) (acc : Nat), (i ≤ ev + 1) → (acc = metM M k ev i) → ev + 1 - i < f → GG p l e ({ frames := 3, cells := 0, slots := 0, locals := 64 } : Room) s m args below meth c (MQ below (va_Qi (fun (r : Int32) (_ : Unit) => r = nI (metM M k ev (ev + 1))) (BC D A (fun _ : Unit => [(g, .inr (4, [.ref ga, .ref gb, .ref gc, .int (nI tc), .int (nI ev), .int (bI kn)])), (ga, .inl (E 0, 4096, .inl (aN TS))), (gb, .inl (E 0, 4096, .inl (aN M))), (gc, .inl (E 0, 924, .inl (aN P)))])) A) args s (({ frames := 3, cells := 0, slots := 0, locals := 64 } : Room)).cells (({ frames := 3, cells := 0, slots := 0, locals := 64 } : Room)).slots A) D A 4 0 0 7 [(0, .ref g), (1, .int (nI k)), (2, .int (nI acc)), (3, .int (nI i))] [] [(g, .inr (4, [.ref ga, .ref gb, .ref gc, .int (nI tc), .int (nI ev), .int (bI kn)])), (ga, .inl (E 0, 4096, .inl (aN TS))), (gb, .inl (E 0, 4096, .inl (aN M))), (gc, .inl (E 0, 924, .inl (aN P)))] := by
    intro f
    induction f with
    | zero => intro i acc hi ha hf; exact absurd hf (Nat.not_lt_zero _)
    | succ f ih =>
      intro i acc hi ha hf
      have ih7 := ih
      refine g_iload_n C d_Senses_meet_7 rfl 3 rfl ?_
      refine g_aload_n C d_Senses_meet_8 rfl 0 rfl ?_
      refine g_get C lay_Senses 0 rfl rfl 4 (by decide) m_86 rfl d_Senses_meet_9 ?_
      refine g_icmp_gtN (tgt := 34) C (by omega) (by omega) d_Senses_meet_12 (by decide) (fun b0 => ?_) (fun b0 => ?_)
      · skip
        refine g_iload_n C d_Senses_meet_34 rfl 2 rfl ?_
        exact g_iret C hrt hlk () (by rw [ha, show i = ev + 1 by omega]) rfl d_Senses_meet_35
      · skip
        refine g_aload_n C d_Senses_meet_15 rfl 0 rfl ?_
        refine g_iload_n C d_Senses_meet_16 rfl 1 rfl ?_
        refine g_iload_n C d_Senses_meet_17 rfl 3 rfl ?_
        refine g_iV (rest := []) (wr := []) C (c_Se_isOf l D E g ga gb gc TS M P tc ev kn k i (by omega) (by omega)) rd_Senses_isOf m_386 m_336 m_337 rfl rfl (Nat.le_of_ble_eq_true rfl) (Nat.le_of_ble_eq_true rfl) (Nat.le_of_ble_eq_true rfl) (Nat.le_of_ble_eq_true rfl) rfl rfl (Nat.le_of_ble_eq_true rfl) d_Senses_meet_18 [0, 1, 2, 3] [] rfl (by decide) rfl (by decide) (by decide) (fun r18 _ (hr18 : r18 = bI ((M i).testBit k)) => ?_)
        subst hr18
        refine g_cells (ws' := [(g, .inr (4, [.ref ga, .ref gb, .ref gc, .int (nI tc), .int (nI ev), .int (bI kn)])), (ga, .inl (E 0, 4096, .inl (aN TS))), (gb, .inl (E 0, 4096, .inl (aN M))), (gc, .inl (E 0, 924, .inl (aN P)))]) [0, 1, 2, 3] (by decide) rfl ?_
        refine g_if_eqB (tgt := 28) C d_Senses_meet_21 (by decide) (fun b1 => ?_) (fun b1 => ?_)
        · skip
          refine g_iinc (lv' := [(3, .int (nI (i + 1))), (0, .ref g), (1, .int (nI k)), (2, .int (nI acc))]) C d_Senses_meet_28 3 rfl (nI_1 _) (by decide) rfl ?_
          refine g_goto (tgt := 7) C d_Senses_meet_31 (by decide) ?_
          refine g_perm [1, 2, 3, 0] rfl ?_
          exact ih7 (i + 1) acc (by omega) (by simp [metM, *]) (by omega)
        · skip
          refine g_iload_n C d_Senses_meet_24 rfl 2 rfl ?_
          refine g_iload_n C d_Senses_meet_25 rfl 3 rfl ?_
          refine g_iandN C d_Senses_meet_26 ?_
          refine g_istore_n (lv' := [(2, .int (nI (acc &&& i))), (0, .ref g), (1, .int (nI k)), (3, .int (nI i))]) C d_Senses_meet_27 rfl (by decide) rfl ?_
          refine g_iinc (lv' := [(3, .int (nI (i + 1))), (2, .int (nI (acc &&& i))), (0, .ref g), (1, .int (nI k))]) C d_Senses_meet_28 3 rfl (nI_1 _) (by decide) rfl ?_
          refine g_goto (tgt := 7) C d_Senses_meet_31 (by decide) ?_
          refine g_perm [2, 3, 1, 0] rfl ?_
          exact ih7 (i + 1) (acc &&& i) (by omega) (by simp [metM, *]) (by omega)
  refine g_perm [2, 3, 1, 0] rfl ?_
  exact loop7 (ev + 1 - 0 + 1) 0 ev (Nat.zero_le _) (rfl) (Nat.lt_succ_self _)

set_option maxHeartbeats 4000000 in
set_option maxRecDepth 100000 in
theorem c_Se_joinWithin (l : Launch) (D : va_G) (E : Nat → ClassId) (g : Nat) (ga : Nat) (gb : Nat) (gc : Nat) (TS : Nat → Nat) (M : Nat → Nat) (P : Nat → Nat) (tc : Nat) (ev : Nat) (kn : Bool) (k : Nat) (bd : Nat) (hev : ev < 4096) (hk : k < 31) : MI l D E y_Senses_joinWithin (.code y_Senses_joinWithin k_Senses_joinWithin 5 (some .int)) ({ frames := 3, cells := 0, slots := 0, locals := 64 } : Room) [.ref g, .int (nI k), .int (nI bd)] [(g, .inr (4, [.ref ga, .ref gb, .ref gc, .int (nI tc), .int (nI ev), .int (bI kn)])), (ga, .inl (E 0, 4096, .inl (aN TS))), (gb, .inl (E 0, 4096, .inl (aN M))), (gc, .inl (E 0, 924, .inl (aN P)))] (fun (r : Int32) (_ : Unit) => r = nI (joiM M k bd (ev + 1))) (fun _ : Unit => [(g, .inr (4, [.ref ga, .ref gb, .ref gc, .int (nI tc), .int (nI ev), .int (bI kn)])), (ga, .inl (E 0, 4096, .inl (aN TS))), (gb, .inl (E 0, 4096, .inl (aN M))), (gc, .inl (E 0, 924, .inl (aN P)))]) := by
  refine MI.of (by decide) (Nat.le_of_ble_eq_true rfl) ?_
  intro p e s m args below meth c A C hrt hlk hnm
  refine g_lv (lv' := [(0, .ref g), (1, .int (nI k)), (2, .int (nI bd))]) rfl ?_
  refine g_iconst (v := nI 0) C d_Senses_joinWithin_0 (by decide) ?_
  refine g_istore_n (lv' := [(3, .int (nI 0)), (0, .ref g), (1, .int (nI k)), (2, .int (nI bd))]) C d_Senses_joinWithin_1 rfl (by decide) rfl ?_
  refine g_iconst (v := nI 0) C d_Senses_joinWithin_2 (by decide) ?_
  refine g_istore (lv' := [(4, .int (nI 0)), (3, .int (nI 0)), (0, .ref g), (1, .int (nI k)), (2, .int (nI bd))]) C d_Senses_joinWithin_3 (by decide) rfl ?_
  have loop5 : ∀ (f : Nat) (i : Nat) (acc : Nat), (i ≤ ev + 1) → (acc = joiM M k bd i) → ev + 1 - i < f → GG p l e ({ frames := 3, cells := 0, slots := 0, locals := 64 } : Room) s m args below meth c (MQ below (va_Qi (fun (r : Int32) (_ : Unit) => r = nI (joiM M k bd (ev + 1))) (BC D A (fun _ : Unit => [(g, .inr (4, [.ref ga, .ref gb, .ref gc, .int (nI tc), .int (nI ev), .int (bI kn)])), (ga, .inl (E 0, 4096, .inl (aN TS))), (gb, .inl (E 0, 4096, .inl (aN M))), (gc, .inl (E 0, 924, .inl (aN P)))])) A) args s (({ frames := 3, cells := 0, slots := 0, locals := 64 } : Room)).cells (({ frames := 3, cells := 0, slots := 0, locals := 64 } : Room)).slots A) D A 5 0 0 5 [(0, .ref g), (1, .int (nI k)), (2, .int (nI bd)), (3, .int (nI acc)), (4, .int (nI i))] [] [(g, .inr (4, [.ref ga, .ref gb, .ref gc, .int (nI tc), .int (nI ev), .int (bI kn)])), (ga, .inl (E 0, 4096, .inl (aN TS))), (gb, .inl (E 0, 4096, .inl (aN M))), (gc, .inl (E 0, 924, .inl (aN P)))] := by
    intro f
    induction f with
    | zero => intro i acc hi ha hf; exact absurd hf (Nat.not_lt_zero _)
    | succ f ih =>
      intro i acc hi ha hf
      have ih5 := ih
      refine g_iload C d_Senses_joinWithin_5 4 rfl ?_
      refine g_aload_n C d_Senses_joinWithin_7 rfl 0 rfl ?_
      refine g_get C lay_Senses 0 rfl rfl 4 (by decide) m_86 rfl d_Senses_joinWithin_8 ?_
      refine g_icmp_gtN (tgt := 44) C (by omega) (by omega) d_Senses_joinWithin_11 (by decide) (fun b0 => ?_) (fun b0 => ?_)
      · skip
        refine g_iload_n C d_Senses_joinWithin_44 rfl 3 rfl ?_
        exact g_iret C hrt hlk () (by rw [ha, show i = ev + 1 by omega]) rfl d_Senses_joinWithin_45
      · skip
        refine g_iload C d_Senses_joinWithin_14 4 rfl ?_
        refine g_iload_n C d_Senses_joinWithin_16 rfl 2 rfl ?_
        refine g_iSN (rest := []) (wr := [(g, .inr (4, [.ref ga, .ref gb, .ref gc, .int (nI tc), .int (nI ev), .int (bI kn)])), (ga, .inl (E 0, 4096, .inl (aN TS))), (gb, .inl (E 0, 4096, .inl (aN M))), (gc, .inl (E 0, 924, .inl (aN P)))]) C (c_isWithinN l D E i bd (by omega)) rd_AB_isWithin m_310 m_268 (Nat.le_of_ble_eq_true rfl) (Nat.le_of_ble_eq_true rfl) (Nat.le_of_ble_eq_true rfl) (Nat.le_of_ble_eq_true rfl) rfl rfl (Nat.le_of_ble_eq_true rfl) d_Senses_joinWithin_17 [] [0, 1, 2, 3] rfl (by decide) rfl (by decide) (by decide) (fun r17 _ (hr17 : r17 = bI (dif i bd == 0)) => ?_)
        subst hr17
        refine g_cells (ws' := [(g, .inr (4, [.ref ga, .ref gb, .ref gc, .int (nI tc), .int (nI ev), .int (bI kn)])), (ga, .inl (E 0, 4096, .inl (aN TS))), (gb, .inl (E 0, 4096, .inl (aN M))), (gc, .inl (E 0, 924, .inl (aN P)))]) [0, 1, 2, 3] (by decide) rfl ?_
        refine g_if_eqB (tgt := 38) C d_Senses_joinWithin_20 (by decide) (fun b1 => ?_) (fun b1 => ?_)
        · skip
          refine g_iinc (lv' := [(4, .int (nI (i + 1))), (0, .ref g), (1, .int (nI k)), (2, .int (nI bd)), (3, .int (nI acc))]) C d_Senses_joinWithin_38 4 rfl (nI_1 _) (by decide) rfl ?_
          refine g_goto (tgt := 5) C d_Senses_joinWithin_41 (by decide) ?_
          refine g_perm [1, 2, 3, 4, 0] rfl ?_
          exact ih5 (i + 1) acc (by omega) (by simp [joiM, *]) (by omega)
        · skip
          refine g_aload_n C d_Senses_joinWithin_23 rfl 0 rfl ?_
          refine g_iload_n C d_Senses_joinWithin_24 rfl 1 rfl ?_
          refine g_iload C d_Senses_joinWithin_25 4 rfl ?_
          refine g_iV (rest := []) (wr := []) C (c_Se_isOf l D E g ga gb gc TS M P tc ev kn k i (by omega) (by omega)) rd_Senses_isOf m_386 m_336 m_337 rfl rfl (Nat.le_of_ble_eq_true rfl) (Nat.le_of_ble_eq_true rfl) (Nat.le_of_ble_eq_true rfl) (Nat.le_of_ble_eq_true rfl) rfl rfl (Nat.le_of_ble_eq_true rfl) d_Senses_joinWithin_27 [0, 1, 2, 3] [] rfl (by decide) rfl (by decide) (by decide) (fun r27 _ (hr27 : r27 = bI ((M i).testBit k)) => ?_)
          subst hr27
          refine g_cells (ws' := [(g, .inr (4, [.ref ga, .ref gb, .ref gc, .int (nI tc), .int (nI ev), .int (bI kn)])), (ga, .inl (E 0, 4096, .inl (aN TS))), (gb, .inl (E 0, 4096, .inl (aN M))), (gc, .inl (E 0, 924, .inl (aN P)))]) [0, 1, 2, 3] (by decide) rfl ?_
          refine g_if_eqB (tgt := 38) C d_Senses_joinWithin_30 (by decide) (fun b2 => ?_) (fun b2 => ?_)
          · skip
            refine g_iinc (lv' := [(4, .int (nI (i + 1))), (0, .ref g), (1, .int (nI k)), (2, .int (nI bd)), (3, .int (nI acc))]) C d_Senses_joinWithin_38 4 rfl (nI_1 _) (by decide) rfl ?_
            refine g_goto (tgt := 5) C d_Senses_joinWithin_41 (by decide) ?_
            refine g_perm [1, 2, 3, 4, 0] rfl ?_
            exact ih5 (i + 1) acc (by omega) (by simp [joiM, *]) (by omega)
          · skip
            refine g_iload_n C d_Senses_joinWithin_33 rfl 3 rfl ?_
            refine g_iload C d_Senses_joinWithin_34 4 rfl ?_
            refine g_iorN C d_Senses_joinWithin_36 ?_
            refine g_istore_n (lv' := [(3, .int (nI (acc ||| i))), (0, .ref g), (1, .int (nI k)), (2, .int (nI bd)), (4, .int (nI i))]) C d_Senses_joinWithin_37 rfl (by decide) rfl ?_
            refine g_iinc (lv' := [(4, .int (nI (i + 1))), (3, .int (nI (acc ||| i))), (0, .ref g), (1, .int (nI k)), (2, .int (nI bd))]) C d_Senses_joinWithin_38 4 rfl (nI_1 _) (by decide) rfl ?_
            refine g_goto (tgt := 5) C d_Senses_joinWithin_41 (by decide) ?_
            refine g_perm [2, 3, 4, 1, 0] rfl ?_
            exact ih5 (i + 1) (acc ||| i) (by omega) (by simp [joiM, *]) (by omega)
  refine g_perm [2, 3, 4, 1, 0] rfl ?_
  exact loop5 (ev + 1 - 0 + 1) 0 0 (Nat.zero_le _) (rfl) (Nat.lt_succ_self _)

set_option maxHeartbeats 4000000 in
set_option maxRecDepth 100000 in
theorem c_Se_ownMarks (l : Launch) (D : va_G) (E : Nat → ClassId) (g : Nat) (ga : Nat) (gb : Nat) (gc : Nat) (TS : Nat → Nat) (M : Nat → Nat) (P : Nat → Nat) (tc : Nat) (ev : Nat) (kn : Bool) (x : Nat) (hev : ev < 4096) (hTS : ∀ a, TS a < 4096) (hx : x ≤ ev) : MI l D E y_Senses_ownMarks (.code y_Senses_ownMarks k_Senses_ownMarks 5 (some .int)) ({ frames := 3, cells := 0, slots := 0, locals := 62 } : Room) [.ref g, .int (nI x)] [(g, .inr (4, [.ref ga, .ref gb, .ref gc, .int (nI tc), .int (nI ev), .int (bI kn)])), (ga, .inl (E 0, 4096, .inl (aN TS))), (gb, .inl (E 0, 4096, .inl (aN M))), (gc, .inl (E 0, 924, .inl (aN P)))] (fun (r : Int32) (_ : Unit) => r = nI (ownM TS ev x)) (fun _ : Unit => [(g, .inr (4, [.ref ga, .ref gb, .ref gc, .int (nI tc), .int (nI ev), .int (bI kn)])), (ga, .inl (E 0, 4096, .inl (aN TS))), (gb, .inl (E 0, 4096, .inl (aN M))), (gc, .inl (E 0, 924, .inl (aN P)))]) := by
  refine MI.of (by decide) (Nat.le_of_ble_eq_true rfl) ?_
  intro p e s m args below meth c A C hrt hlk hnm
  refine g_lv (lv' := [(0, .ref g), (1, .int (nI x))]) rfl ?_
  refine g_aload_n C d_Senses_ownMarks_0 rfl 0 rfl ?_
  refine g_iload_n C d_Senses_ownMarks_1 rfl 1 rfl ?_
  refine g_iV (rest := []) (wr := []) C (c_Se_hitBy l D E g ga gb gc TS M P tc ev kn x (by omega)) rd_Senses_hitBy m_299 m_301 m_3 rfl rfl (Nat.le_of_ble_eq_true rfl) (Nat.le_of_ble_eq_true rfl) (Nat.le_of_ble_eq_true rfl) (Nat.le_of_ble_eq_true rfl) rfl rfl (Nat.le_of_ble_eq_true rfl) d_Senses_ownMarks_2 [0, 1, 2, 3] [] rfl (by decide) rfl (by decide) (by decide) (fun r2 _ (hr2 : r2 = nI (TS x)) => ?_)
  subst hr2
  refine g_cells (ws' := [(g, .inr (4, [.ref ga, .ref gb, .ref gc, .int (nI tc), .int (nI ev), .int (bI kn)])), (ga, .inl (E 0, 4096, .inl (aN TS))), (gb, .inl (E 0, 4096, .inl (aN M))), (gc, .inl (E 0, 924, .inl (aN P)))]) [0, 1, 2, 3] (by decide) rfl ?_
  refine g_istore_n (lv' := [(2, .int (nI (TS x))), (0, .ref g), (1, .int (nI x))]) C d_Senses_ownMarks_5 rfl (by decide) rfl ?_
  refine g_iload_n C d_Senses_ownMarks_6 rfl 0 rfl ?_
  refine g_iload_n C d_Senses_ownMarks_7 rfl 2 rfl ?_
  refine g_iandN C d_Senses_ownMarks_8 ?_
  refine g_if_eqN (tgt := 14) C (and_ltl (lt4 (hTS _))) d_Senses_ownMarks_9 (by decide) (fun b0 => ?_) (fun b0 => ?_)
  · skip
    refine g_bipush (v := nI 32) C d_Senses_ownMarks_14 (by decide) ?_
    refine g_istore_n (lv' := [(3, .int (nI 32)), (2, .int (nI (TS x))), (0, .ref g), (1, .int (nI x))]) C d_Senses_ownMarks_16 rfl (by decide) rfl ?_
    refine g_aload_n C d_Senses_ownMarks_17 rfl 2 rfl ?_
    refine g_iload_n C d_Senses_ownMarks_18 rfl 3 rfl ?_
    refine g_iV (rest := []) (wr := []) C (c_Se_rangeOf l D E g ga gb gc TS M P tc ev kn x (by omega)) rd_Senses_rangeOf m_306 m_308 m_4 rfl rfl (Nat.le_of_ble_eq_true rfl) (Nat.le_of_ble_eq_true rfl) (Nat.le_of_ble_eq_true rfl) (Nat.le_of_ble_eq_true rfl) rfl rfl (Nat.le_of_ble_eq_true rfl) d_Senses_ownMarks_19 [0, 1, 2, 3] [] rfl (by decide) rfl (by decide) (by decide) (fun r19 _ (hr19 : r19 = nI (x ||| TS x)) => ?_)
    subst hr19
    refine g_cells (ws' := [(g, .inr (4, [.ref ga, .ref gb, .ref gc, .int (nI tc), .int (nI ev), .int (bI kn)])), (ga, .inl (E 0, 4096, .inl (aN TS))), (gb, .inl (E 0, 4096, .inl (aN M))), (gc, .inl (E 0, 924, .inl (aN P)))]) [0, 1, 2, 3] (by decide) rfl ?_
    refine g_top (show nI (x ||| TS x) = nI (TS x ||| x) from congrArg nI (Nat.or_comm _ _)) ?_
    refine g_aload_n C d_Senses_ownMarks_22 rfl 2 rfl ?_
    refine g_get C lay_Senses 0 rfl rfl 4 (by decide) m_86 rfl d_Senses_ownMarks_23 ?_
    refine g_icmp_neN (tgt := 33) C (lt4 (orl (hTS _) (by omega))) (by omega) d_Senses_ownMarks_26 (by decide) (fun b1 => ?_) (fun b1 => ?_)
    · skip
      refine g_aload_n C d_Senses_ownMarks_33 rfl 2 rfl ?_
      refine g_get C lay_Senses 0 rfl rfl 4 (by decide) m_86 rfl d_Senses_ownMarks_34 ?_
      refine g_aload_n C d_Senses_ownMarks_37 rfl 2 rfl ?_
      refine g_aload_n C d_Senses_ownMarks_38 rfl 2 rfl ?_
      refine g_get C lay_Senses 0 rfl rfl 4 (by decide) m_86 rfl d_Senses_ownMarks_39 ?_
      refine g_iload_n C d_Senses_ownMarks_42 rfl 1 rfl ?_
      refine g_iconst (v := (-1)) C d_Senses_ownMarks_43 (by decide) ?_
      refine g_ixor C d_Senses_ownMarks_44 ?_
      refine g_iandD C d_Senses_ownMarks_45 ?_
      refine g_iV (rest := [.int (nI ev)]) (wr := []) C (c_Se_hitBy l D E g ga gb gc TS M P tc ev kn (dif ev (TS x)) (Nat.lt_of_le_of_lt (dif_le _ _) hev)) rd_Senses_hitBy m_299 m_301 m_3 rfl rfl (Nat.le_of_ble_eq_true rfl) (Nat.le_of_ble_eq_true rfl) (Nat.le_of_ble_eq_true rfl) (Nat.le_of_ble_eq_true rfl) rfl rfl (Nat.le_of_ble_eq_true rfl) d_Senses_ownMarks_46 [0, 1, 2, 3] [] rfl (by decide) rfl (by decide) (by decide) (fun r46 _ (hr46 : r46 = nI (TS (dif ev (TS x)))) => ?_)
      subst hr46
      refine g_cells (ws' := [(g, .inr (4, [.ref ga, .ref gb, .ref gc, .int (nI tc), .int (nI ev), .int (bI kn)])), (ga, .inl (E 0, 4096, .inl (aN TS))), (gb, .inl (E 0, 4096, .inl (aN M))), (gc, .inl (E 0, 924, .inl (aN P)))]) [0, 1, 2, 3] (by decide) rfl ?_
      refine g_iconst (v := (-1)) C d_Senses_ownMarks_49 (by decide) ?_
      refine g_ixor C d_Senses_ownMarks_50 ?_
      refine g_iandD C d_Senses_ownMarks_51 ?_
      refine g_istore (lv' := [(4, .int (nI (dif ev (TS (dif ev (TS x)))))), (3, .int (nI 32)), (2, .int (nI (TS x))), (0, .ref g), (1, .int (nI x))]) C d_Senses_ownMarks_52 (by decide) rfl ?_
      refine g_iload_n C d_Senses_ownMarks_54 rfl 4 rfl ?_
      refine g_iload C d_Senses_ownMarks_55 0 rfl ?_
      refine g_iSN (rest := []) (wr := [(g, .inr (4, [.ref ga, .ref gb, .ref gc, .int (nI tc), .int (nI ev), .int (bI kn)])), (ga, .inl (E 0, 4096, .inl (aN TS))), (gb, .inl (E 0, 4096, .inl (aN M))), (gc, .inl (E 0, 924, .inl (aN P)))]) C (c_isWithinN l D E x (dif ev (TS (dif ev (TS x)))) (by omega)) rd_AB_isWithin m_310 m_268 (Nat.le_of_ble_eq_true rfl) (Nat.le_of_ble_eq_true rfl) (Nat.le_of_ble_eq_true rfl) (Nat.le_of_ble_eq_true rfl) rfl rfl (Nat.le_of_ble_eq_true rfl) d_Senses_ownMarks_57 [] [0, 1, 2, 3] rfl (by decide) rfl (by decide) (by decide) (fun r57 _ (hr57 : r57 = bI (dif x (dif ev (TS (dif ev (TS x)))) == 0)) => ?_)
      subst hr57
      refine g_cells (ws' := [(g, .inr (4, [.ref ga, .ref gb, .ref gc, .int (nI tc), .int (nI ev), .int (bI kn)])), (ga, .inl (E 0, 4096, .inl (aN TS))), (gb, .inl (E 0, 4096, .inl (aN M))), (gc, .inl (E 0, 924, .inl (aN P)))]) [0, 1, 2, 3] (by decide) rfl ?_
      refine g_if_eqB (tgt := 68) C d_Senses_ownMarks_60 (by decide) (fun b2 => ?_) (fun b2 => ?_)
      · skip
        refine g_iload_n C d_Senses_ownMarks_68 rfl 4 rfl ?_
        refine g_iload C d_Senses_ownMarks_69 0 rfl ?_
        refine g_icmp_neN (tgt := 78) C (by omega) (dif_lt (by omega)) d_Senses_ownMarks_71 (by decide) (fun b3 => ?_) (fun b3 => ?_)
        · skip
          refine g_iload_n C d_Senses_ownMarks_78 rfl 1 rfl ?_
          exact g_iret C hrt hlk () (congrArg nI (by unfold ownM; first | (rw [if_pos b0]; done) | (rw [if_neg (fun q => q b0)]; (first | rw [if_pos b3] | rw [if_neg b3]); (first | rw [if_pos (beq_iff_eq.mp b2)] | rw [if_neg (beq_eq_false_iff_ne.mp b2)]); (first | rw [if_pos b1] | rw [if_neg b1])))) rfl d_Senses_ownMarks_79
        · skip
          refine g_iload_n C d_Senses_ownMarks_74 rfl 1 rfl ?_
          refine g_iconst (v := nI 1) C d_Senses_ownMarks_75 (by decide) ?_
          refine g_iorN C d_Senses_ownMarks_76 ?_
          refine g_istore_n (lv' := [(3, .int (nI (32 ||| 1))), (4, .int (nI (dif ev (TS (dif ev (TS x)))))), (2, .int (nI (TS x))), (0, .ref g), (1, .int (nI x))]) C d_Senses_ownMarks_77 rfl (by decide) rfl ?_
          refine g_iload_n C d_Senses_ownMarks_78 rfl 0 rfl ?_
          exact g_iret C hrt hlk () (congrArg nI (by unfold ownM; first | (rw [if_pos b0]; done) | (rw [if_neg (fun q => q b0)]; (first | rw [if_pos b3] | rw [if_neg b3]); (first | rw [if_pos (beq_iff_eq.mp b2)] | rw [if_neg (beq_eq_false_iff_ne.mp b2)]); (first | rw [if_pos b1] | rw [if_neg b1])))) rfl d_Senses_ownMarks_79
      · skip
        refine g_iload_n C d_Senses_ownMarks_63 rfl 1 rfl ?_
        refine g_bipush (v := nI 16) C d_Senses_ownMarks_64 (by decide) ?_
        refine g_iorN C d_Senses_ownMarks_66 ?_
        refine g_istore_n (lv' := [(3, .int (nI (32 ||| 16))), (4, .int (nI (dif ev (TS (dif ev (TS x)))))), (2, .int (nI (TS x))), (0, .ref g), (1, .int (nI x))]) C d_Senses_ownMarks_67 rfl (by decide) rfl ?_
        refine g_iload_n C d_Senses_ownMarks_68 rfl 4 rfl ?_
        refine g_iload C d_Senses_ownMarks_69 1 rfl ?_
        refine g_icmp_neN (tgt := 78) C (by omega) (dif_lt (by omega)) d_Senses_ownMarks_71 (by decide) (fun b3 => ?_) (fun b3 => ?_)
        · skip
          refine g_iload_n C d_Senses_ownMarks_78 rfl 0 rfl ?_
          exact g_iret C hrt hlk () (congrArg nI (by unfold ownM; first | (rw [if_pos b0]; done) | (rw [if_neg (fun q => q b0)]; (first | rw [if_pos b3] | rw [if_neg b3]); (first | rw [if_pos (beq_iff_eq.mp b2)] | rw [if_neg (beq_eq_false_iff_ne.mp b2)]); (first | rw [if_pos b1] | rw [if_neg b1])))) rfl d_Senses_ownMarks_79
        · skip
          refine g_iload_n C d_Senses_ownMarks_74 rfl 0 rfl ?_
          refine g_iconst (v := nI 1) C d_Senses_ownMarks_75 (by decide) ?_
          refine g_iorN C d_Senses_ownMarks_76 ?_
          refine g_istore_n (lv' := [(3, .int (nI ((32 ||| 16) ||| 1))), (4, .int (nI (dif ev (TS (dif ev (TS x)))))), (2, .int (nI (TS x))), (0, .ref g), (1, .int (nI x))]) C d_Senses_ownMarks_77 rfl (by decide) rfl ?_
          refine g_iload_n C d_Senses_ownMarks_78 rfl 0 rfl ?_
          exact g_iret C hrt hlk () (congrArg nI (by unfold ownM; first | (rw [if_pos b0]; done) | (rw [if_neg (fun q => q b0)]; (first | rw [if_pos b3] | rw [if_neg b3]); (first | rw [if_pos (beq_iff_eq.mp b2)] | rw [if_neg (beq_eq_false_iff_ne.mp b2)]); (first | rw [if_pos b1] | rw [if_neg b1])))) rfl d_Senses_ownMarks_79
    · skip
      refine g_iload_n C d_Senses_ownMarks_29 rfl 0 rfl ?_
      refine g_iconst (v := nI 4) C d_Senses_ownMarks_30 (by decide) ?_
      refine g_iorN C d_Senses_ownMarks_31 ?_
      refine g_istore_n (lv' := [(3, .int (nI (32 ||| 4))), (2, .int (nI (TS x))), (0, .ref g), (1, .int (nI x))]) C d_Senses_ownMarks_32 rfl (by decide) rfl ?_
      refine g_aload_n C d_Senses_ownMarks_33 rfl 2 rfl ?_
      refine g_get C lay_Senses 0 rfl rfl 4 (by decide) m_86 rfl d_Senses_ownMarks_34 ?_
      refine g_aload_n C d_Senses_ownMarks_37 rfl 2 rfl ?_
      refine g_aload_n C d_Senses_ownMarks_38 rfl 2 rfl ?_
      refine g_get C lay_Senses 0 rfl rfl 4 (by decide) m_86 rfl d_Senses_ownMarks_39 ?_
      refine g_iload_n C d_Senses_ownMarks_42 rfl 1 rfl ?_
      refine g_iconst (v := (-1)) C d_Senses_ownMarks_43 (by decide) ?_
      refine g_ixor C d_Senses_ownMarks_44 ?_
      refine g_iandD C d_Senses_ownMarks_45 ?_
      refine g_iV (rest := [.int (nI ev)]) (wr := []) C (c_Se_hitBy l D E g ga gb gc TS M P tc ev kn (dif ev (TS x)) (Nat.lt_of_le_of_lt (dif_le _ _) hev)) rd_Senses_hitBy m_299 m_301 m_3 rfl rfl (Nat.le_of_ble_eq_true rfl) (Nat.le_of_ble_eq_true rfl) (Nat.le_of_ble_eq_true rfl) (Nat.le_of_ble_eq_true rfl) rfl rfl (Nat.le_of_ble_eq_true rfl) d_Senses_ownMarks_46 [0, 1, 2, 3] [] rfl (by decide) rfl (by decide) (by decide) (fun r46 _ (hr46 : r46 = nI (TS (dif ev (TS x)))) => ?_)
      subst hr46
      refine g_cells (ws' := [(g, .inr (4, [.ref ga, .ref gb, .ref gc, .int (nI tc), .int (nI ev), .int (bI kn)])), (ga, .inl (E 0, 4096, .inl (aN TS))), (gb, .inl (E 0, 4096, .inl (aN M))), (gc, .inl (E 0, 924, .inl (aN P)))]) [0, 1, 2, 3] (by decide) rfl ?_
      refine g_iconst (v := (-1)) C d_Senses_ownMarks_49 (by decide) ?_
      refine g_ixor C d_Senses_ownMarks_50 ?_
      refine g_iandD C d_Senses_ownMarks_51 ?_
      refine g_istore (lv' := [(4, .int (nI (dif ev (TS (dif ev (TS x)))))), (3, .int (nI (32 ||| 4))), (2, .int (nI (TS x))), (0, .ref g), (1, .int (nI x))]) C d_Senses_ownMarks_52 (by decide) rfl ?_
      refine g_iload_n C d_Senses_ownMarks_54 rfl 4 rfl ?_
      refine g_iload C d_Senses_ownMarks_55 0 rfl ?_
      refine g_iSN (rest := []) (wr := [(g, .inr (4, [.ref ga, .ref gb, .ref gc, .int (nI tc), .int (nI ev), .int (bI kn)])), (ga, .inl (E 0, 4096, .inl (aN TS))), (gb, .inl (E 0, 4096, .inl (aN M))), (gc, .inl (E 0, 924, .inl (aN P)))]) C (c_isWithinN l D E x (dif ev (TS (dif ev (TS x)))) (by omega)) rd_AB_isWithin m_310 m_268 (Nat.le_of_ble_eq_true rfl) (Nat.le_of_ble_eq_true rfl) (Nat.le_of_ble_eq_true rfl) (Nat.le_of_ble_eq_true rfl) rfl rfl (Nat.le_of_ble_eq_true rfl) d_Senses_ownMarks_57 [] [0, 1, 2, 3] rfl (by decide) rfl (by decide) (by decide) (fun r57 _ (hr57 : r57 = bI (dif x (dif ev (TS (dif ev (TS x)))) == 0)) => ?_)
      subst hr57
      refine g_cells (ws' := [(g, .inr (4, [.ref ga, .ref gb, .ref gc, .int (nI tc), .int (nI ev), .int (bI kn)])), (ga, .inl (E 0, 4096, .inl (aN TS))), (gb, .inl (E 0, 4096, .inl (aN M))), (gc, .inl (E 0, 924, .inl (aN P)))]) [0, 1, 2, 3] (by decide) rfl ?_
      refine g_if_eqB (tgt := 68) C d_Senses_ownMarks_60 (by decide) (fun b2 => ?_) (fun b2 => ?_)
      · skip
        refine g_iload_n C d_Senses_ownMarks_68 rfl 4 rfl ?_
        refine g_iload C d_Senses_ownMarks_69 0 rfl ?_
        refine g_icmp_neN (tgt := 78) C (by omega) (dif_lt (by omega)) d_Senses_ownMarks_71 (by decide) (fun b3 => ?_) (fun b3 => ?_)
        · skip
          refine g_iload_n C d_Senses_ownMarks_78 rfl 1 rfl ?_
          exact g_iret C hrt hlk () (congrArg nI (by unfold ownM; first | (rw [if_pos b0]; done) | (rw [if_neg (fun q => q b0)]; (first | rw [if_pos b3] | rw [if_neg b3]); (first | rw [if_pos (beq_iff_eq.mp b2)] | rw [if_neg (beq_eq_false_iff_ne.mp b2)]); (first | rw [if_pos b1] | rw [if_neg b1])))) rfl d_Senses_ownMarks_79
        · skip
          refine g_iload_n C d_Senses_ownMarks_74 rfl 1 rfl ?_
          refine g_iconst (v := nI 1) C d_Senses_ownMarks_75 (by decide) ?_
          refine g_iorN C d_Senses_ownMarks_76 ?_
          refine g_istore_n (lv' := [(3, .int (nI ((32 ||| 4) ||| 1))), (4, .int (nI (dif ev (TS (dif ev (TS x)))))), (2, .int (nI (TS x))), (0, .ref g), (1, .int (nI x))]) C d_Senses_ownMarks_77 rfl (by decide) rfl ?_
          refine g_iload_n C d_Senses_ownMarks_78 rfl 0 rfl ?_
          exact g_iret C hrt hlk () (congrArg nI (by unfold ownM; first | (rw [if_pos b0]; done) | (rw [if_neg (fun q => q b0)]; (first | rw [if_pos b3] | rw [if_neg b3]); (first | rw [if_pos (beq_iff_eq.mp b2)] | rw [if_neg (beq_eq_false_iff_ne.mp b2)]); (first | rw [if_pos b1] | rw [if_neg b1])))) rfl d_Senses_ownMarks_79
      · skip
        refine g_iload_n C d_Senses_ownMarks_63 rfl 1 rfl ?_
        refine g_bipush (v := nI 16) C d_Senses_ownMarks_64 (by decide) ?_
        refine g_iorN C d_Senses_ownMarks_66 ?_
        refine g_istore_n (lv' := [(3, .int (nI ((32 ||| 4) ||| 16))), (4, .int (nI (dif ev (TS (dif ev (TS x)))))), (2, .int (nI (TS x))), (0, .ref g), (1, .int (nI x))]) C d_Senses_ownMarks_67 rfl (by decide) rfl ?_
        refine g_iload_n C d_Senses_ownMarks_68 rfl 4 rfl ?_
        refine g_iload C d_Senses_ownMarks_69 1 rfl ?_
        refine g_icmp_neN (tgt := 78) C (by omega) (dif_lt (by omega)) d_Senses_ownMarks_71 (by decide) (fun b3 => ?_) (fun b3 => ?_)
        · skip
          refine g_iload_n C d_Senses_ownMarks_78 rfl 0 rfl ?_
          exact g_iret C hrt hlk () (congrArg nI (by unfold ownM; first | (rw [if_pos b0]; done) | (rw [if_neg (fun q => q b0)]; (first | rw [if_pos b3] | rw [if_neg b3]); (first | rw [if_pos (beq_iff_eq.mp b2)] | rw [if_neg (beq_eq_false_iff_ne.mp b2)]); (first | rw [if_pos b1] | rw [if_neg b1])))) rfl d_Senses_ownMarks_79
        · skip
          refine g_iload_n C d_Senses_ownMarks_74 rfl 0 rfl ?_
          refine g_iconst (v := nI 1) C d_Senses_ownMarks_75 (by decide) ?_
          refine g_iorN C d_Senses_ownMarks_76 ?_
          refine g_istore_n (lv' := [(3, .int (nI (((32 ||| 4) ||| 16) ||| 1))), (4, .int (nI (dif ev (TS (dif ev (TS x)))))), (2, .int (nI (TS x))), (0, .ref g), (1, .int (nI x))]) C d_Senses_ownMarks_77 rfl (by decide) rfl ?_
          refine g_iload_n C d_Senses_ownMarks_78 rfl 0 rfl ?_
          exact g_iret C hrt hlk () (congrArg nI (by unfold ownM; first | (rw [if_pos b0]; done) | (rw [if_neg (fun q => q b0)]; (first | rw [if_pos b3] | rw [if_neg b3]); (first | rw [if_pos (beq_iff_eq.mp b2)] | rw [if_neg (beq_eq_false_iff_ne.mp b2)]); (first | rw [if_pos b1] | rw [if_neg b1])))) rfl d_Senses_ownMarks_79
  · skip
    refine g_iconst (v := nI 0) C d_Senses_ownMarks_12 (by decide) ?_
    exact g_iret C hrt hlk () (congrArg nI (by unfold ownM; first | (rw [if_pos b0]; done) | (rw [if_neg (fun q => q b0)]; (first | rw [if_pos b3] | rw [if_neg b3]); (first | rw [if_pos (beq_iff_eq.mp b2)] | rw [if_neg (beq_eq_false_iff_ne.mp b2)]); (first | rw [if_pos b1] | rw [if_neg b1])))) rfl d_Senses_ownMarks_13

set_option maxHeartbeats 4000000 in
set_option maxRecDepth 100000 in
theorem c_Se_fillTargets (l : Launch) (D : va_G) (E : Nat → ClassId) (g : Nat) (ga : Nat) (gb : Nat) (gc : Nat) (TS : Nat → Nat) (M : Nat → Nat) (P : Nat → Nat) (tc : Nat) (ev : Nat) (kn : Bool) (h : Nat) (t : Nat) (u : Nat) (n : Nat) (T : Nat → Nat) (U : Nat → Nat) (hn : n ≤ 12) (hT : ∀ a, T a < 4096) : MV l D E y_Senses_fillTargets (.code y_Senses_fillTargets k_Senses_fillTargets 6 none) ({ frames := 2, cells := 0, slots := 0, locals := 42 } : Room) [.ref g, .ref h] [(g, .inr (4, [.ref ga, .ref gb, .ref gc, .int (nI tc), .int (nI ev), .int (bI kn)])), (ga, .inl (E 0, 4096, .inl (aN TS))), (gb, .inl (E 0, 4096, .inl (aN M))), (gc, .inl (E 0, 924, .inl (aN P))), (h, .inr (6, [.ref t, .ref u, .int (nI n)])), (t, .inl (E 0, 12, .inl (aN T))), (u, .inl (E 0, 12, .inl (aN U)))] (fun _ : Unit => True) (fun _ : Unit => [(g, .inr (4, [.ref ga, .ref gb, .ref gc, .int (nI tc), .int (nI ev), .int (bI kn)])), (ga, .inl (E 0, 4096, .inl (aN (ovw TS (fun x => tgU T x n) (2 ^ n))))), (gb, .inl (E 0, 4096, .inl (aN M))), (gc, .inl (E 0, 924, .inl (aN P))), (h, .inr (6, [.ref t, .ref u, .int (nI n)])), (t, .inl (E 0, 12, .inl (aN T))), (u, .inl (E 0, 12, .inl (aN U)))]) := by
  refine MV.of (by decide) (Nat.le_of_ble_eq_true rfl) ?_
  intro p e s m args below meth c A C hrt hlk hnm
  refine g_lv (lv' := [(0, .ref g), (1, .ref h)]) rfl ?_
  refine g_aload_n C d_Senses_fillTargets_0 rfl 0 rfl ?_
  refine g_get C lay_Senses 0 rfl rfl 0 (by decide) m_82 rfl d_Senses_fillTargets_1 ?_
  refine g_iconst (v := nI 0) C d_Senses_fillTargets_4 (by decide) ?_
  refine g_iconst (v := nI 0) C d_Senses_fillTargets_5 (by decide) ?_
  refine g_iastN (f' := aN (va_up TS 0 0)) (ws' := [(g, .inr (4, [.ref ga, .ref gb, .ref gc, .int (nI tc), .int (nI ev), .int (bI kn)])), (ga, .inl (E 0, 4096, .inl (aN (va_up TS 0 0)))), (gb, .inl (E 0, 4096, .inl (aN M))), (gc, .inl (E 0, 924, .inl (aN P))), (h, .inr (6, [.ref t, .ref u, .int (nI n)])), (t, .inl (E 0, 12, .inl (aN T))), (u, .inl (E 0, 12, .inl (aN U)))]) C 1 rfl (by omega) (by decide) (aN_up _ _ _) rfl d_Senses_fillTargets_6 ?_
  refine g_iconst (v := nI 0) C d_Senses_fillTargets_7 (by decide) ?_
  refine g_istore_n (lv' := [(2, .int (nI 0)), (0, .ref g), (1, .ref h)]) C d_Senses_fillTargets_8 rfl (by decide) rfl ?_
  have loop9 : ∀ (f : Nat) (a : Nat) (X : Nat → Nat), (a ≤ n) → (X = ovw TS (fun x => tgU T x n) (2 ^ a)) → n - a < f → GG p l e ({ frames := 2, cells := 0, slots := 0, locals := 42 } : Room) s m args below meth c (MQ below (va_Qv (fun _ : Unit => True) (BC D A (fun _ : Unit => [(g, .inr (4, [.ref ga, .ref gb, .ref gc, .int (nI tc), .int (nI ev), .int (bI kn)])), (ga, .inl (E 0, 4096, .inl (aN (ovw TS (fun x => tgU T x n) (2 ^ n))))), (gb, .inl (E 0, 4096, .inl (aN M))), (gc, .inl (E 0, 924, .inl (aN P))), (h, .inr (6, [.ref t, .ref u, .int (nI n)])), (t, .inl (E 0, 12, .inl (aN T))), (u, .inl (E 0, 12, .inl (aN U)))])) A) args s (({ frames := 2, cells := 0, slots := 0, locals := 42 } : Room)).cells (({ frames := 2, cells := 0, slots := 0, locals := 42 } : Room)).slots A) D A 6 0 0 9 [(0, .ref g), (1, .ref h), (2, .int (nI a))] [] [(g, .inr (4, [.ref ga, .ref gb, .ref gc, .int (nI tc), .int (nI ev), .int (bI kn)])), (ga, .inl (E 0, 4096, .inl (aN X))), (gb, .inl (E 0, 4096, .inl (aN M))), (gc, .inl (E 0, 924, .inl (aN P))), (h, .inr (6, [.ref t, .ref u, .int (nI n)])), (t, .inl (E 0, 12, .inl (aN T))), (u, .inl (E 0, 12, .inl (aN U)))] := by
    intro f
    induction f with
    | zero => intro a X ha hX hf; exact absurd hf (Nat.not_lt_zero _)
    | succ f ih =>
      intro a X ha hX hf
      have ih9 := ih
      refine g_iload_n C d_Senses_fillTargets_9 rfl 2 rfl ?_
      refine g_aload_n C d_Senses_fillTargets_10 rfl 1 rfl ?_
      refine g_iV (rest := [.int (nI a)]) (wr := [(g, .inr (4, [.ref ga, .ref gb, .ref gc, .int (nI tc), .int (nI ev), .int (bI kn)])), (ga, .inl (E 0, 4096, .inl (aN X))), (gb, .inl (E 0, 4096, .inl (aN M))), (gc, .inl (E 0, 924, .inl (aN P)))]) C (c_Web_size l D E h t u n T U ) rd_Web_size m_290 m_252 m_253 rfl rfl (Nat.le_of_ble_eq_true rfl) (Nat.le_of_ble_eq_true rfl) (Nat.le_of_ble_eq_true rfl) (Nat.le_of_ble_eq_true rfl) rfl rfl (Nat.le_of_ble_eq_true rfl) d_Senses_fillTargets_11 [4, 5, 6] [0, 1, 2, 3] rfl (by decide) rfl (by decide) (by decide) (fun r11 _ (hr11 : r11 = nI n) => ?_)
      subst hr11
      refine g_cells (ws' := [(g, .inr (4, [.ref ga, .ref gb, .ref gc, .int (nI tc), .int (nI ev), .int (bI kn)])), (ga, .inl (E 0, 4096, .inl (aN X))), (gb, .inl (E 0, 4096, .inl (aN M))), (gc, .inl (E 0, 924, .inl (aN P))), (h, .inr (6, [.ref t, .ref u, .int (nI n)])), (t, .inl (E 0, 12, .inl (aN T))), (u, .inl (E 0, 12, .inl (aN U)))]) [0, 1, 2, 3, 4, 5, 6] (by decide) rfl ?_
      refine g_icmp_geN (tgt := 74) C (by omega) (by omega) d_Senses_fillTargets_14 (by decide) (fun b0 => ?_) (fun b0 => ?_)
      · skip
        exact g_vret C hrt hlk () (trivial) (by rw [hX, show a = n by omega]) d_Senses_fillTargets_74
      · skip
        refine g_iload_n C d_Senses_fillTargets_17 rfl 2 rfl ?_
        refine g_bipush (v := nI 12) C d_Senses_fillTargets_18 (by decide) ?_
        refine g_icmp_geN (tgt := 74) C (by omega) (by decide) d_Senses_fillTargets_20 (by decide) (fun b1 => ?_) (fun b1 => ?_)
        · skip
          exact g_vret C hrt hlk () (trivial) (by rw [hX, show a = n by omega]) d_Senses_fillTargets_74
        · skip
          refine g_iconst (v := nI 1) C d_Senses_fillTargets_23 (by decide) ?_
          refine g_iload_n C d_Senses_fillTargets_24 rfl 2 rfl ?_
          refine g_ishl1N C (by omega) d_Senses_fillTargets_25 ?_
          refine g_istore_n (lv' := [(3, .int (nI (2 ^ a))), (0, .ref g), (1, .ref h), (2, .int (nI a))]) C d_Senses_fillTargets_26 rfl (by decide) rfl ?_
          refine g_aload_n C d_Senses_fillTargets_27 rfl 2 rfl ?_
          refine g_iload_n C d_Senses_fillTargets_28 rfl 3 rfl ?_
          refine g_iV (rest := []) (wr := [(g, .inr (4, [.ref ga, .ref gb, .ref gc, .int (nI tc), .int (nI ev), .int (bI kn)])), (ga, .inl (E 0, 4096, .inl (aN X))), (gb, .inl (E 0, 4096, .inl (aN M))), (gc, .inl (E 0, 924, .inl (aN P)))]) C (c_Web_targetsOfOne l D E h t u n T U a (by omega) (by omega)) rd_Web_targetsOfOne m_291 m_292 m_293 rfl rfl (Nat.le_of_ble_eq_true rfl) (Nat.le_of_ble_eq_true rfl) (Nat.le_of_ble_eq_true rfl) (Nat.le_of_ble_eq_true rfl) rfl rfl (Nat.le_of_ble_eq_true rfl) d_Senses_fillTargets_29 [4, 5, 6] [0, 1, 2, 3] rfl (by decide) rfl (by decide) (by decide) (fun r29 _ (hr29 : r29 = nI (if a < n then T a else 0)) => ?_)
          subst hr29
          refine g_cells (ws' := [(g, .inr (4, [.ref ga, .ref gb, .ref gc, .int (nI tc), .int (nI ev), .int (bI kn)])), (ga, .inl (E 0, 4096, .inl (aN X))), (gb, .inl (E 0, 4096, .inl (aN M))), (gc, .inl (E 0, 924, .inl (aN P))), (h, .inr (6, [.ref t, .ref u, .int (nI n)])), (t, .inl (E 0, 12, .inl (aN T))), (u, .inl (E 0, 12, .inl (aN U)))]) [0, 1, 2, 3, 4, 5, 6] (by decide) rfl ?_
          refine g_istore (lv' := [(4, .int (nI (if a < n then T a else 0))), (3, .int (nI (2 ^ a))), (0, .ref g), (1, .ref h), (2, .int (nI a))]) C d_Senses_fillTargets_32 (by decide) rfl ?_
          refine g_iconst (v := nI 0) C d_Senses_fillTargets_34 (by decide) ?_
          refine g_istore (lv' := [(5, .int (nI 0)), (4, .int (nI (if a < n then T a else 0))), (3, .int (nI (2 ^ a))), (0, .ref g), (1, .ref h), (2, .int (nI a))]) C d_Senses_fillTargets_35 (by decide) rfl ?_
          have loop37 : ∀ (f : Nat) (r : Nat) (Y : Nat → Nat), (r ≤ 2 ^ a) → (Y = ovw TS (fun x => tgU T x n) (2 ^ a + r)) → 2 ^ a - r < f → GG p l e ({ frames := 2, cells := 0, slots := 0, locals := 42 } : Room) s m args below meth c (MQ below (va_Qv (fun _ : Unit => True) (BC D A (fun _ : Unit => [(g, .inr (4, [.ref ga, .ref gb, .ref gc, .int (nI tc), .int (nI ev), .int (bI kn)])), (ga, .inl (E 0, 4096, .inl (aN (ovw TS (fun x => tgU T x n) (2 ^ n))))), (gb, .inl (E 0, 4096, .inl (aN M))), (gc, .inl (E 0, 924, .inl (aN P))), (h, .inr (6, [.ref t, .ref u, .int (nI n)])), (t, .inl (E 0, 12, .inl (aN T))), (u, .inl (E 0, 12, .inl (aN U)))])) A) args s (({ frames := 2, cells := 0, slots := 0, locals := 42 } : Room)).cells (({ frames := 2, cells := 0, slots := 0, locals := 42 } : Room)).slots A) D A 6 0 0 37 [(0, .ref g), (1, .ref h), (2, .int (nI a)), (3, .int (nI (2 ^ a))), (4, .int (nI (if a < n then T a else 0))), (5, .int (nI r))] [] [(g, .inr (4, [.ref ga, .ref gb, .ref gc, .int (nI tc), .int (nI ev), .int (bI kn)])), (ga, .inl (E 0, 4096, .inl (aN Y))), (gb, .inl (E 0, 4096, .inl (aN M))), (gc, .inl (E 0, 924, .inl (aN P))), (h, .inr (6, [.ref t, .ref u, .int (nI n)])), (t, .inl (E 0, 12, .inl (aN T))), (u, .inl (E 0, 12, .inl (aN U)))] := by
            intro f
            induction f with
            | zero => intro r Y hr hY hf; exact absurd hf (Nat.not_lt_zero _)
            | succ f ih =>
              intro r Y hr hY hf
              have ih37 := ih
              refine g_iload C d_Senses_fillTargets_37 5 rfl ?_
              refine g_iload_n C d_Senses_fillTargets_39 rfl 3 rfl ?_
              refine g_icmp_geN (tgt := 68) C (by have := p12_le (show a ≤ 12 by omega); omega) (pow_lt (by omega)) d_Senses_fillTargets_40 (by decide) (fun b2 => ?_) (fun b2 => ?_)
              · skip
                refine g_iinc (lv' := [(2, .int (nI (a + 1))), (0, .ref g), (1, .ref h), (3, .int (nI (2 ^ a))), (4, .int (nI (if a < n then T a else 0))), (5, .int (nI r))]) C d_Senses_fillTargets_68 2 rfl (nI_1 _) (by decide) rfl ?_
                refine g_goto (tgt := 9) C d_Senses_fillTargets_71 (by decide) ?_
                refine g_perm [1, 2, 0] rfl ?_
                exact ih9 (a + 1) Y (by omega) (by rw [hY, show r = 2 ^ a by omega, Nat.pow_succ, Nat.mul_two]) (by omega)
              · skip
                refine g_aload_n C d_Senses_fillTargets_43 rfl 0 rfl ?_
                refine g_get C lay_Senses 0 rfl rfl 0 (by decide) m_82 rfl d_Senses_fillTargets_44 ?_
                refine g_iload_n C d_Senses_fillTargets_47 rfl 3 rfl ?_
                refine g_iload C d_Senses_fillTargets_48 5 rfl ?_
                refine g_iaddN C d_Senses_fillTargets_50 ?_
                refine g_aload_n C d_Senses_fillTargets_51 rfl 0 rfl ?_
                refine g_get C lay_Senses 0 rfl rfl 0 (by decide) m_82 rfl d_Senses_fillTargets_52 ?_
                refine g_iload C d_Senses_fillTargets_55 5 rfl ?_
                refine g_ialdN C 1 rfl (by have := p12_le (show a ≤ 12 by omega); omega) (by decide) d_Senses_fillTargets_57 ?_
                refine g_top (show (aN Y) r = nI (Y r) from rfl) ?_
                refine g_iload C d_Senses_fillTargets_58 4 rfl ?_
                refine g_iorN C d_Senses_fillTargets_60 ?_
                refine g_iastN (f' := aN (va_up Y ((2 ^ a) + r) ((Y r) ||| (if a < n then T a else 0)))) (ws' := [(g, .inr (4, [.ref ga, .ref gb, .ref gc, .int (nI tc), .int (nI ev), .int (bI kn)])), (ga, .inl (E 0, 4096, .inl (aN (va_up Y ((2 ^ a) + r) ((Y r) ||| (if a < n then T a else 0)))))), (gb, .inl (E 0, 4096, .inl (aN M))), (gc, .inl (E 0, 924, .inl (aN P))), (h, .inr (6, [.ref t, .ref u, .int (nI n)])), (t, .inl (E 0, 12, .inl (aN T))), (u, .inl (E 0, 12, .inl (aN U)))]) C 1 rfl (fi_lt (by omega) b2) (by decide) (aN_up _ _ _) rfl d_Senses_fillTargets_61 ?_
                refine g_iinc (lv' := [(5, .int (nI (r + 1))), (0, .ref g), (1, .ref h), (2, .int (nI a)), (3, .int (nI (2 ^ a))), (4, .int (nI (if a < n then T a else 0)))]) C d_Senses_fillTargets_62 5 rfl (nI_1 _) (by decide) rfl ?_
                refine g_goto (tgt := 37) C d_Senses_fillTargets_65 (by decide) ?_
                refine g_perm [1, 2, 3, 4, 5, 0] rfl ?_
                exact ih37 (r + 1) (va_up Y ((2 ^ a) + r) ((Y r) ||| (if a < n then T a else 0))) (by omega) (by rw [hY, ovw_lt (by omega), if_pos (by omega), ← tgU_top (by omega) b2, ovw_s]; rfl) (by omega)
          refine g_perm [3, 4, 5, 2, 1, 0] rfl ?_
          exact loop37 (2 ^ a - 0 + 1) 0 X (Nat.zero_le _) (by rw [Nat.add_zero]; exact hX) (Nat.lt_succ_self _)
  refine g_perm [1, 2, 0] rfl ?_
  exact loop9 (n - 0 + 1) 0 (va_up TS 0 0) (Nat.zero_le _) (by rw [Nat.pow_zero, show (1 : Nat) = 0 + 1 from rfl, ← ovw_s, ovw_0, tgU_z]) (Nat.lt_succ_self _)

set_option maxHeartbeats 4000000 in
set_option maxRecDepth 100000 in
theorem c_Se_isNewTop (l : Launch) (D : va_G) (E : Nat → ClassId) (g : Nat) (ga : Nat) (gb : Nat) (gc : Nat) (TS : Nat → Nat) (M : Nat → Nat) (P : Nat → Nat) (tc : Nat) (ev : Nat) (kn : Bool) (x : Nat) (hx : x < 4096) (htc : tc ≤ 924) (hnt : ntU P x tc = true → tc < 924) : MI l D E y_Senses_isNewTop (.code y_Senses_isNewTop k_Senses_isNewTop 3 (some .boolean)) ({ frames := 1, cells := 0, slots := 0, locals := 21 } : Room) [.ref g, .int (nI x)] [(g, .inr (4, [.ref ga, .ref gb, .ref gc, .int (nI tc), .int (nI ev), .int (bI kn)])), (ga, .inl (E 0, 4096, .inl (aN TS))), (gb, .inl (E 0, 4096, .inl (aN M))), (gc, .inl (E 0, 924, .inl (aN P)))] (fun (r : Int32) (_ : Unit) => r = bI (ntU P x tc)) (fun _ : Unit => [(g, .inr (4, [.ref ga, .ref gb, .ref gc, .int (nI (bif ntU P x tc then tc + 1 else tc)), .int (nI ev), .int (bI kn)])), (ga, .inl (E 0, 4096, .inl (aN TS))), (gb, .inl (E 0, 4096, .inl (aN M))), (gc, .inl (E 0, 924, .inl (aN (bif ntU P x tc then va_up P tc x else P))))]) := by
  refine MI.of (by decide) (Nat.le_of_ble_eq_true rfl) ?_
  intro p e s m args below meth c A C hrt hlk hnm
  refine g_lv (lv' := [(0, .ref g), (1, .int (nI x))]) rfl ?_
  refine g_iconst (v := nI 0) C d_Senses_isNewTop_0 (by decide) ?_
  refine g_istore_n (lv' := [(2, .int (nI 0)), (0, .ref g), (1, .int (nI x))]) C d_Senses_isNewTop_1 rfl (by decide) rfl ?_
  have loop2 : ∀ (f : Nat) (i : Nat), (i ≤ tc) → (ntU P x i = true) → tc - i < f → GG p l e ({ frames := 1, cells := 0, slots := 0, locals := 21 } : Room) s m args below meth c (MQ below (va_Qi (fun (r : Int32) (_ : Unit) => r = bI (ntU P x tc)) (BC D A (fun _ : Unit => [(g, .inr (4, [.ref ga, .ref gb, .ref gc, .int (nI (bif ntU P x tc then tc + 1 else tc)), .int (nI ev), .int (bI kn)])), (ga, .inl (E 0, 4096, .inl (aN TS))), (gb, .inl (E 0, 4096, .inl (aN M))), (gc, .inl (E 0, 924, .inl (aN (bif ntU P x tc then va_up P tc x else P))))])) A) args s (({ frames := 1, cells := 0, slots := 0, locals := 21 } : Room)).cells (({ frames := 1, cells := 0, slots := 0, locals := 21 } : Room)).slots A) D A 3 0 0 2 [(0, .ref g), (1, .int (nI x)), (2, .int (nI i))] [] [(g, .inr (4, [.ref ga, .ref gb, .ref gc, .int (nI tc), .int (nI ev), .int (bI kn)])), (ga, .inl (E 0, 4096, .inl (aN TS))), (gb, .inl (E 0, 4096, .inl (aN M))), (gc, .inl (E 0, 924, .inl (aN P)))] := by
    intro f
    induction f with
    | zero => intro i hi hn hf; exact absurd hf (Nat.not_lt_zero _)
    | succ f ih =>
      intro i hi hn hf
      have ih2 := ih
      refine g_iload_n C d_Senses_isNewTop_2 rfl 2 rfl ?_
      refine g_aload_n C d_Senses_isNewTop_3 rfl 0 rfl ?_
      refine g_get C lay_Senses 0 rfl rfl 3 (by decide) m_85 rfl d_Senses_isNewTop_4 ?_
      refine g_icmp_geN (tgt := 31) C (by omega) (by omega) d_Senses_isNewTop_7 (by decide) (fun b0 => ?_) (fun b0 => ?_)
      · skip
        refine g_aload_n C d_Senses_isNewTop_31 rfl 0 rfl ?_
        refine g_get C lay_Senses 0 rfl rfl 3 (by decide) m_85 rfl d_Senses_isNewTop_32 ?_
        refine g_sipush (v := nI 924) C d_Senses_isNewTop_35 (by decide) ?_
        refine g_icmp_geN (tgt := 61) C (by omega) (by decide) d_Senses_isNewTop_38 (by decide) (fun b2 => ?_) (fun b2 => ?_)
        · skip
          rw [show i = tc by omega] at hn; exact absurd (hnt hn) (by omega)
        · skip
          refine g_aload_n C d_Senses_isNewTop_41 rfl 0 rfl ?_
          refine g_get C lay_Senses 0 rfl rfl 2 (by decide) m_84 rfl d_Senses_isNewTop_42 ?_
          refine g_aload_n C d_Senses_isNewTop_45 rfl 0 rfl ?_
          refine g_get C lay_Senses 0 rfl rfl 3 (by decide) m_85 rfl d_Senses_isNewTop_46 ?_
          refine g_iload_n C d_Senses_isNewTop_49 rfl 1 rfl ?_
          refine g_iastN (f' := aN (va_up P tc x)) (ws' := [(g, .inr (4, [.ref ga, .ref gb, .ref gc, .int (nI tc), .int (nI ev), .int (bI kn)])), (ga, .inl (E 0, 4096, .inl (aN TS))), (gb, .inl (E 0, 4096, .inl (aN M))), (gc, .inl (E 0, 924, .inl (aN (va_up P tc x))))]) C 3 rfl (by omega) (by decide) (aN_up _ _ _) rfl d_Senses_isNewTop_50 ?_
          refine g_aload_n C d_Senses_isNewTop_51 rfl 0 rfl ?_
          refine g_dup C d_Senses_isNewTop_52 rfl ?_
          refine g_get C lay_Senses 0 rfl rfl 3 (by decide) m_85 rfl d_Senses_isNewTop_53 ?_
          refine g_iconst (v := nI 1) C d_Senses_isNewTop_56 (by decide) ?_
          refine g_iaddN C d_Senses_isNewTop_57 ?_
          refine g_put (ws' := [(g, .inr (4, [.ref ga, .ref gb, .ref gc, .int (nI (tc + 1)), .int (nI ev), .int (bI kn)])), (ga, .inl (E 0, 4096, .inl (aN TS))), (gb, .inl (E 0, 4096, .inl (aN M))), (gc, .inl (E 0, 924, .inl (aN (va_up P tc x))))]) C lay_Senses ty_Senses nm_Senses 0 rfl rfl 3 (by decide) m_85 rfl rfl rfl (Nat.le_of_ble_eq_true rfl) rfl d_Senses_isNewTop_58 ?_
          refine g_iconst (v := nI 1) C d_Senses_isNewTop_61 (by decide) ?_
          refine g_top (show nI 1 = bI true from rfl) ?_
          exact g_zret C hrt hlk () (congrArg bI (by rw [← hn, show i = tc by omega])) (by rw [show i = tc by omega] at hn; rw [hn]; rfl) d_Senses_isNewTop_62
      · skip
        refine g_iload_n C d_Senses_isNewTop_10 rfl 1 rfl ?_
        refine g_aload_n C d_Senses_isNewTop_11 rfl 0 rfl ?_
        refine g_get C lay_Senses 0 rfl rfl 2 (by decide) m_84 rfl d_Senses_isNewTop_12 ?_
        refine g_iload_n C d_Senses_isNewTop_15 rfl 2 rfl ?_
        refine g_ialdN C 3 rfl (by omega) (by decide) d_Senses_isNewTop_16 ?_
        refine g_top (show (aN P) i = nI (P i) from rfl) ?_
        refine g_iSN (rest := []) (wr := [(g, .inr (4, [.ref ga, .ref gb, .ref gc, .int (nI tc), .int (nI ev), .int (bI kn)])), (ga, .inl (E 0, 4096, .inl (aN TS))), (gb, .inl (E 0, 4096, .inl (aN M))), (gc, .inl (E 0, 924, .inl (aN P)))]) C (c_isWithinN l D E x (P i) (by omega)) rd_AB_isWithin m_310 m_268 (Nat.le_of_ble_eq_true rfl) (Nat.le_of_ble_eq_true rfl) (Nat.le_of_ble_eq_true rfl) (Nat.le_of_ble_eq_true rfl) rfl rfl (Nat.le_of_ble_eq_true rfl) d_Senses_isNewTop_17 [] [0, 1, 2, 3] rfl (by decide) rfl (by decide) (by decide) (fun r17 _ (hr17 : r17 = bI (dif x (P i) == 0)) => ?_)
        subst hr17
        refine g_cells (ws' := [(g, .inr (4, [.ref ga, .ref gb, .ref gc, .int (nI tc), .int (nI ev), .int (bI kn)])), (ga, .inl (E 0, 4096, .inl (aN TS))), (gb, .inl (E 0, 4096, .inl (aN M))), (gc, .inl (E 0, 924, .inl (aN P)))]) [0, 1, 2, 3] (by decide) rfl ?_
        refine g_if_eqB (tgt := 25) C d_Senses_isNewTop_20 (by decide) (fun b1 => ?_) (fun b1 => ?_)
        · skip
          refine g_iinc (lv' := [(2, .int (nI (i + 1))), (0, .ref g), (1, .int (nI x))]) C d_Senses_isNewTop_25 2 rfl (nI_1 _) (by decide) rfl ?_
          refine g_goto (tgt := 2) C d_Senses_isNewTop_28 (by decide) ?_
          refine g_perm [1, 2, 0] rfl ?_
          exact ih2 (i + 1) (by omega) (by simp [ntU, *]) (by omega)
        · skip
          refine g_iconst (v := nI 0) C d_Senses_isNewTop_23 (by decide) ?_
          refine g_top (show nI 0 = bI false from rfl) ?_
          exact g_zret C hrt hlk () (congrArg bI (ntU_f b1 b0).symm) (by rw [ntU_f b1 b0]; rfl) d_Senses_isNewTop_24
  refine g_perm [1, 2, 0] rfl ?_
  exact loop2 (tc - 0 + 1) 0 (Nat.zero_le _) (rfl) (Nat.lt_succ_self _)

set_option maxHeartbeats 4000000 in
set_option maxRecDepth 100000 in
theorem c_Se_markPreferred (l : Launch) (D : va_G) (E : Nat → ClassId) (g : Nat) (ga : Nat) (gb : Nat) (gc : Nat) (TS : Nat → Nat) (M : Nat → Nat) (P : Nat → Nat) (tc : Nat) (ev : Nat) (kn : Bool) (hev : ev < 4096) : MV l D E y_Senses_markPreferred (.code y_Senses_markPreferred k_Senses_markPreferred 2 none) ({ frames := 2, cells := 0, slots := 0, locals := 43 } : Room) [.ref g] [(g, .inr (4, [.ref ga, .ref gb, .ref gc, .int (nI tc), .int (nI ev), .int (bI kn)])), (ga, .inl (E 0, 4096, .inl (aN TS))), (gb, .inl (E 0, 4096, .inl (aN M))), (gc, .inl (E 0, 924, .inl (aN P)))] (fun _ : Unit => True) (fun _ : Unit => [(g, .inr (4, [.ref ga, .ref gb, .ref gc, .int (nI ((tpS 16 2 M P ev (ev + 1)).2.2)), .int (nI ev), .int (bI kn)])), (ga, .inl (E 0, 4096, .inl (aN TS))), (gb, .inl (E 0, 4096, .inl (aN ((tpS 16 2 M P ev (ev + 1)).1)))), (gc, .inl (E 0, 924, .inl (aN ((tpS 16 2 M P ev (ev + 1)).2.1))))]) := by
  refine MV.of (by decide) (Nat.le_of_ble_eq_true rfl) ?_
  intro p e s m args below meth c A C hrt hlk hnm
  refine g_lv (lv' := [(0, .ref g)]) rfl ?_
  refine g_aload_n C d_Senses_markPreferred_0 rfl 0 rfl ?_
  refine g_iconst (v := nI 0) C d_Senses_markPreferred_1 (by decide) ?_
  refine g_put (ws' := [(g, .inr (4, [.ref ga, .ref gb, .ref gc, .int (nI 0), .int (nI ev), .int (bI kn)])), (ga, .inl (E 0, 4096, .inl (aN TS))), (gb, .inl (E 0, 4096, .inl (aN M))), (gc, .inl (E 0, 924, .inl (aN P)))]) C lay_Senses ty_Senses nm_Senses 0 rfl rfl 3 (by decide) m_85 rfl rfl rfl (Nat.le_of_ble_eq_true rfl) rfl d_Senses_markPreferred_2 ?_
  refine g_aload_n C d_Senses_markPreferred_5 rfl 0 rfl ?_
  refine g_get C lay_Senses 0 rfl rfl 4 (by decide) m_86 rfl d_Senses_markPreferred_6 ?_
  refine g_istore_n (lv' := [(1, .int (nI ev)), (0, .ref g)]) C d_Senses_markPreferred_9 rfl (by decide) rfl ?_
  have loop10 : ∀ (f : Nat) (i : Nat) (X : Nat → Nat) (Y : Nat → Nat) (z : Nat), (i ≤ ev + 1) → (TPS 16 2 M P ev i X Y z) → i < f → GG p l e ({ frames := 2, cells := 0, slots := 0, locals := 43 } : Room) s m args below meth c (MQ below (va_Qv (fun _ : Unit => True) (BC D A (fun _ : Unit => [(g, .inr (4, [.ref ga, .ref gb, .ref gc, .int (nI ((tpS 16 2 M P ev (ev + 1)).2.2)), .int (nI ev), .int (bI kn)])), (ga, .inl (E 0, 4096, .inl (aN TS))), (gb, .inl (E 0, 4096, .inl (aN ((tpS 16 2 M P ev (ev + 1)).1)))), (gc, .inl (E 0, 924, .inl (aN ((tpS 16 2 M P ev (ev + 1)).2.1))))])) A) args s (({ frames := 2, cells := 0, slots := 0, locals := 43 } : Room)).cells (({ frames := 2, cells := 0, slots := 0, locals := 43 } : Room)).slots A) D A 2 0 0 10 [(0, .ref g), (1, .int (pI i))] [] [(g, .inr (4, [.ref ga, .ref gb, .ref gc, .int (nI z), .int (nI ev), .int (bI kn)])), (ga, .inl (E 0, 4096, .inl (aN TS))), (gb, .inl (E 0, 4096, .inl (aN X))), (gc, .inl (E 0, 924, .inl (aN Y)))] := by
    intro f
    induction f with
    | zero => intro i X Y z hi hT hf; exact absurd hf (Nat.not_lt_zero _)
    | succ f ih =>
      intro i X Y z hi hT hf
      have ih10 := ih
      refine g_iload_n C d_Senses_markPreferred_10 rfl 1 rfl ?_
      refine g_if_ltP (tgt := 44) C (by omega) d_Senses_markPreferred_11 (by decide) (fun b0 => ?_) (fun z0 b0 => ?_)
      · skip
        exact g_vret C hrt hlk () (trivial) (by subst b0; obtain ⟨e1, e2, e3⟩ := TPS_e hT; rw [e1, e2, e3]) d_Senses_markPreferred_44
      · skip
        refine g_lv (lv' := [(0, .ref g), (1, .int (nI z0))]) (by rw [b0, pI_s]) ?_
        refine g_aload_n C d_Senses_markPreferred_14 rfl 0 rfl ?_
        refine g_iload_n C d_Senses_markPreferred_15 rfl 1 rfl ?_
        refine g_bipush (v := nI 16) C d_Senses_markPreferred_16 (by decide) ?_
        refine g_iV (rest := []) (wr := []) C (c_Se_hasMark l D E g ga gb gc TS X Y z ev kn z0 16 (by omega) (by decide)) rd_Senses_hasMark m_315 m_317 m_6 rfl rfl (Nat.le_of_ble_eq_true rfl) (Nat.le_of_ble_eq_true rfl) (Nat.le_of_ble_eq_true rfl) (Nat.le_of_ble_eq_true rfl) rfl rfl (Nat.le_of_ble_eq_true rfl) d_Senses_markPreferred_18 [0, 1, 2, 3] [] rfl (by decide) rfl (by decide) (by decide) (fun r18 _ (hr18 : r18 = bI (X z0 &&& 16 != 0)) => ?_)
        subst hr18
        refine g_cells (ws' := [(g, .inr (4, [.ref ga, .ref gb, .ref gc, .int (nI z), .int (nI ev), .int (bI kn)])), (ga, .inl (E 0, 4096, .inl (aN TS))), (gb, .inl (E 0, 4096, .inl (aN X))), (gc, .inl (E 0, 924, .inl (aN Y)))]) [0, 1, 2, 3] (by decide) rfl ?_
        refine g_if_eqB (tgt := 38) C d_Senses_markPreferred_21 (by decide) (fun b1 => ?_) (fun b1 => ?_)
        · skip
          refine g_iinc (lv' := [(1, .int (pI z0)), (0, .ref g)]) C d_Senses_markPreferred_38 1 rfl (pI_of _) (by decide) rfl ?_
          refine g_goto (tgt := 10) C d_Senses_markPreferred_41 (by decide) ?_
          refine g_perm [1, 0] rfl ?_
          exact ih10 z0 X Y z (by omega) (by subst b0; first | (have q := TPS_y hT hi b1 b2; simp only [b2, cond_true]; exact q) | (simp only [b2, cond_false]; exact TPS_n2 hT hi b2) | exact TPS_n1 hT hi b1) (by omega)
        · skip
          refine g_aload_n C d_Senses_markPreferred_24 rfl 0 rfl ?_
          refine g_iload_n C d_Senses_markPreferred_25 rfl 1 rfl ?_
          refine g_iV (rest := []) (wr := []) C (c_Se_isNewTop l D E g ga gb gc TS X Y z ev kn z0 (by omega) (TPS_cap hT hev) (fun q => by subst b0; exact TPS_room hT hev hi b1 q)) rd_Senses_isNewTop m_319 m_321 m_7 rfl rfl (Nat.le_of_ble_eq_true rfl) (Nat.le_of_ble_eq_true rfl) (Nat.le_of_ble_eq_true rfl) (Nat.le_of_ble_eq_true rfl) rfl rfl (Nat.le_of_ble_eq_true rfl) d_Senses_markPreferred_26 [0, 1, 2, 3] [] rfl (by decide) rfl (by decide) (by decide) (fun r26 _ (hr26 : r26 = bI (ntU Y z0 z)) => ?_)
          subst hr26
          refine g_cells (ws' := [(g, .inr (4, [.ref ga, .ref gb, .ref gc, .int (nI (bif ntU Y z0 z then z + 1 else z)), .int (nI ev), .int (bI kn)])), (ga, .inl (E 0, 4096, .inl (aN TS))), (gb, .inl (E 0, 4096, .inl (aN X))), (gc, .inl (E 0, 924, .inl (aN (bif ntU Y z0 z then va_up Y z z0 else Y))))]) [0, 1, 2, 3] (by decide) rfl ?_
          refine g_if_eqB (tgt := 38) C d_Senses_markPreferred_29 (by decide) (fun b2 => ?_) (fun b2 => ?_)
          · skip
            refine g_iinc (lv' := [(1, .int (pI z0)), (0, .ref g)]) C d_Senses_markPreferred_38 1 rfl (pI_of _) (by decide) rfl ?_
            refine g_goto (tgt := 10) C d_Senses_markPreferred_41 (by decide) ?_
            refine g_perm [1, 0] rfl ?_
            exact ih10 z0 X (bif ntU Y z0 z then va_up Y z z0 else Y) (bif ntU Y z0 z then z + 1 else z) (by omega) (by subst b0; first | (have q := TPS_y hT hi b1 b2; simp only [b2, cond_true]; exact q) | (simp only [b2, cond_false]; exact TPS_n2 hT hi b2) | exact TPS_n1 hT hi b1) (by omega)
          · skip
            refine g_aload_n C d_Senses_markPreferred_32 rfl 0 rfl ?_
            refine g_iload_n C d_Senses_markPreferred_33 rfl 1 rfl ?_
            refine g_iconst (v := nI 2) C d_Senses_markPreferred_34 (by decide) ?_
            refine g_vV (rest := []) (wr := []) C (c_Se_mark l D E g ga gb gc TS X (bif ntU Y z0 z then va_up Y z z0 else Y) (bif ntU Y z0 z then z + 1 else z) ev kn z0 2 (by omega) (by decide)) rd_Senses_mark m_323 m_325 m_8 rfl rfl (Nat.le_of_ble_eq_true rfl) (Nat.le_of_ble_eq_true rfl) (Nat.le_of_ble_eq_true rfl) (Nat.le_of_ble_eq_true rfl) rfl rfl (Nat.le_of_ble_eq_true rfl) d_Senses_markPreferred_35 [0, 1, 2, 3] [] rfl (by decide) rfl (by decide) (by decide) (fun _ _ => ?_)
            refine g_cells (ws' := [(g, .inr (4, [.ref ga, .ref gb, .ref gc, .int (nI (bif ntU Y z0 z then z + 1 else z)), .int (nI ev), .int (bI kn)])), (ga, .inl (E 0, 4096, .inl (aN TS))), (gb, .inl (E 0, 4096, .inl (aN (va_up X z0 (X z0 ||| 2))))), (gc, .inl (E 0, 924, .inl (aN (bif ntU Y z0 z then va_up Y z z0 else Y))))]) [0, 1, 2, 3] (by decide) rfl ?_
            refine g_iinc (lv' := [(1, .int (pI z0)), (0, .ref g)]) C d_Senses_markPreferred_38 1 rfl (pI_of _) (by decide) rfl ?_
            refine g_goto (tgt := 10) C d_Senses_markPreferred_41 (by decide) ?_
            refine g_perm [1, 0] rfl ?_
            exact ih10 z0 (va_up X z0 (X z0 ||| 2)) (bif ntU Y z0 z then va_up Y z z0 else Y) (bif ntU Y z0 z then z + 1 else z) (by omega) (by subst b0; first | (have q := TPS_y hT hi b1 b2; simp only [b2, cond_true]; exact q) | (simp only [b2, cond_false]; exact TPS_n2 hT hi b2) | exact TPS_n1 hT hi b1) (by omega)
  refine g_lv (lv' := [(1, .int (pI (ev + 1))), (0, .ref g)]) (by rw [pI_s]) ?_
  refine g_perm [1, 0] rfl ?_
  exact loop10 ((ev + 1) + 1) (ev + 1) M P 0 (Nat.le_refl _) (TPS_0) (Nat.lt_succ_self _)

set_option maxHeartbeats 4000000 in
set_option maxRecDepth 100000 in
theorem c_Se_markRanges (l : Launch) (D : va_G) (E : Nat → ClassId) (g : Nat) (ga : Nat) (gb : Nat) (gc : Nat) (TS : Nat → Nat) (M : Nat → Nat) (P : Nat → Nat) (tc : Nat) (ev : Nat) (kn : Bool) (hev : ev < 4096) (hTS : ∀ a, TS a < 4096) : MV l D E y_Senses_markRanges (.code y_Senses_markRanges k_Senses_markRanges 2 none) ({ frames := 3, cells := 0, slots := 0, locals := 62 } : Room) [.ref g] [(g, .inr (4, [.ref ga, .ref gb, .ref gc, .int (nI tc), .int (nI ev), .int (bI kn)])), (ga, .inl (E 0, 4096, .inl (aN TS))), (gb, .inl (E 0, 4096, .inl (aN M))), (gc, .inl (E 0, 924, .inl (aN P)))] (fun _ : Unit => True) (fun _ : Unit => [(g, .inr (4, [.ref ga, .ref gb, .ref gc, .int (nI ((tpS 64 128 (rgS TS M (ev + 1)) P ev (ev + 1)).2.2)), .int (nI ev), .int (bI kn)])), (ga, .inl (E 0, 4096, .inl (aN TS))), (gb, .inl (E 0, 4096, .inl (aN ((tpS 64 128 (rgS TS M (ev + 1)) P ev (ev + 1)).1)))), (gc, .inl (E 0, 924, .inl (aN ((tpS 64 128 (rgS TS M (ev + 1)) P ev (ev + 1)).2.1))))]) := by
  refine MV.of (by decide) (Nat.le_of_ble_eq_true rfl) ?_
  intro p e s m args below meth c A C hrt hlk hnm
  refine g_lv (lv' := [(0, .ref g)]) rfl ?_
  refine g_iconst (v := nI 0) C d_Senses_markRanges_0 (by decide) ?_
  refine g_istore_n (lv' := [(1, .int (nI 0)), (0, .ref g)]) C d_Senses_markRanges_1 rfl (by decide) rfl ?_
  have loop2 : ∀ (f : Nat) (a : Nat) (V : Nat → Nat), (a ≤ ev + 1) → (V = rgS TS M a) → ev + 1 - a < f → GG p l e ({ frames := 3, cells := 0, slots := 0, locals := 62 } : Room) s m args below meth c (MQ below (va_Qv (fun _ : Unit => True) (BC D A (fun _ : Unit => [(g, .inr (4, [.ref ga, .ref gb, .ref gc, .int (nI ((tpS 64 128 (rgS TS M (ev + 1)) P ev (ev + 1)).2.2)), .int (nI ev), .int (bI kn)])), (ga, .inl (E 0, 4096, .inl (aN TS))), (gb, .inl (E 0, 4096, .inl (aN ((tpS 64 128 (rgS TS M (ev + 1)) P ev (ev + 1)).1)))), (gc, .inl (E 0, 924, .inl (aN ((tpS 64 128 (rgS TS M (ev + 1)) P ev (ev + 1)).2.1))))])) A) args s (({ frames := 3, cells := 0, slots := 0, locals := 62 } : Room)).cells (({ frames := 3, cells := 0, slots := 0, locals := 62 } : Room)).slots A) D A 2 0 0 2 [(0, .ref g), (1, .int (nI a))] [] [(g, .inr (4, [.ref ga, .ref gb, .ref gc, .int (nI tc), .int (nI ev), .int (bI kn)])), (ga, .inl (E 0, 4096, .inl (aN TS))), (gb, .inl (E 0, 4096, .inl (aN V))), (gc, .inl (E 0, 924, .inl (aN P)))] := by
    intro f
    induction f with
    | zero => intro a V ha hV hf; exact absurd hf (Nat.not_lt_zero _)
    | succ f ih =>
      intro a V ha hV hf
      have ih2 := ih
      refine g_iload_n C d_Senses_markRanges_2 rfl 1 rfl ?_
      refine g_aload_n C d_Senses_markRanges_3 rfl 0 rfl ?_
      refine g_get C lay_Senses 0 rfl rfl 4 (by decide) m_86 rfl d_Senses_markRanges_4 ?_
      refine g_icmp_gtN (tgt := 37) C (by omega) (by omega) d_Senses_markRanges_7 (by decide) (fun b0 => ?_) (fun b0 => ?_)
      · skip
        refine g_aload_n C d_Senses_markRanges_37 rfl 0 rfl ?_
        refine g_iconst (v := nI 0) C d_Senses_markRanges_38 (by decide) ?_
        refine g_put (ws' := [(g, .inr (4, [.ref ga, .ref gb, .ref gc, .int (nI 0), .int (nI ev), .int (bI kn)])), (ga, .inl (E 0, 4096, .inl (aN TS))), (gb, .inl (E 0, 4096, .inl (aN V))), (gc, .inl (E 0, 924, .inl (aN P)))]) C lay_Senses ty_Senses nm_Senses 0 rfl rfl 3 (by decide) m_85 rfl rfl rfl (Nat.le_of_ble_eq_true rfl) rfl d_Senses_markRanges_39 ?_
        refine g_aload_n C d_Senses_markRanges_42 rfl 0 rfl ?_
        refine g_get C lay_Senses 0 rfl rfl 4 (by decide) m_86 rfl d_Senses_markRanges_43 ?_
        refine g_istore_n (lv' := [(1, .int (nI ev)), (0, .ref g)]) C d_Senses_markRanges_46 rfl (by decide) rfl ?_
        have loop47 : ∀ (f : Nat) (i : Nat) (X : Nat → Nat) (Y : Nat → Nat) (z : Nat), (i ≤ ev + 1) → (TPS 64 128 (rgS TS M (ev + 1)) P ev i X Y z) → i < f → GG p l e ({ frames := 3, cells := 0, slots := 0, locals := 62 } : Room) s m args below meth c (MQ below (va_Qv (fun _ : Unit => True) (BC D A (fun _ : Unit => [(g, .inr (4, [.ref ga, .ref gb, .ref gc, .int (nI ((tpS 64 128 (rgS TS M (ev + 1)) P ev (ev + 1)).2.2)), .int (nI ev), .int (bI kn)])), (ga, .inl (E 0, 4096, .inl (aN TS))), (gb, .inl (E 0, 4096, .inl (aN ((tpS 64 128 (rgS TS M (ev + 1)) P ev (ev + 1)).1)))), (gc, .inl (E 0, 924, .inl (aN ((tpS 64 128 (rgS TS M (ev + 1)) P ev (ev + 1)).2.1))))])) A) args s (({ frames := 3, cells := 0, slots := 0, locals := 62 } : Room)).cells (({ frames := 3, cells := 0, slots := 0, locals := 62 } : Room)).slots A) D A 2 0 0 47 [(0, .ref g), (1, .int (pI i))] [] [(g, .inr (4, [.ref ga, .ref gb, .ref gc, .int (nI z), .int (nI ev), .int (bI kn)])), (ga, .inl (E 0, 4096, .inl (aN TS))), (gb, .inl (E 0, 4096, .inl (aN X))), (gc, .inl (E 0, 924, .inl (aN Y)))] := by
          intro f
          induction f with
          | zero => intro i X Y z hi hT hf; exact absurd hf (Nat.not_lt_zero _)
          | succ f ih =>
            intro i X Y z hi hT hf
            have ih47 := ih
            refine g_iload_n C d_Senses_markRanges_47 rfl 1 rfl ?_
            refine g_if_ltP (tgt := 83) C (by omega) d_Senses_markRanges_48 (by decide) (fun b2 => ?_) (fun z2 b2 => ?_)
            · skip
              exact g_vret C hrt hlk () (trivial) (by subst b2; obtain ⟨e1, e2, e3⟩ := TPS_e hT; rw [e1, e2, e3]) d_Senses_markRanges_83
            · skip
              refine g_lv (lv' := [(0, .ref g), (1, .int (nI z2))]) (by rw [b2, pI_s]) ?_
              refine g_aload_n C d_Senses_markRanges_51 rfl 0 rfl ?_
              refine g_iload_n C d_Senses_markRanges_52 rfl 1 rfl ?_
              refine g_bipush (v := nI 64) C d_Senses_markRanges_53 (by decide) ?_
              refine g_iV (rest := []) (wr := []) C (c_Se_hasMark l D E g ga gb gc TS X Y z ev kn z2 64 (by omega) (by decide)) rd_Senses_hasMark m_315 m_317 m_6 rfl rfl (Nat.le_of_ble_eq_true rfl) (Nat.le_of_ble_eq_true rfl) (Nat.le_of_ble_eq_true rfl) (Nat.le_of_ble_eq_true rfl) rfl rfl (Nat.le_of_ble_eq_true rfl) d_Senses_markRanges_55 [0, 1, 2, 3] [] rfl (by decide) rfl (by decide) (by decide) (fun r55 _ (hr55 : r55 = bI (X z2 &&& 64 != 0)) => ?_)
              subst hr55
              refine g_cells (ws' := [(g, .inr (4, [.ref ga, .ref gb, .ref gc, .int (nI z), .int (nI ev), .int (bI kn)])), (ga, .inl (E 0, 4096, .inl (aN TS))), (gb, .inl (E 0, 4096, .inl (aN X))), (gc, .inl (E 0, 924, .inl (aN Y)))]) [0, 1, 2, 3] (by decide) rfl ?_
              refine g_if_eqB (tgt := 77) C d_Senses_markRanges_58 (by decide) (fun b3 => ?_) (fun b3 => ?_)
              · skip
                refine g_iinc (lv' := [(1, .int (pI z2)), (0, .ref g)]) C d_Senses_markRanges_77 1 rfl (pI_of _) (by decide) rfl ?_
                refine g_goto (tgt := 47) C d_Senses_markRanges_80 (by decide) ?_
                refine g_perm [1, 0] rfl ?_
                exact ih47 z2 X Y z (by omega) (by subst b2; first | (have q := TPS_y hT hi b3 b4; simp only [b4, cond_true]; exact q) | (simp only [b4, cond_false]; exact TPS_n2 hT hi b4) | exact TPS_n1 hT hi b3) (by omega)
              · skip
                refine g_aload_n C d_Senses_markRanges_61 rfl 0 rfl ?_
                refine g_iload_n C d_Senses_markRanges_62 rfl 1 rfl ?_
                refine g_iV (rest := []) (wr := []) C (c_Se_isNewTop l D E g ga gb gc TS X Y z ev kn z2 (by omega) (TPS_cap hT hev) (fun q => by subst b2; exact TPS_room hT hev hi b3 q)) rd_Senses_isNewTop m_319 m_321 m_7 rfl rfl (Nat.le_of_ble_eq_true rfl) (Nat.le_of_ble_eq_true rfl) (Nat.le_of_ble_eq_true rfl) (Nat.le_of_ble_eq_true rfl) rfl rfl (Nat.le_of_ble_eq_true rfl) d_Senses_markRanges_63 [0, 1, 2, 3] [] rfl (by decide) rfl (by decide) (by decide) (fun r63 _ (hr63 : r63 = bI (ntU Y z2 z)) => ?_)
                subst hr63
                refine g_cells (ws' := [(g, .inr (4, [.ref ga, .ref gb, .ref gc, .int (nI (bif ntU Y z2 z then z + 1 else z)), .int (nI ev), .int (bI kn)])), (ga, .inl (E 0, 4096, .inl (aN TS))), (gb, .inl (E 0, 4096, .inl (aN X))), (gc, .inl (E 0, 924, .inl (aN (bif ntU Y z2 z then va_up Y z z2 else Y))))]) [0, 1, 2, 3] (by decide) rfl ?_
                refine g_if_eqB (tgt := 77) C d_Senses_markRanges_66 (by decide) (fun b4 => ?_) (fun b4 => ?_)
                · skip
                  refine g_iinc (lv' := [(1, .int (pI z2)), (0, .ref g)]) C d_Senses_markRanges_77 1 rfl (pI_of _) (by decide) rfl ?_
                  refine g_goto (tgt := 47) C d_Senses_markRanges_80 (by decide) ?_
                  refine g_perm [1, 0] rfl ?_
                  exact ih47 z2 X (bif ntU Y z2 z then va_up Y z z2 else Y) (bif ntU Y z2 z then z + 1 else z) (by omega) (by subst b2; first | (have q := TPS_y hT hi b3 b4; simp only [b4, cond_true]; exact q) | (simp only [b4, cond_false]; exact TPS_n2 hT hi b4) | exact TPS_n1 hT hi b3) (by omega)
                · skip
                  refine g_aload_n C d_Senses_markRanges_69 rfl 0 rfl ?_
                  refine g_iload_n C d_Senses_markRanges_70 rfl 1 rfl ?_
                  refine g_sipush (v := nI 128) C d_Senses_markRanges_71 (by decide) ?_
                  refine g_vV (rest := []) (wr := []) C (c_Se_mark l D E g ga gb gc TS X (bif ntU Y z2 z then va_up Y z z2 else Y) (bif ntU Y z2 z then z + 1 else z) ev kn z2 128 (by omega) (by decide)) rd_Senses_mark m_323 m_325 m_8 rfl rfl (Nat.le_of_ble_eq_true rfl) (Nat.le_of_ble_eq_true rfl) (Nat.le_of_ble_eq_true rfl) (Nat.le_of_ble_eq_true rfl) rfl rfl (Nat.le_of_ble_eq_true rfl) d_Senses_markRanges_74 [0, 1, 2, 3] [] rfl (by decide) rfl (by decide) (by decide) (fun _ _ => ?_)
                  refine g_cells (ws' := [(g, .inr (4, [.ref ga, .ref gb, .ref gc, .int (nI (bif ntU Y z2 z then z + 1 else z)), .int (nI ev), .int (bI kn)])), (ga, .inl (E 0, 4096, .inl (aN TS))), (gb, .inl (E 0, 4096, .inl (aN (va_up X z2 (X z2 ||| 128))))), (gc, .inl (E 0, 924, .inl (aN (bif ntU Y z2 z then va_up Y z z2 else Y))))]) [0, 1, 2, 3] (by decide) rfl ?_
                  refine g_iinc (lv' := [(1, .int (pI z2)), (0, .ref g)]) C d_Senses_markRanges_77 1 rfl (pI_of _) (by decide) rfl ?_
                  refine g_goto (tgt := 47) C d_Senses_markRanges_80 (by decide) ?_
                  refine g_perm [1, 0] rfl ?_
                  exact ih47 z2 (va_up X z2 (X z2 ||| 128)) (bif ntU Y z2 z then va_up Y z z2 else Y) (bif ntU Y z2 z then z + 1 else z) (by omega) (by subst b2; first | (have q := TPS_y hT hi b3 b4; simp only [b4, cond_true]; exact q) | (simp only [b4, cond_false]; exact TPS_n2 hT hi b4) | exact TPS_n1 hT hi b3) (by omega)
        refine g_lv (lv' := [(1, .int (pI (ev + 1))), (0, .ref g)]) (by rw [pI_s]) ?_
        refine g_perm [1, 0] rfl ?_
        exact loop47 ((ev + 1) + 1) (ev + 1) V P 0 (Nat.le_refl _) (by rw [hV, show a = ev + 1 by omega]; exact TPS_0) (Nat.lt_succ_self _)
      · skip
        refine g_aload_n C d_Senses_markRanges_10 rfl 0 rfl ?_
        refine g_iload_n C d_Senses_markRanges_11 rfl 1 rfl ?_
        refine g_bipush (v := nI 32) C d_Senses_markRanges_12 (by decide) ?_
        refine g_iV (rest := []) (wr := []) C (c_Se_hasMark l D E g ga gb gc TS V P tc ev kn a 32 (by omega) (by decide)) rd_Senses_hasMark m_315 m_317 m_6 rfl rfl (Nat.le_of_ble_eq_true rfl) (Nat.le_of_ble_eq_true rfl) (Nat.le_of_ble_eq_true rfl) (Nat.le_of_ble_eq_true rfl) rfl rfl (Nat.le_of_ble_eq_true rfl) d_Senses_markRanges_14 [0, 1, 2, 3] [] rfl (by decide) rfl (by decide) (by decide) (fun r14 _ (hr14 : r14 = bI (V a &&& 32 != 0)) => ?_)
        subst hr14
        refine g_cells (ws' := [(g, .inr (4, [.ref ga, .ref gb, .ref gc, .int (nI tc), .int (nI ev), .int (bI kn)])), (ga, .inl (E 0, 4096, .inl (aN TS))), (gb, .inl (E 0, 4096, .inl (aN V))), (gc, .inl (E 0, 924, .inl (aN P)))]) [0, 1, 2, 3] (by decide) rfl ?_
        refine g_if_eqB (tgt := 31) C d_Senses_markRanges_17 (by decide) (fun b1 => ?_) (fun b1 => ?_)
        · skip
          refine g_iinc (lv' := [(1, .int (nI (a + 1))), (0, .ref g)]) C d_Senses_markRanges_31 1 rfl (nI_1 _) (by decide) rfl ?_
          refine g_goto (tgt := 2) C d_Senses_markRanges_34 (by decide) ?_
          refine g_perm [1, 0] rfl ?_
          exact ih2 (a + 1) V (by omega) (by simp only [rgS, ← hV, b1]; rfl) (by omega)
        · skip
          refine g_aload_n C d_Senses_markRanges_20 rfl 0 rfl ?_
          refine g_aload_n C d_Senses_markRanges_21 rfl 0 rfl ?_
          refine g_iload_n C d_Senses_markRanges_22 rfl 1 rfl ?_
          refine g_iV (rest := [.ref g]) (wr := []) C (c_Se_rangeOf l D E g ga gb gc TS V P tc ev kn a (by omega)) rd_Senses_rangeOf m_306 m_308 m_4 rfl rfl (Nat.le_of_ble_eq_true rfl) (Nat.le_of_ble_eq_true rfl) (Nat.le_of_ble_eq_true rfl) (Nat.le_of_ble_eq_true rfl) rfl rfl (Nat.le_of_ble_eq_true rfl) d_Senses_markRanges_23 [0, 1, 2, 3] [] rfl (by decide) rfl (by decide) (by decide) (fun r23 _ (hr23 : r23 = nI (a ||| TS a)) => ?_)
          subst hr23
          refine g_cells (ws' := [(g, .inr (4, [.ref ga, .ref gb, .ref gc, .int (nI tc), .int (nI ev), .int (bI kn)])), (ga, .inl (E 0, 4096, .inl (aN TS))), (gb, .inl (E 0, 4096, .inl (aN V))), (gc, .inl (E 0, 924, .inl (aN P)))]) [0, 1, 2, 3] (by decide) rfl ?_
          refine g_bipush (v := nI 64) C d_Senses_markRanges_26 (by decide) ?_
          refine g_vV (rest := []) (wr := []) C (c_Se_mark l D E g ga gb gc TS V P tc ev kn (a ||| TS a) 64 (orl (by omega) (hTS _)) (by decide)) rd_Senses_mark m_323 m_325 m_8 rfl rfl (Nat.le_of_ble_eq_true rfl) (Nat.le_of_ble_eq_true rfl) (Nat.le_of_ble_eq_true rfl) (Nat.le_of_ble_eq_true rfl) rfl rfl (Nat.le_of_ble_eq_true rfl) d_Senses_markRanges_28 [0, 1, 2, 3] [] rfl (by decide) rfl (by decide) (by decide) (fun _ _ => ?_)
          refine g_cells (ws' := [(g, .inr (4, [.ref ga, .ref gb, .ref gc, .int (nI tc), .int (nI ev), .int (bI kn)])), (ga, .inl (E 0, 4096, .inl (aN TS))), (gb, .inl (E 0, 4096, .inl (aN (va_up V (a ||| TS a) (V (a ||| TS a) ||| 64))))), (gc, .inl (E 0, 924, .inl (aN P)))]) [0, 1, 2, 3] (by decide) rfl ?_
          refine g_iinc (lv' := [(1, .int (nI (a + 1))), (0, .ref g)]) C d_Senses_markRanges_31 1 rfl (nI_1 _) (by decide) rfl ?_
          refine g_goto (tgt := 2) C d_Senses_markRanges_34 (by decide) ?_
          refine g_perm [1, 0] rfl ?_
          exact ih2 (a + 1) (va_up V (a ||| TS a) (V (a ||| TS a) ||| 64)) (by omega) (by simp only [rgS, ← hV, b1]; rfl) (by omega)
  refine g_perm [1, 0] rfl ?_
  exact loop2 (ev + 1 - 0 + 1) 0 M (Nat.zero_le _) (rfl) (Nat.lt_succ_self _)

set_option maxHeartbeats 4000000 in
set_option maxRecDepth 100000 in
theorem c_Se_markStage (l : Launch) (D : va_G) (E : Nat → ClassId) (g : Nat) (ga : Nat) (gb : Nat) (gc : Nat) (TS : Nat → Nat) (M : Nat → Nat) (P : Nat → Nat) (tc : Nat) (ev : Nat) (kn : Bool) (hev : ev < 4096) (hTS : ∀ a, TS a < 4096) : MV l D E y_Senses_markStage (.code y_Senses_markStage k_Senses_markStage 2 none) ({ frames := 3, cells := 0, slots := 0, locals := 62 } : Room) [.ref g] [(g, .inr (4, [.ref ga, .ref gb, .ref gc, .int (nI tc), .int (nI ev), .int (bI kn)])), (ga, .inl (E 0, 4096, .inl (aN TS))), (gb, .inl (E 0, 4096, .inl (aN M))), (gc, .inl (E 0, 924, .inl (aN P)))] (fun _ : Unit => True) (fun _ : Unit => [(g, .inr (4, [.ref ga, .ref gb, .ref gc, .int (nI tc), .int (nI ev), .int (bI kn)])), (ga, .inl (E 0, 4096, .inl (aN TS))), (gb, .inl (E 0, 4096, .inl (aN (stS TS M (ev + 1))))), (gc, .inl (E 0, 924, .inl (aN P)))]) := by
  refine MV.of (by decide) (Nat.le_of_ble_eq_true rfl) ?_
  intro p e s m args below meth c A C hrt hlk hnm
  refine g_lv (lv' := [(0, .ref g)]) rfl ?_
  refine g_iconst (v := nI 0) C d_Senses_markStage_0 (by decide) ?_
  refine g_istore_n (lv' := [(1, .int (nI 0)), (0, .ref g)]) C d_Senses_markStage_1 rfl (by decide) rfl ?_
  have loop2 : ∀ (f : Nat) (a : Nat) (V : Nat → Nat), (a ≤ ev + 1) → (V = stS TS M a) → ev + 1 - a < f → GG p l e ({ frames := 3, cells := 0, slots := 0, locals := 62 } : Room) s m args below meth c (MQ below (va_Qv (fun _ : Unit => True) (BC D A (fun _ : Unit => [(g, .inr (4, [.ref ga, .ref gb, .ref gc, .int (nI tc), .int (nI ev), .int (bI kn)])), (ga, .inl (E 0, 4096, .inl (aN TS))), (gb, .inl (E 0, 4096, .inl (aN (stS TS M (ev + 1))))), (gc, .inl (E 0, 924, .inl (aN P)))])) A) args s (({ frames := 3, cells := 0, slots := 0, locals := 62 } : Room)).cells (({ frames := 3, cells := 0, slots := 0, locals := 62 } : Room)).slots A) D A 2 0 0 2 [(0, .ref g), (1, .int (nI a))] [] [(g, .inr (4, [.ref ga, .ref gb, .ref gc, .int (nI tc), .int (nI ev), .int (bI kn)])), (ga, .inl (E 0, 4096, .inl (aN TS))), (gb, .inl (E 0, 4096, .inl (aN V))), (gc, .inl (E 0, 924, .inl (aN P)))] := by
    intro f
    induction f with
    | zero => intro a V ha hV hf; exact absurd hf (Nat.not_lt_zero _)
    | succ f ih =>
      intro a V ha hV hf
      have ih2 := ih
      refine g_iload_n C d_Senses_markStage_2 rfl 1 rfl ?_
      refine g_aload_n C d_Senses_markStage_3 rfl 0 rfl ?_
      refine g_get C lay_Senses 0 rfl rfl 4 (by decide) m_86 rfl d_Senses_markStage_4 ?_
      refine g_icmp_gtN (tgt := 48) C (by omega) (by omega) d_Senses_markStage_7 (by decide) (fun b0 => ?_) (fun b0 => ?_)
      · skip
        exact g_vret C hrt hlk () (trivial) (by rw [hV, show a = ev + 1 by omega]) d_Senses_markStage_48
      · skip
        refine g_aload_n C d_Senses_markStage_10 rfl 0 rfl ?_
        refine g_iload_n C d_Senses_markStage_11 rfl 1 rfl ?_
        refine g_bipush (v := nI 32) C d_Senses_markStage_12 (by decide) ?_
        refine g_iV (rest := []) (wr := []) C (c_Se_hasMark l D E g ga gb gc TS V P tc ev kn a 32 (by omega) (by decide)) rd_Senses_hasMark m_315 m_317 m_6 rfl rfl (Nat.le_of_ble_eq_true rfl) (Nat.le_of_ble_eq_true rfl) (Nat.le_of_ble_eq_true rfl) (Nat.le_of_ble_eq_true rfl) rfl rfl (Nat.le_of_ble_eq_true rfl) d_Senses_markStage_14 [0, 1, 2, 3] [] rfl (by decide) rfl (by decide) (by decide) (fun r14 _ (hr14 : r14 = bI (V a &&& 32 != 0)) => ?_)
        subst hr14
        refine g_cells (ws' := [(g, .inr (4, [.ref ga, .ref gb, .ref gc, .int (nI tc), .int (nI ev), .int (bI kn)])), (ga, .inl (E 0, 4096, .inl (aN TS))), (gb, .inl (E 0, 4096, .inl (aN V))), (gc, .inl (E 0, 924, .inl (aN P)))]) [0, 1, 2, 3] (by decide) rfl ?_
        refine g_if_eqB (tgt := 42) C d_Senses_markStage_17 (by decide) (fun b1 => ?_) (fun b1 => ?_)
        · skip
          refine g_iinc (lv' := [(1, .int (nI (a + 1))), (0, .ref g)]) C d_Senses_markStage_42 1 rfl (nI_1 _) (by decide) rfl ?_
          refine g_goto (tgt := 2) C d_Senses_markStage_45 (by decide) ?_
          refine g_perm [1, 0] rfl ?_
          exact ih2 (a + 1) V (by omega) (by first | (simp only [stS, ← hV, b1, b2]; rfl) | (simp only [stS, ← hV, b1]; rfl)) (by omega)
        · skip
          refine g_aload_n C d_Senses_markStage_20 rfl 0 rfl ?_
          refine g_aload_n C d_Senses_markStage_21 rfl 0 rfl ?_
          refine g_iload_n C d_Senses_markStage_22 rfl 1 rfl ?_
          refine g_iV (rest := [.ref g]) (wr := []) C (c_Se_rangeOf l D E g ga gb gc TS V P tc ev kn a (by omega)) rd_Senses_rangeOf m_306 m_308 m_4 rfl rfl (Nat.le_of_ble_eq_true rfl) (Nat.le_of_ble_eq_true rfl) (Nat.le_of_ble_eq_true rfl) (Nat.le_of_ble_eq_true rfl) rfl rfl (Nat.le_of_ble_eq_true rfl) d_Senses_markStage_23 [0, 1, 2, 3] [] rfl (by decide) rfl (by decide) (by decide) (fun r23 _ (hr23 : r23 = nI (a ||| TS a)) => ?_)
          subst hr23
          refine g_cells (ws' := [(g, .inr (4, [.ref ga, .ref gb, .ref gc, .int (nI tc), .int (nI ev), .int (bI kn)])), (ga, .inl (E 0, 4096, .inl (aN TS))), (gb, .inl (E 0, 4096, .inl (aN V))), (gc, .inl (E 0, 924, .inl (aN P)))]) [0, 1, 2, 3] (by decide) rfl ?_
          refine g_sipush (v := nI 128) C d_Senses_markStage_26 (by decide) ?_
          refine g_iV (rest := []) (wr := []) C (c_Se_hasMark l D E g ga gb gc TS V P tc ev kn (a ||| TS a) 128 (orl (by omega) (hTS _)) (by decide)) rd_Senses_hasMark m_315 m_317 m_6 rfl rfl (Nat.le_of_ble_eq_true rfl) (Nat.le_of_ble_eq_true rfl) (Nat.le_of_ble_eq_true rfl) (Nat.le_of_ble_eq_true rfl) rfl rfl (Nat.le_of_ble_eq_true rfl) d_Senses_markStage_29 [0, 1, 2, 3] [] rfl (by decide) rfl (by decide) (by decide) (fun r29 _ (hr29 : r29 = bI (V (a ||| TS a) &&& 128 != 0)) => ?_)
          subst hr29
          refine g_cells (ws' := [(g, .inr (4, [.ref ga, .ref gb, .ref gc, .int (nI tc), .int (nI ev), .int (bI kn)])), (ga, .inl (E 0, 4096, .inl (aN TS))), (gb, .inl (E 0, 4096, .inl (aN V))), (gc, .inl (E 0, 924, .inl (aN P)))]) [0, 1, 2, 3] (by decide) rfl ?_
          refine g_if_eqB (tgt := 42) C d_Senses_markStage_32 (by decide) (fun b2 => ?_) (fun b2 => ?_)
          · skip
            refine g_iinc (lv' := [(1, .int (nI (a + 1))), (0, .ref g)]) C d_Senses_markStage_42 1 rfl (nI_1 _) (by decide) rfl ?_
            refine g_goto (tgt := 2) C d_Senses_markStage_45 (by decide) ?_
            refine g_perm [1, 0] rfl ?_
            exact ih2 (a + 1) V (by omega) (by first | (simp only [stS, ← hV, b1, b2]; rfl) | (simp only [stS, ← hV, b1]; rfl)) (by omega)
          · skip
            refine g_aload_n C d_Senses_markStage_35 rfl 0 rfl ?_
            refine g_iload_n C d_Senses_markStage_36 rfl 1 rfl ?_
            refine g_bipush (v := nI 8) C d_Senses_markStage_37 (by decide) ?_
            refine g_vV (rest := []) (wr := []) C (c_Se_mark l D E g ga gb gc TS V P tc ev kn a 8 (by omega) (by decide)) rd_Senses_mark m_323 m_325 m_8 rfl rfl (Nat.le_of_ble_eq_true rfl) (Nat.le_of_ble_eq_true rfl) (Nat.le_of_ble_eq_true rfl) (Nat.le_of_ble_eq_true rfl) rfl rfl (Nat.le_of_ble_eq_true rfl) d_Senses_markStage_39 [0, 1, 2, 3] [] rfl (by decide) rfl (by decide) (by decide) (fun _ _ => ?_)
            refine g_cells (ws' := [(g, .inr (4, [.ref ga, .ref gb, .ref gc, .int (nI tc), .int (nI ev), .int (bI kn)])), (ga, .inl (E 0, 4096, .inl (aN TS))), (gb, .inl (E 0, 4096, .inl (aN (va_up V a (V a ||| 8))))), (gc, .inl (E 0, 924, .inl (aN P)))]) [0, 1, 2, 3] (by decide) rfl ?_
            refine g_iinc (lv' := [(1, .int (nI (a + 1))), (0, .ref g)]) C d_Senses_markStage_42 1 rfl (nI_1 _) (by decide) rfl ?_
            refine g_goto (tgt := 2) C d_Senses_markStage_45 (by decide) ?_
            refine g_perm [1, 0] rfl ?_
            exact ih2 (a + 1) (va_up V a (V a ||| 8)) (by omega) (by first | (simp only [stS, ← hV, b1, b2]; rfl) | (simp only [stS, ← hV, b1]; rfl)) (by omega)
  refine g_perm [1, 0] rfl ?_
  exact loop2 (ev + 1 - 0 + 1) 0 M (Nat.zero_le _) (rfl) (Nat.lt_succ_self _)

set_option maxHeartbeats 4000000 in
set_option maxRecDepth 100000 in
theorem c_Se_learn (l : Launch) (D : va_G) (E : Nat → ClassId) (g : Nat) (ga : Nat) (gb : Nat) (gc : Nat) (TS : Nat → Nat) (M : Nat → Nat) (P : Nat → Nat) (tc : Nat) (ev : Nat) (kn : Bool) (h : Nat) (t : Nat) (u : Nat) (n : Nat) (T : Nat → Nat) (U : Nat → Nat) (hn : n ≤ 12) (hT : ∀ a, T a < 4096) (hTS : ∀ a, TS a < 4096) (hdu : n < 13) : MV l D E y_Senses_learn (.code y_Senses_learn k_Senses_learn 3 none) ({ frames := 4, cells := 0, slots := 0, locals := 86 } : Room) [.ref g, .ref h] [(g, .inr (4, [.ref ga, .ref gb, .ref gc, .int (nI tc), .int (nI ev), .int (bI kn)])), (ga, .inl (E 0, 4096, .inl (aN TS))), (gb, .inl (E 0, 4096, .inl (aN M))), (gc, .inl (E 0, 924, .inl (aN P))), (h, .inr (6, [.ref t, .ref u, .int (nI n)])), (t, .inl (E 0, 12, .inl (aN T))), (u, .inl (E 0, 12, .inl (aN U)))] (fun _ : Unit => True) (fun _ : Unit => [(g, .inr (4, [.ref ga, .ref gb, .ref gc, .int (nI (lnC kn T n TS M P tc)), .int (nI (lnEv kn n ev)), .int (bI true)])), (ga, .inl (E 0, 4096, .inl (aN (lnTS kn T n TS)))), (gb, .inl (E 0, 4096, .inl (aN (lnM kn T n TS M P)))), (gc, .inl (E 0, 924, .inl (aN (lnP kn T n TS M P)))), (h, .inr (6, [.ref t, .ref u, .int (nI n)])), (t, .inl (E 0, 12, .inl (aN T))), (u, .inl (E 0, 12, .inl (aN U)))]) := by
  refine MV.of (by decide) (Nat.le_of_ble_eq_true rfl) ?_
  intro p e s m args below meth c A C hrt hlk hnm
  refine g_lv (lv' := [(0, .ref g), (1, .ref h)]) rfl ?_
  refine g_aload_n C d_Senses_learn_0 rfl 0 rfl ?_
  refine g_get C lay_Senses 0 rfl rfl 5 (by decide) m_87 rfl d_Senses_learn_1 ?_
  refine g_if_eqB (tgt := 8) C d_Senses_learn_4 (by decide) (fun b0 => ?_) (fun b0 => ?_)
  · skip
    refine g_aload_n C d_Senses_learn_8 rfl 0 rfl ?_
    refine g_aload_n C d_Senses_learn_9 rfl 1 rfl ?_
    refine g_iV (rest := [.ref g]) (wr := [(g, .inr (4, [.ref ga, .ref gb, .ref gc, .int (nI tc), .int (nI ev), .int (bI kn)])), (ga, .inl (E 0, 4096, .inl (aN TS))), (gb, .inl (E 0, 4096, .inl (aN M))), (gc, .inl (E 0, 924, .inl (aN P)))]) C (c_Web_everything l D E h t u n T U (by omega)) rd_Web_everything m_285 m_264 m_265 rfl rfl (Nat.le_of_ble_eq_true rfl) (Nat.le_of_ble_eq_true rfl) (Nat.le_of_ble_eq_true rfl) (Nat.le_of_ble_eq_true rfl) rfl rfl (Nat.le_of_ble_eq_true rfl) d_Senses_learn_10 [4, 5, 6] [0, 1, 2, 3] rfl (by decide) rfl (by decide) (by decide) (fun r10 _ (hr10 : r10 = nI (2 ^ n - 1)) => ?_)
    subst hr10
    refine g_cells (ws' := [(g, .inr (4, [.ref ga, .ref gb, .ref gc, .int (nI tc), .int (nI ev), .int (bI kn)])), (ga, .inl (E 0, 4096, .inl (aN TS))), (gb, .inl (E 0, 4096, .inl (aN M))), (gc, .inl (E 0, 924, .inl (aN P))), (h, .inr (6, [.ref t, .ref u, .int (nI n)])), (t, .inl (E 0, 12, .inl (aN T))), (u, .inl (E 0, 12, .inl (aN U)))]) [0, 1, 2, 3, 4, 5, 6] (by decide) rfl ?_
    refine g_put (ws' := [(g, .inr (4, [.ref ga, .ref gb, .ref gc, .int (nI tc), .int (nI (2 ^ n - 1)), .int (bI kn)])), (ga, .inl (E 0, 4096, .inl (aN TS))), (gb, .inl (E 0, 4096, .inl (aN M))), (gc, .inl (E 0, 924, .inl (aN P))), (h, .inr (6, [.ref t, .ref u, .int (nI n)])), (t, .inl (E 0, 12, .inl (aN T))), (u, .inl (E 0, 12, .inl (aN U)))]) C lay_Senses ty_Senses nm_Senses 0 rfl rfl 4 (by decide) m_86 rfl rfl rfl (Nat.le_of_ble_eq_true rfl) rfl d_Senses_learn_13 ?_
    refine g_aload_n C d_Senses_learn_16 rfl 0 rfl ?_
    refine g_aload_n C d_Senses_learn_17 rfl 1 rfl ?_
    refine g_vV (rest := []) (wr := []) C (c_Se_fillTargets l D E g ga gb gc TS M P tc (2 ^ n - 1) kn h t u n T U (by omega) hT) rd_Senses_fillTargets m_286 m_288 m_1 rfl rfl (Nat.le_of_ble_eq_true rfl) (Nat.le_of_ble_eq_true rfl) (Nat.le_of_ble_eq_true rfl) (Nat.le_of_ble_eq_true rfl) rfl rfl (Nat.le_of_ble_eq_true rfl) d_Senses_learn_18 [0, 1, 2, 3, 4, 5, 6] [] rfl (by decide) rfl (by decide) (by decide) (fun _ _ => ?_)
    refine g_cells (ws' := [(g, .inr (4, [.ref ga, .ref gb, .ref gc, .int (nI tc), .int (nI (2 ^ n - 1)), .int (bI kn)])), (ga, .inl (E 0, 4096, .inl (aN (ovw TS (fun x => tgU T x n) (2 ^ n))))), (gb, .inl (E 0, 4096, .inl (aN M))), (gc, .inl (E 0, 924, .inl (aN P))), (h, .inr (6, [.ref t, .ref u, .int (nI n)])), (t, .inl (E 0, 12, .inl (aN T))), (u, .inl (E 0, 12, .inl (aN U)))]) [0, 1, 2, 3, 4, 5, 6] (by decide) rfl ?_
    refine g_iconst (v := nI 0) C d_Senses_learn_21 (by decide) ?_
    refine g_istore_n (lv' := [(2, .int (nI 0)), (0, .ref g), (1, .ref h)]) C d_Senses_learn_22 rfl (by decide) rfl ?_
    have loop23 : ∀ (f : Nat) (i : Nat) (X : Nat → Nat), (i ≤ 2 ^ n - 1 + 1) → (X = ovw M (ownM (ovw TS (fun x => tgU T x n) (2 ^ n)) (2 ^ n - 1)) i) → 2 ^ n - 1 + 1 - i < f → GG p l e ({ frames := 4, cells := 0, slots := 0, locals := 86 } : Room) s m args below meth c (MQ below (va_Qv (fun _ : Unit => True) (BC D A (fun _ : Unit => [(g, .inr (4, [.ref ga, .ref gb, .ref gc, .int (nI (lnC kn T n TS M P tc)), .int (nI (lnEv kn n ev)), .int (bI true)])), (ga, .inl (E 0, 4096, .inl (aN (lnTS kn T n TS)))), (gb, .inl (E 0, 4096, .inl (aN (lnM kn T n TS M P)))), (gc, .inl (E 0, 924, .inl (aN (lnP kn T n TS M P)))), (h, .inr (6, [.ref t, .ref u, .int (nI n)])), (t, .inl (E 0, 12, .inl (aN T))), (u, .inl (E 0, 12, .inl (aN U)))])) A) args s (({ frames := 4, cells := 0, slots := 0, locals := 86 } : Room)).cells (({ frames := 4, cells := 0, slots := 0, locals := 86 } : Room)).slots A) D A 3 0 0 23 [(0, .ref g), (1, .ref h), (2, .int (nI i))] [] [(g, .inr (4, [.ref ga, .ref gb, .ref gc, .int (nI tc), .int (nI (2 ^ n - 1)), .int (bI kn)])), (ga, .inl (E 0, 4096, .inl (aN (ovw TS (fun x => tgU T x n) (2 ^ n))))), (gb, .inl (E 0, 4096, .inl (aN X))), (gc, .inl (E 0, 924, .inl (aN P))), (h, .inr (6, [.ref t, .ref u, .int (nI n)])), (t, .inl (E 0, 12, .inl (aN T))), (u, .inl (E 0, 12, .inl (aN U)))] := by
      intro f
      induction f with
      | zero => intro i X hi hX hf; exact absurd hf (Nat.not_lt_zero _)
      | succ f ih =>
        intro i X hi hX hf
        have ih23 := ih
        refine g_iload_n C d_Senses_learn_23 rfl 2 rfl ?_
        refine g_aload_n C d_Senses_learn_24 rfl 0 rfl ?_
        refine g_get C lay_Senses 0 rfl rfl 4 (by decide) m_86 rfl d_Senses_learn_25 ?_
        refine g_icmp_gtN (tgt := 55) C (by have := p12_le hn; omega) (ev_lt hn) d_Senses_learn_28 (by decide) (fun b1 => ?_) (fun b1 => ?_)
        · skip
          refine g_aload_n C d_Senses_learn_55 rfl 0 rfl ?_
          refine g_vV (rest := []) (wr := [(h, .inr (6, [.ref t, .ref u, .int (nI n)])), (t, .inl (E 0, 12, .inl (aN T))), (u, .inl (E 0, 12, .inl (aN U)))]) C (c_Se_markPreferred l D E g ga gb gc (ovw TS (fun x => tgU T x n) (2 ^ n)) X P tc (2 ^ n - 1) kn (by have := p12_le hn; omega)) rd_Senses_markPreferred m_311 m_313 m_5 rfl rfl (Nat.le_of_ble_eq_true rfl) (Nat.le_of_ble_eq_true rfl) (Nat.le_of_ble_eq_true rfl) (Nat.le_of_ble_eq_true rfl) rfl rfl (Nat.le_of_ble_eq_true rfl) d_Senses_learn_56 [0, 1, 2, 3] [4, 5, 6] rfl (by decide) rfl (by decide) (by decide) (fun _ _ => ?_)
          refine g_cells (ws' := [(g, .inr (4, [.ref ga, .ref gb, .ref gc, .int (nI ((tpS 16 2 X P (2 ^ n - 1) ((2 ^ n - 1) + 1)).2.2)), .int (nI (2 ^ n - 1)), .int (bI kn)])), (ga, .inl (E 0, 4096, .inl (aN (ovw TS (fun x => tgU T x n) (2 ^ n))))), (gb, .inl (E 0, 4096, .inl (aN ((tpS 16 2 X P (2 ^ n - 1) ((2 ^ n - 1) + 1)).1)))), (gc, .inl (E 0, 924, .inl (aN ((tpS 16 2 X P (2 ^ n - 1) ((2 ^ n - 1) + 1)).2.1)))), (h, .inr (6, [.ref t, .ref u, .int (nI n)])), (t, .inl (E 0, 12, .inl (aN T))), (u, .inl (E 0, 12, .inl (aN U)))]) [3, 4, 5, 6, 0, 1, 2] (by decide) rfl ?_
          refine g_aload_n C d_Senses_learn_59 rfl 0 rfl ?_
          refine g_vV (rest := []) (wr := [(h, .inr (6, [.ref t, .ref u, .int (nI n)])), (t, .inl (E 0, 12, .inl (aN T))), (u, .inl (E 0, 12, .inl (aN U)))]) C (c_Se_markRanges l D E g ga gb gc (ovw TS (fun x => tgU T x n) (2 ^ n)) ((tpS 16 2 X P (2 ^ n - 1) ((2 ^ n - 1) + 1)).1) ((tpS 16 2 X P (2 ^ n - 1) ((2 ^ n - 1) + 1)).2.1) ((tpS 16 2 X P (2 ^ n - 1) ((2 ^ n - 1) + 1)).2.2) (2 ^ n - 1) kn (by have := p12_le hn; omega) (ovw_b hTS (fun x => tgU_lt hT _ _))) rd_Senses_markRanges m_327 m_329 m_9 rfl rfl (Nat.le_of_ble_eq_true rfl) (Nat.le_of_ble_eq_true rfl) (Nat.le_of_ble_eq_true rfl) (Nat.le_of_ble_eq_true rfl) rfl rfl (Nat.le_of_ble_eq_true rfl) d_Senses_learn_60 [0, 1, 2, 3] [4, 5, 6] rfl (by decide) rfl (by decide) (by decide) (fun _ _ => ?_)
          refine g_cells (ws' := [(g, .inr (4, [.ref ga, .ref gb, .ref gc, .int (nI ((tpS 64 128 (rgS (ovw TS (fun x => tgU T x n) (2 ^ n)) ((tpS 16 2 X P (2 ^ n - 1) ((2 ^ n - 1) + 1)).1) ((2 ^ n - 1) + 1)) ((tpS 16 2 X P (2 ^ n - 1) ((2 ^ n - 1) + 1)).2.1) (2 ^ n - 1) ((2 ^ n - 1) + 1)).2.2)), .int (nI (2 ^ n - 1)), .int (bI kn)])), (ga, .inl (E 0, 4096, .inl (aN (ovw TS (fun x => tgU T x n) (2 ^ n))))), (gb, .inl (E 0, 4096, .inl (aN ((tpS 64 128 (rgS (ovw TS (fun x => tgU T x n) (2 ^ n)) ((tpS 16 2 X P (2 ^ n - 1) ((2 ^ n - 1) + 1)).1) ((2 ^ n - 1) + 1)) ((tpS 16 2 X P (2 ^ n - 1) ((2 ^ n - 1) + 1)).2.1) (2 ^ n - 1) ((2 ^ n - 1) + 1)).1)))), (gc, .inl (E 0, 924, .inl (aN ((tpS 64 128 (rgS (ovw TS (fun x => tgU T x n) (2 ^ n)) ((tpS 16 2 X P (2 ^ n - 1) ((2 ^ n - 1) + 1)).1) ((2 ^ n - 1) + 1)) ((tpS 16 2 X P (2 ^ n - 1) ((2 ^ n - 1) + 1)).2.1) (2 ^ n - 1) ((2 ^ n - 1) + 1)).2.1)))), (h, .inr (6, [.ref t, .ref u, .int (nI n)])), (t, .inl (E 0, 12, .inl (aN T))), (u, .inl (E 0, 12, .inl (aN U)))]) [3, 4, 5, 6, 0, 1, 2] (by decide) rfl ?_
          refine g_aload_n C d_Senses_learn_63 rfl 0 rfl ?_
          refine g_vV (rest := []) (wr := [(h, .inr (6, [.ref t, .ref u, .int (nI n)])), (t, .inl (E 0, 12, .inl (aN T))), (u, .inl (E 0, 12, .inl (aN U)))]) C (c_Se_markStage l D E g ga gb gc (ovw TS (fun x => tgU T x n) (2 ^ n)) ((tpS 64 128 (rgS (ovw TS (fun x => tgU T x n) (2 ^ n)) ((tpS 16 2 X P (2 ^ n - 1) ((2 ^ n - 1) + 1)).1) ((2 ^ n - 1) + 1)) ((tpS 16 2 X P (2 ^ n - 1) ((2 ^ n - 1) + 1)).2.1) (2 ^ n - 1) ((2 ^ n - 1) + 1)).1) ((tpS 64 128 (rgS (ovw TS (fun x => tgU T x n) (2 ^ n)) ((tpS 16 2 X P (2 ^ n - 1) ((2 ^ n - 1) + 1)).1) ((2 ^ n - 1) + 1)) ((tpS 16 2 X P (2 ^ n - 1) ((2 ^ n - 1) + 1)).2.1) (2 ^ n - 1) ((2 ^ n - 1) + 1)).2.1) ((tpS 64 128 (rgS (ovw TS (fun x => tgU T x n) (2 ^ n)) ((tpS 16 2 X P (2 ^ n - 1) ((2 ^ n - 1) + 1)).1) ((2 ^ n - 1) + 1)) ((tpS 16 2 X P (2 ^ n - 1) ((2 ^ n - 1) + 1)).2.1) (2 ^ n - 1) ((2 ^ n - 1) + 1)).2.2) (2 ^ n - 1) kn (by have := p12_le hn; omega) (ovw_b hTS (fun x => tgU_lt hT _ _))) rd_Senses_markStage m_331 m_333 m_10 rfl rfl (Nat.le_of_ble_eq_true rfl) (Nat.le_of_ble_eq_true rfl) (Nat.le_of_ble_eq_true rfl) (Nat.le_of_ble_eq_true rfl) rfl rfl (Nat.le_of_ble_eq_true rfl) d_Senses_learn_64 [0, 1, 2, 3] [4, 5, 6] rfl (by decide) rfl (by decide) (by decide) (fun _ _ => ?_)
          refine g_cells (ws' := [(g, .inr (4, [.ref ga, .ref gb, .ref gc, .int (nI ((tpS 64 128 (rgS (ovw TS (fun x => tgU T x n) (2 ^ n)) ((tpS 16 2 X P (2 ^ n - 1) ((2 ^ n - 1) + 1)).1) ((2 ^ n - 1) + 1)) ((tpS 16 2 X P (2 ^ n - 1) ((2 ^ n - 1) + 1)).2.1) (2 ^ n - 1) ((2 ^ n - 1) + 1)).2.2)), .int (nI (2 ^ n - 1)), .int (bI kn)])), (ga, .inl (E 0, 4096, .inl (aN (ovw TS (fun x => tgU T x n) (2 ^ n))))), (gb, .inl (E 0, 4096, .inl (aN (stS (ovw TS (fun x => tgU T x n) (2 ^ n)) ((tpS 64 128 (rgS (ovw TS (fun x => tgU T x n) (2 ^ n)) ((tpS 16 2 X P (2 ^ n - 1) ((2 ^ n - 1) + 1)).1) ((2 ^ n - 1) + 1)) ((tpS 16 2 X P (2 ^ n - 1) ((2 ^ n - 1) + 1)).2.1) (2 ^ n - 1) ((2 ^ n - 1) + 1)).1) ((2 ^ n - 1) + 1))))), (gc, .inl (E 0, 924, .inl (aN ((tpS 64 128 (rgS (ovw TS (fun x => tgU T x n) (2 ^ n)) ((tpS 16 2 X P (2 ^ n - 1) ((2 ^ n - 1) + 1)).1) ((2 ^ n - 1) + 1)) ((tpS 16 2 X P (2 ^ n - 1) ((2 ^ n - 1) + 1)).2.1) (2 ^ n - 1) ((2 ^ n - 1) + 1)).2.1)))), (h, .inr (6, [.ref t, .ref u, .int (nI n)])), (t, .inl (E 0, 12, .inl (aN T))), (u, .inl (E 0, 12, .inl (aN U)))]) [3, 4, 5, 6, 0, 1, 2] (by decide) rfl ?_
          refine g_aload_n C d_Senses_learn_67 rfl 0 rfl ?_
          refine g_iconst (v := nI 1) C d_Senses_learn_68 (by decide) ?_
          refine g_top (show nI 1 = bI true from rfl) ?_
          refine g_put (ws' := [(g, .inr (4, [.ref ga, .ref gb, .ref gc, .int (nI ((tpS 64 128 (rgS (ovw TS (fun x => tgU T x n) (2 ^ n)) ((tpS 16 2 X P (2 ^ n - 1) ((2 ^ n - 1) + 1)).1) ((2 ^ n - 1) + 1)) ((tpS 16 2 X P (2 ^ n - 1) ((2 ^ n - 1) + 1)).2.1) (2 ^ n - 1) ((2 ^ n - 1) + 1)).2.2)), .int (nI (2 ^ n - 1)), .int (bI true)])), (ga, .inl (E 0, 4096, .inl (aN (ovw TS (fun x => tgU T x n) (2 ^ n))))), (gb, .inl (E 0, 4096, .inl (aN (stS (ovw TS (fun x => tgU T x n) (2 ^ n)) ((tpS 64 128 (rgS (ovw TS (fun x => tgU T x n) (2 ^ n)) ((tpS 16 2 X P (2 ^ n - 1) ((2 ^ n - 1) + 1)).1) ((2 ^ n - 1) + 1)) ((tpS 16 2 X P (2 ^ n - 1) ((2 ^ n - 1) + 1)).2.1) (2 ^ n - 1) ((2 ^ n - 1) + 1)).1) ((2 ^ n - 1) + 1))))), (gc, .inl (E 0, 924, .inl (aN ((tpS 64 128 (rgS (ovw TS (fun x => tgU T x n) (2 ^ n)) ((tpS 16 2 X P (2 ^ n - 1) ((2 ^ n - 1) + 1)).1) ((2 ^ n - 1) + 1)) ((tpS 16 2 X P (2 ^ n - 1) ((2 ^ n - 1) + 1)).2.1) (2 ^ n - 1) ((2 ^ n - 1) + 1)).2.1)))), (h, .inr (6, [.ref t, .ref u, .int (nI n)])), (t, .inl (E 0, 12, .inl (aN T))), (u, .inl (E 0, 12, .inl (aN U)))]) C lay_Senses ty_Senses nm_Senses 0 rfl rfl 5 (by decide) m_87 rfl (bI_nar _) (bI_fit _) (Nat.le_of_ble_eq_true rfl) rfl d_Senses_learn_69 ?_
          exact g_vret C hrt hlk () (trivial) (by have hp := p12_le hn; have h1 := Nat.one_le_two_pow (n := n); rw [show i = 2 ^ n - 1 + 1 by omega] at hX; subst b0; rw [hX]; rfl) d_Senses_learn_72
        · skip
          refine g_iload_n C d_Senses_learn_31 rfl 2 rfl ?_
          refine g_sipush (v := nI 4096) C d_Senses_learn_32 (by decide) ?_
          refine g_icmp_geN (tgt := 55) C (by have := p12_le hn; omega) (by decide) d_Senses_learn_35 (by decide) (fun b2 => ?_) (fun b2 => ?_)
          · skip
            refine g_aload_n C d_Senses_learn_55 rfl 0 rfl ?_
            refine g_vV (rest := []) (wr := [(h, .inr (6, [.ref t, .ref u, .int (nI n)])), (t, .inl (E 0, 12, .inl (aN T))), (u, .inl (E 0, 12, .inl (aN U)))]) C (c_Se_markPreferred l D E g ga gb gc (ovw TS (fun x => tgU T x n) (2 ^ n)) X P tc (2 ^ n - 1) kn (by have := p12_le hn; omega)) rd_Senses_markPreferred m_311 m_313 m_5 rfl rfl (Nat.le_of_ble_eq_true rfl) (Nat.le_of_ble_eq_true rfl) (Nat.le_of_ble_eq_true rfl) (Nat.le_of_ble_eq_true rfl) rfl rfl (Nat.le_of_ble_eq_true rfl) d_Senses_learn_56 [0, 1, 2, 3] [4, 5, 6] rfl (by decide) rfl (by decide) (by decide) (fun _ _ => ?_)
            refine g_cells (ws' := [(g, .inr (4, [.ref ga, .ref gb, .ref gc, .int (nI ((tpS 16 2 X P (2 ^ n - 1) ((2 ^ n - 1) + 1)).2.2)), .int (nI (2 ^ n - 1)), .int (bI kn)])), (ga, .inl (E 0, 4096, .inl (aN (ovw TS (fun x => tgU T x n) (2 ^ n))))), (gb, .inl (E 0, 4096, .inl (aN ((tpS 16 2 X P (2 ^ n - 1) ((2 ^ n - 1) + 1)).1)))), (gc, .inl (E 0, 924, .inl (aN ((tpS 16 2 X P (2 ^ n - 1) ((2 ^ n - 1) + 1)).2.1)))), (h, .inr (6, [.ref t, .ref u, .int (nI n)])), (t, .inl (E 0, 12, .inl (aN T))), (u, .inl (E 0, 12, .inl (aN U)))]) [3, 4, 5, 6, 0, 1, 2] (by decide) rfl ?_
            refine g_aload_n C d_Senses_learn_59 rfl 0 rfl ?_
            refine g_vV (rest := []) (wr := [(h, .inr (6, [.ref t, .ref u, .int (nI n)])), (t, .inl (E 0, 12, .inl (aN T))), (u, .inl (E 0, 12, .inl (aN U)))]) C (c_Se_markRanges l D E g ga gb gc (ovw TS (fun x => tgU T x n) (2 ^ n)) ((tpS 16 2 X P (2 ^ n - 1) ((2 ^ n - 1) + 1)).1) ((tpS 16 2 X P (2 ^ n - 1) ((2 ^ n - 1) + 1)).2.1) ((tpS 16 2 X P (2 ^ n - 1) ((2 ^ n - 1) + 1)).2.2) (2 ^ n - 1) kn (by have := p12_le hn; omega) (ovw_b hTS (fun x => tgU_lt hT _ _))) rd_Senses_markRanges m_327 m_329 m_9 rfl rfl (Nat.le_of_ble_eq_true rfl) (Nat.le_of_ble_eq_true rfl) (Nat.le_of_ble_eq_true rfl) (Nat.le_of_ble_eq_true rfl) rfl rfl (Nat.le_of_ble_eq_true rfl) d_Senses_learn_60 [0, 1, 2, 3] [4, 5, 6] rfl (by decide) rfl (by decide) (by decide) (fun _ _ => ?_)
            refine g_cells (ws' := [(g, .inr (4, [.ref ga, .ref gb, .ref gc, .int (nI ((tpS 64 128 (rgS (ovw TS (fun x => tgU T x n) (2 ^ n)) ((tpS 16 2 X P (2 ^ n - 1) ((2 ^ n - 1) + 1)).1) ((2 ^ n - 1) + 1)) ((tpS 16 2 X P (2 ^ n - 1) ((2 ^ n - 1) + 1)).2.1) (2 ^ n - 1) ((2 ^ n - 1) + 1)).2.2)), .int (nI (2 ^ n - 1)), .int (bI kn)])), (ga, .inl (E 0, 4096, .inl (aN (ovw TS (fun x => tgU T x n) (2 ^ n))))), (gb, .inl (E 0, 4096, .inl (aN ((tpS 64 128 (rgS (ovw TS (fun x => tgU T x n) (2 ^ n)) ((tpS 16 2 X P (2 ^ n - 1) ((2 ^ n - 1) + 1)).1) ((2 ^ n - 1) + 1)) ((tpS 16 2 X P (2 ^ n - 1) ((2 ^ n - 1) + 1)).2.1) (2 ^ n - 1) ((2 ^ n - 1) + 1)).1)))), (gc, .inl (E 0, 924, .inl (aN ((tpS 64 128 (rgS (ovw TS (fun x => tgU T x n) (2 ^ n)) ((tpS 16 2 X P (2 ^ n - 1) ((2 ^ n - 1) + 1)).1) ((2 ^ n - 1) + 1)) ((tpS 16 2 X P (2 ^ n - 1) ((2 ^ n - 1) + 1)).2.1) (2 ^ n - 1) ((2 ^ n - 1) + 1)).2.1)))), (h, .inr (6, [.ref t, .ref u, .int (nI n)])), (t, .inl (E 0, 12, .inl (aN T))), (u, .inl (E 0, 12, .inl (aN U)))]) [3, 4, 5, 6, 0, 1, 2] (by decide) rfl ?_
            refine g_aload_n C d_Senses_learn_63 rfl 0 rfl ?_
            refine g_vV (rest := []) (wr := [(h, .inr (6, [.ref t, .ref u, .int (nI n)])), (t, .inl (E 0, 12, .inl (aN T))), (u, .inl (E 0, 12, .inl (aN U)))]) C (c_Se_markStage l D E g ga gb gc (ovw TS (fun x => tgU T x n) (2 ^ n)) ((tpS 64 128 (rgS (ovw TS (fun x => tgU T x n) (2 ^ n)) ((tpS 16 2 X P (2 ^ n - 1) ((2 ^ n - 1) + 1)).1) ((2 ^ n - 1) + 1)) ((tpS 16 2 X P (2 ^ n - 1) ((2 ^ n - 1) + 1)).2.1) (2 ^ n - 1) ((2 ^ n - 1) + 1)).1) ((tpS 64 128 (rgS (ovw TS (fun x => tgU T x n) (2 ^ n)) ((tpS 16 2 X P (2 ^ n - 1) ((2 ^ n - 1) + 1)).1) ((2 ^ n - 1) + 1)) ((tpS 16 2 X P (2 ^ n - 1) ((2 ^ n - 1) + 1)).2.1) (2 ^ n - 1) ((2 ^ n - 1) + 1)).2.1) ((tpS 64 128 (rgS (ovw TS (fun x => tgU T x n) (2 ^ n)) ((tpS 16 2 X P (2 ^ n - 1) ((2 ^ n - 1) + 1)).1) ((2 ^ n - 1) + 1)) ((tpS 16 2 X P (2 ^ n - 1) ((2 ^ n - 1) + 1)).2.1) (2 ^ n - 1) ((2 ^ n - 1) + 1)).2.2) (2 ^ n - 1) kn (by have := p12_le hn; omega) (ovw_b hTS (fun x => tgU_lt hT _ _))) rd_Senses_markStage m_331 m_333 m_10 rfl rfl (Nat.le_of_ble_eq_true rfl) (Nat.le_of_ble_eq_true rfl) (Nat.le_of_ble_eq_true rfl) (Nat.le_of_ble_eq_true rfl) rfl rfl (Nat.le_of_ble_eq_true rfl) d_Senses_learn_64 [0, 1, 2, 3] [4, 5, 6] rfl (by decide) rfl (by decide) (by decide) (fun _ _ => ?_)
            refine g_cells (ws' := [(g, .inr (4, [.ref ga, .ref gb, .ref gc, .int (nI ((tpS 64 128 (rgS (ovw TS (fun x => tgU T x n) (2 ^ n)) ((tpS 16 2 X P (2 ^ n - 1) ((2 ^ n - 1) + 1)).1) ((2 ^ n - 1) + 1)) ((tpS 16 2 X P (2 ^ n - 1) ((2 ^ n - 1) + 1)).2.1) (2 ^ n - 1) ((2 ^ n - 1) + 1)).2.2)), .int (nI (2 ^ n - 1)), .int (bI kn)])), (ga, .inl (E 0, 4096, .inl (aN (ovw TS (fun x => tgU T x n) (2 ^ n))))), (gb, .inl (E 0, 4096, .inl (aN (stS (ovw TS (fun x => tgU T x n) (2 ^ n)) ((tpS 64 128 (rgS (ovw TS (fun x => tgU T x n) (2 ^ n)) ((tpS 16 2 X P (2 ^ n - 1) ((2 ^ n - 1) + 1)).1) ((2 ^ n - 1) + 1)) ((tpS 16 2 X P (2 ^ n - 1) ((2 ^ n - 1) + 1)).2.1) (2 ^ n - 1) ((2 ^ n - 1) + 1)).1) ((2 ^ n - 1) + 1))))), (gc, .inl (E 0, 924, .inl (aN ((tpS 64 128 (rgS (ovw TS (fun x => tgU T x n) (2 ^ n)) ((tpS 16 2 X P (2 ^ n - 1) ((2 ^ n - 1) + 1)).1) ((2 ^ n - 1) + 1)) ((tpS 16 2 X P (2 ^ n - 1) ((2 ^ n - 1) + 1)).2.1) (2 ^ n - 1) ((2 ^ n - 1) + 1)).2.1)))), (h, .inr (6, [.ref t, .ref u, .int (nI n)])), (t, .inl (E 0, 12, .inl (aN T))), (u, .inl (E 0, 12, .inl (aN U)))]) [3, 4, 5, 6, 0, 1, 2] (by decide) rfl ?_
            refine g_aload_n C d_Senses_learn_67 rfl 0 rfl ?_
            refine g_iconst (v := nI 1) C d_Senses_learn_68 (by decide) ?_
            refine g_top (show nI 1 = bI true from rfl) ?_
            refine g_put (ws' := [(g, .inr (4, [.ref ga, .ref gb, .ref gc, .int (nI ((tpS 64 128 (rgS (ovw TS (fun x => tgU T x n) (2 ^ n)) ((tpS 16 2 X P (2 ^ n - 1) ((2 ^ n - 1) + 1)).1) ((2 ^ n - 1) + 1)) ((tpS 16 2 X P (2 ^ n - 1) ((2 ^ n - 1) + 1)).2.1) (2 ^ n - 1) ((2 ^ n - 1) + 1)).2.2)), .int (nI (2 ^ n - 1)), .int (bI true)])), (ga, .inl (E 0, 4096, .inl (aN (ovw TS (fun x => tgU T x n) (2 ^ n))))), (gb, .inl (E 0, 4096, .inl (aN (stS (ovw TS (fun x => tgU T x n) (2 ^ n)) ((tpS 64 128 (rgS (ovw TS (fun x => tgU T x n) (2 ^ n)) ((tpS 16 2 X P (2 ^ n - 1) ((2 ^ n - 1) + 1)).1) ((2 ^ n - 1) + 1)) ((tpS 16 2 X P (2 ^ n - 1) ((2 ^ n - 1) + 1)).2.1) (2 ^ n - 1) ((2 ^ n - 1) + 1)).1) ((2 ^ n - 1) + 1))))), (gc, .inl (E 0, 924, .inl (aN ((tpS 64 128 (rgS (ovw TS (fun x => tgU T x n) (2 ^ n)) ((tpS 16 2 X P (2 ^ n - 1) ((2 ^ n - 1) + 1)).1) ((2 ^ n - 1) + 1)) ((tpS 16 2 X P (2 ^ n - 1) ((2 ^ n - 1) + 1)).2.1) (2 ^ n - 1) ((2 ^ n - 1) + 1)).2.1)))), (h, .inr (6, [.ref t, .ref u, .int (nI n)])), (t, .inl (E 0, 12, .inl (aN T))), (u, .inl (E 0, 12, .inl (aN U)))]) C lay_Senses ty_Senses nm_Senses 0 rfl rfl 5 (by decide) m_87 rfl (bI_nar _) (bI_fit _) (Nat.le_of_ble_eq_true rfl) rfl d_Senses_learn_69 ?_
            exact g_vret C hrt hlk () (trivial) (by have hp := p12_le hn; have h1 := Nat.one_le_two_pow (n := n); rw [show i = 2 ^ n - 1 + 1 by omega] at hX; subst b0; rw [hX]; rfl) d_Senses_learn_72
          · skip
            refine g_aload_n C d_Senses_learn_38 rfl 0 rfl ?_
            refine g_get C lay_Senses 0 rfl rfl 1 (by decide) m_83 rfl d_Senses_learn_39 ?_
            refine g_iload_n C d_Senses_learn_42 rfl 2 rfl ?_
            refine g_aload_n C d_Senses_learn_43 rfl 0 rfl ?_
            refine g_iload_n C d_Senses_learn_44 rfl 2 rfl ?_
            refine g_iV (rest := [.int (nI i), .ref gb]) (wr := [(h, .inr (6, [.ref t, .ref u, .int (nI n)])), (t, .inl (E 0, 12, .inl (aN T))), (u, .inl (E 0, 12, .inl (aN U)))]) C (c_Se_ownMarks l D E g ga gb gc (ovw TS (fun x => tgU T x n) (2 ^ n)) X P tc (2 ^ n - 1) kn i (by have := p12_le hn; omega) (ovw_b hTS (fun x => tgU_lt hT _ _)) (by omega)) rd_Senses_ownMarks m_295 m_297 m_2 rfl rfl (Nat.le_of_ble_eq_true rfl) (Nat.le_of_ble_eq_true rfl) (Nat.le_of_ble_eq_true rfl) (Nat.le_of_ble_eq_true rfl) rfl rfl (Nat.le_of_ble_eq_true rfl) d_Senses_learn_45 [0, 1, 2, 3] [4, 5, 6] rfl (by decide) rfl (by decide) (by decide) (fun r45 _ (hr45 : r45 = nI (ownM (ovw TS (fun x => tgU T x n) (2 ^ n)) (2 ^ n - 1) i)) => ?_)
            subst hr45
            refine g_cells (ws' := [(g, .inr (4, [.ref ga, .ref gb, .ref gc, .int (nI tc), .int (nI (2 ^ n - 1)), .int (bI kn)])), (ga, .inl (E 0, 4096, .inl (aN (ovw TS (fun x => tgU T x n) (2 ^ n))))), (gb, .inl (E 0, 4096, .inl (aN X))), (gc, .inl (E 0, 924, .inl (aN P))), (h, .inr (6, [.ref t, .ref u, .int (nI n)])), (t, .inl (E 0, 12, .inl (aN T))), (u, .inl (E 0, 12, .inl (aN U)))]) [3, 4, 5, 6, 0, 1, 2] (by decide) rfl ?_
            refine g_iastN (f' := aN (va_up X i (ownM (ovw TS (fun x => tgU T x n) (2 ^ n)) (2 ^ n - 1) i))) (ws' := [(g, .inr (4, [.ref ga, .ref gb, .ref gc, .int (nI tc), .int (nI (2 ^ n - 1)), .int (bI kn)])), (ga, .inl (E 0, 4096, .inl (aN (ovw TS (fun x => tgU T x n) (2 ^ n))))), (gb, .inl (E 0, 4096, .inl (aN (va_up X i (ownM (ovw TS (fun x => tgU T x n) (2 ^ n)) (2 ^ n - 1) i))))), (gc, .inl (E 0, 924, .inl (aN P))), (h, .inr (6, [.ref t, .ref u, .int (nI n)])), (t, .inl (E 0, 12, .inl (aN T))), (u, .inl (E 0, 12, .inl (aN U)))]) C 2 rfl (by omega) (by decide) (aN_up _ _ _) rfl d_Senses_learn_48 ?_
            refine g_iinc (lv' := [(2, .int (nI (i + 1))), (0, .ref g), (1, .ref h)]) C d_Senses_learn_49 2 rfl (nI_1 _) (by decide) rfl ?_
            refine g_goto (tgt := 23) C d_Senses_learn_52 (by decide) ?_
            refine g_perm [1, 2, 0] rfl ?_
            exact ih23 (i + 1) (va_up X i (ownM (ovw TS (fun x => tgU T x n) (2 ^ n)) (2 ^ n - 1) i)) (by omega) (by rw [hX, ovw_s]) (by omega)
    refine g_perm [1, 2, 0] rfl ?_
    exact loop23 (2 ^ n - 1 + 1 - 0 + 1) 0 M (Nat.zero_le _) ((ovw_0 _ _).symm) (Nat.lt_succ_self _)
  · skip
    exact g_vret C hrt hlk () (trivial) (by subst b0; rfl) d_Senses_learn_7
