set_option maxHeartbeats 4000000 in
set_option maxRecDepth 100000 in
theorem c_Li_begin (l : Launch) (D : va_G) (E : Nat → ClassId) (li : Nat) (op : Bool) (ki : Nat) (pl : Nat) (td : Option Nat) (k : Nat)  : MV l D E y_Listing_begin (.code y_Listing_begin k_Listing_begin 2 none) ({ frames := 0, cells := 0, slots := 0, locals := 0 } : Room) [.ref li, .int (nI k)] [(li, .inr (2, [.int (bI op), .int (nI ki), .int (nI pl), .int (oI td)]))] (fun _ : Unit => True) (fun _ : Unit => [(li, .inr (2, [.int (bI true), .int (nI k), .int (nI 0), .int (oI none)]))]) := by
  refine MV.of (by decide) (Nat.le_of_ble_eq_true rfl) ?_
  intro p e s m args below meth c A C hrt hlk hnm
  refine g_lv (lv' := [(0, .ref li), (1, .int (nI k))]) rfl ?_
  refine g_aload_n C d_Listing_begin_0 rfl 0 rfl ?_
  refine g_iconst (v := nI 1) C d_Listing_begin_1 (by decide) ?_
  refine g_top (show nI 1 = bI true from rfl) ?_
  refine g_put (ws' := [(li, .inr (2, [.int (bI true), .int (nI ki), .int (nI pl), .int (oI td)]))]) C lay_Listing ty_Listing nm_Listing 0 rfl rfl 0 (by decide) m_107 rfl (bI_nar _) (bI_fit _) (Nat.le_of_ble_eq_true rfl) rfl d_Listing_begin_2 ?_
  refine g_aload_n C d_Listing_begin_5 rfl 0 rfl ?_
  refine g_iload_n C d_Listing_begin_6 rfl 1 rfl ?_
  refine g_put (ws' := [(li, .inr (2, [.int (bI true), .int (nI k), .int (nI pl), .int (oI td)]))]) C lay_Listing ty_Listing nm_Listing 0 rfl rfl 1 (by decide) m_108 rfl rfl rfl (Nat.le_of_ble_eq_true rfl) rfl d_Listing_begin_7 ?_
  refine g_aload_n C d_Listing_begin_10 rfl 0 rfl ?_
  refine g_iconst (v := nI 0) C d_Listing_begin_11 (by decide) ?_
  refine g_put (ws' := [(li, .inr (2, [.int (bI true), .int (nI k), .int (nI 0), .int (oI td)]))]) C lay_Listing ty_Listing nm_Listing 0 rfl rfl 2 (by decide) m_109 rfl rfl rfl (Nat.le_of_ble_eq_true rfl) rfl d_Listing_begin_12 ?_
  refine g_aload_n C d_Listing_begin_15 rfl 0 rfl ?_
  refine g_iconst (v := (-1)) C d_Listing_begin_16 (by decide) ?_
  refine g_put (ws' := [(li, .inr (2, [.int (bI true), .int (nI k), .int (nI 0), .int (-1)]))]) C lay_Listing ty_Listing nm_Listing 0 rfl rfl 3 (by decide) m_110 rfl rfl rfl (Nat.le_of_ble_eq_true rfl) rfl d_Listing_begin_17 ?_
  exact g_vret C hrt hlk () (trivial) rfl d_Listing_begin_20

set_option maxHeartbeats 4000000 in
set_option maxRecDepth 100000 in
theorem c_Li_end (l : Launch) (D : va_G) (E : Nat → ClassId) (li : Nat) (op : Bool) (ki : Nat) (pl : Nat) (td : Option Nat)  : MV l D E y_Listing_end (.code y_Listing_end k_Listing_end 1 none) ({ frames := 0, cells := 0, slots := 0, locals := 0 } : Room) [.ref li] [(li, .inr (2, [.int (bI op), .int (nI ki), .int (nI pl), .int (oI td)]))] (fun _ : Unit => True) (fun _ : Unit => [(li, .inr (2, [.int (bI false), .int (nI ki), .int (nI pl), .int (oI none)]))]) := by
  refine MV.of (by decide) (Nat.le_of_ble_eq_true rfl) ?_
  intro p e s m args below meth c A C hrt hlk hnm
  refine g_lv (lv' := [(0, .ref li)]) rfl ?_
  refine g_aload_n C d_Listing_end_0 rfl 0 rfl ?_
  refine g_iconst (v := nI 0) C d_Listing_end_1 (by decide) ?_
  refine g_top (show nI 0 = bI false from rfl) ?_
  refine g_put (ws' := [(li, .inr (2, [.int (bI false), .int (nI ki), .int (nI pl), .int (oI td)]))]) C lay_Listing ty_Listing nm_Listing 0 rfl rfl 0 (by decide) m_107 rfl (bI_nar _) (bI_fit _) (Nat.le_of_ble_eq_true rfl) rfl d_Listing_end_2 ?_
  refine g_aload_n C d_Listing_end_5 rfl 0 rfl ?_
  refine g_iconst (v := (-1)) C d_Listing_end_6 (by decide) ?_
  refine g_put (ws' := [(li, .inr (2, [.int (bI false), .int (nI ki), .int (nI pl), .int (-1)]))]) C lay_Listing ty_Listing nm_Listing 0 rfl rfl 3 (by decide) m_110 rfl rfl rfl (Nat.le_of_ble_eq_true rfl) rfl d_Listing_end_7 ?_
  exact g_vret C hrt hlk () (trivial) rfl d_Listing_end_10

set_option maxHeartbeats 4000000 in
set_option maxRecDepth 100000 in
theorem c_Li_isOpen (l : Launch) (D : va_G) (E : Nat → ClassId) (li : Nat) (op : Bool) (ki : Nat) (pl : Nat) (td : Option Nat)  : MI l D E y_Listing_isOpen (.code y_Listing_isOpen k_Listing_isOpen 1 (some .boolean)) ({ frames := 0, cells := 0, slots := 0, locals := 0 } : Room) [.ref li] [(li, .inr (2, [.int (bI op), .int (nI ki), .int (nI pl), .int (oI td)]))] (fun (r : Int32) (_ : Unit) => r = bI op) (fun _ : Unit => [(li, .inr (2, [.int (bI op), .int (nI ki), .int (nI pl), .int (oI td)]))]) := by
  refine MI.of (by decide) (Nat.le_of_ble_eq_true rfl) ?_
  intro p e s m args below meth c A C hrt hlk hnm
  refine g_lv (lv' := [(0, .ref li)]) rfl ?_
  refine g_aload_n C d_Listing_isOpen_0 rfl 0 rfl ?_
  refine g_get C lay_Listing 0 rfl rfl 0 (by decide) m_107 rfl d_Listing_isOpen_1 ?_
  exact g_zret C hrt hlk () (rfl) rfl d_Listing_isOpen_4

set_option maxHeartbeats 4000000 in
set_option maxRecDepth 100000 in
theorem c_Li_told (l : Launch) (D : va_G) (E : Nat → ClassId) (li : Nat) (op : Bool) (ki : Nat) (pl : Nat) (td : Option Nat)  : MI l D E y_Listing_told (.code y_Listing_told k_Listing_told 1 (some .int)) ({ frames := 0, cells := 0, slots := 0, locals := 0 } : Room) [.ref li] [(li, .inr (2, [.int (bI op), .int (nI ki), .int (nI pl), .int (oI td)]))] (fun (r : Int32) (_ : Unit) => r = oI td) (fun _ : Unit => [(li, .inr (2, [.int (bI op), .int (nI ki), .int (nI pl), .int (oI td)]))]) := by
  refine MI.of (by decide) (Nat.le_of_ble_eq_true rfl) ?_
  intro p e s m args below meth c A C hrt hlk hnm
  refine g_lv (lv' := [(0, .ref li)]) rfl ?_
  refine g_aload_n C d_Listing_told_0 rfl 0 rfl ?_
  refine g_get C lay_Listing 0 rfl rfl 3 (by decide) m_110 rfl d_Listing_told_1 ?_
  exact g_iret C hrt hlk () (rfl) rfl d_Listing_told_4

set_option maxHeartbeats 4000000 in
set_option maxRecDepth 100000 in
theorem c_Li_tell (l : Launch) (D : va_G) (E : Nat → ClassId) (li : Nat) (op : Bool) (ki : Nat) (pl : Nat) (td : Option Nat) (g : Nat) (ga : Nat) (gb : Nat) (gc : Nat) (TS : Nat → Nat) (M : Nat → Nat) (P : Nat → Nat) (tc : Nat) (ev : Nat) (kn : Bool) (hki : ki < 31) (hev : ev < 4096) (hpl : pl ≤ 4096) : MI l D E y_Listing_tell (.code y_Listing_tell k_Listing_tell 3 (some .int)) ({ frames := 3, cells := 0, slots := 0, locals := 64 } : Room) [.ref li, .ref g] [(li, .inr (2, [.int (bI op), .int (nI ki), .int (nI pl), .int (oI td)])), (g, .inr (4, [.ref ga, .ref gb, .ref gc, .int (nI tc), .int (nI ev), .int (bI kn)])), (ga, .inl (E 0, 4096, .inl (aN TS))), (gb, .inl (E 0, 4096, .inl (aN M))), (gc, .inl (E 0, 924, .inl (aN P)))] (fun (r : Int32) (_ : Unit) => r = oI (fstM M ki (ev + 1 - pl) pl)) (fun _ : Unit => [(li, .inr (2, [.int (bI (op && (fstM M ki (ev + 1 - pl) pl).isSome)), .int (nI ki), .int (nI (oP (fstM M ki (ev + 1 - pl) pl) pl)), .int (oI (fstM M ki (ev + 1 - pl) pl))])), (g, .inr (4, [.ref ga, .ref gb, .ref gc, .int (nI tc), .int (nI ev), .int (bI kn)])), (ga, .inl (E 0, 4096, .inl (aN TS))), (gb, .inl (E 0, 4096, .inl (aN M))), (gc, .inl (E 0, 924, .inl (aN P)))]) := by
  refine MI.of (by decide) (Nat.le_of_ble_eq_true rfl) ?_
  intro p e s m args below meth c A C hrt hlk hnm
  refine g_lv (lv' := [(0, .ref li), (1, .ref g)]) rfl ?_
  refine g_aload_n C d_Listing_tell_0 rfl 0 rfl ?_
  refine g_get C lay_Listing 0 rfl rfl 2 (by decide) m_109 rfl d_Listing_tell_1 ?_
  refine g_istore_n (lv' := [(2, .int (nI pl)), (0, .ref li), (1, .ref g)]) C d_Listing_tell_4 rfl (by decide) rfl ?_
  have loop5 : ∀ (f : Nat) (i : Nat), (i ≤ 4096) → (fstM M ki (ev + 1 - i) i = fstM M ki (ev + 1 - pl) pl) → 4097 - i < f → GG p l e ({ frames := 3, cells := 0, slots := 0, locals := 64 } : Room) s m args below meth c (MQ below (va_Qi (fun (r : Int32) (_ : Unit) => r = oI (fstM M ki (ev + 1 - pl) pl)) (BC D A (fun _ : Unit => [(li, .inr (2, [.int (bI (op && (fstM M ki (ev + 1 - pl) pl).isSome)), .int (nI ki), .int (nI (oP (fstM M ki (ev + 1 - pl) pl) pl)), .int (oI (fstM M ki (ev + 1 - pl) pl))])), (g, .inr (4, [.ref ga, .ref gb, .ref gc, .int (nI tc), .int (nI ev), .int (bI kn)])), (ga, .inl (E 0, 4096, .inl (aN TS))), (gb, .inl (E 0, 4096, .inl (aN M))), (gc, .inl (E 0, 924, .inl (aN P)))])) A) args s (({ frames := 3, cells := 0, slots := 0, locals := 64 } : Room)).cells (({ frames := 3, cells := 0, slots := 0, locals := 64 } : Room)).slots A) D A 3 0 0 5 [(0, .ref li), (1, .ref g), (2, .int (nI i))] [] [(li, .inr (2, [.int (bI op), .int (nI ki), .int (nI pl), .int (oI td)])), (g, .inr (4, [.ref ga, .ref gb, .ref gc, .int (nI tc), .int (nI ev), .int (bI kn)])), (ga, .inl (E 0, 4096, .inl (aN TS))), (gb, .inl (E 0, 4096, .inl (aN M))), (gc, .inl (E 0, 924, .inl (aN P)))] := by
    intro f
    induction f with
    | zero => intro i hi hF hf; exact absurd hf (Nat.not_lt_zero _)
    | succ f ih =>
      intro i hi hF hf
      have ih5 := ih
      refine g_iload_n C d_Listing_tell_5 rfl 2 rfl ?_
      refine g_aload_n C d_Listing_tell_6 rfl 1 rfl ?_
      refine g_iV (rest := [.int (nI i)]) (wr := [(li, .inr (2, [.int (bI op), .int (nI ki), .int (nI pl), .int (oI td)]))]) C (c_Se_everything l D E g ga gb gc TS M P tc ev kn ) rd_Senses_everything m_558 m_559 m_560 rfl rfl (Nat.le_of_ble_eq_true rfl) (Nat.le_of_ble_eq_true rfl) (Nat.le_of_ble_eq_true rfl) (Nat.le_of_ble_eq_true rfl) rfl rfl (Nat.le_of_ble_eq_true rfl) d_Listing_tell_7 [1, 2, 3, 4] [0] rfl (by decide) rfl (by decide) (by decide) (fun r7 _ (hr7 : r7 = nI ev) => ?_)
      subst hr7
      refine g_cells (ws' := [(li, .inr (2, [.int (bI op), .int (nI ki), .int (nI pl), .int (oI td)])), (g, .inr (4, [.ref ga, .ref gb, .ref gc, .int (nI tc), .int (nI ev), .int (bI kn)])), (ga, .inl (E 0, 4096, .inl (aN TS))), (gb, .inl (E 0, 4096, .inl (aN M))), (gc, .inl (E 0, 924, .inl (aN P)))]) [0, 1, 2, 3, 4] (by decide) rfl ?_
      refine g_icmp_gtN (tgt := 45) C (by omega) (by omega) d_Listing_tell_10 (by decide) (fun b0 => ?_) (fun b0 => ?_)
      · skip
        refine g_aload_n C d_Listing_tell_45 rfl 0 rfl ?_
        refine g_vV (rest := []) (wr := [(g, .inr (4, [.ref ga, .ref gb, .ref gc, .int (nI tc), .int (nI ev), .int (bI kn)])), (ga, .inl (E 0, 4096, .inl (aN TS))), (gb, .inl (E 0, 4096, .inl (aN M))), (gc, .inl (E 0, 924, .inl (aN P)))]) C (c_Li_end l D E li op ki pl td ) rd_Listing_end m_563 m_208 m_209 rfl rfl (Nat.le_of_ble_eq_true rfl) (Nat.le_of_ble_eq_true rfl) (Nat.le_of_ble_eq_true rfl) (Nat.le_of_ble_eq_true rfl) rfl rfl (Nat.le_of_ble_eq_true rfl) d_Listing_tell_46 [0] [1, 2, 3, 4] rfl (by decide) rfl (by decide) (by decide) (fun _ _ => ?_)
        refine g_cells (ws' := [(li, .inr (2, [.int (bI false), .int (nI ki), .int (nI pl), .int (oI none)])), (g, .inr (4, [.ref ga, .ref gb, .ref gc, .int (nI tc), .int (nI ev), .int (bI kn)])), (ga, .inl (E 0, 4096, .inl (aN TS))), (gb, .inl (E 0, 4096, .inl (aN M))), (gc, .inl (E 0, 924, .inl (aN P)))]) [4, 0, 1, 2, 3] (by decide) rfl ?_
        refine g_iconst (v := (-1)) C d_Listing_tell_49 (by decide) ?_
        exact g_iret C hrt hlk () ((by rw [fst_e hF b0]; rfl)) (by rw [fst_e hF b0]; simp only [Option.isSome, Bool.and_false]; rfl) d_Listing_tell_50
      · skip
        refine g_aload_n C d_Listing_tell_13 rfl 1 rfl ?_
        refine g_aload_n C d_Listing_tell_14 rfl 0 rfl ?_
        refine g_get C lay_Listing 0 rfl rfl 1 (by decide) m_108 rfl d_Listing_tell_15 ?_
        refine g_iload_n C d_Listing_tell_18 rfl 2 rfl ?_
        refine g_iV (rest := []) (wr := [(li, .inr (2, [.int (bI op), .int (nI ki), .int (nI pl), .int (oI td)]))]) C (c_Se_isOf l D E g ga gb gc TS M P tc ev kn ki i hki (by omega)) rd_Senses_isOf m_562 m_336 m_337 rfl rfl (Nat.le_of_ble_eq_true rfl) (Nat.le_of_ble_eq_true rfl) (Nat.le_of_ble_eq_true rfl) (Nat.le_of_ble_eq_true rfl) rfl rfl (Nat.le_of_ble_eq_true rfl) d_Listing_tell_19 [1, 2, 3, 4] [0] rfl (by decide) rfl (by decide) (by decide) (fun r19 _ (hr19 : r19 = bI ((M i).testBit ki)) => ?_)
        subst hr19
        refine g_cells (ws' := [(li, .inr (2, [.int (bI op), .int (nI ki), .int (nI pl), .int (oI td)])), (g, .inr (4, [.ref ga, .ref gb, .ref gc, .int (nI tc), .int (nI ev), .int (bI kn)])), (ga, .inl (E 0, 4096, .inl (aN TS))), (gb, .inl (E 0, 4096, .inl (aN M))), (gc, .inl (E 0, 924, .inl (aN P)))]) [0, 1, 2, 3, 4] (by decide) rfl ?_
        refine g_if_eqB (tgt := 39) C d_Listing_tell_22 (by decide) (fun b1 => ?_) (fun b1 => ?_)
        · skip
          refine g_iinc (lv' := [(2, .int (nI (i + 1))), (0, .ref li), (1, .ref g)]) C d_Listing_tell_39 2 rfl (nI_1 _) (by decide) rfl ?_
          refine g_goto (tgt := 5) C d_Listing_tell_42 (by decide) ?_
          refine g_perm [1, 2, 0] rfl ?_
          exact ih5 (i + 1) (by omega) (fst_n hF b0 b1) (by omega)
        · skip
          refine g_aload_n C d_Listing_tell_25 rfl 0 rfl ?_
          refine g_iload_n C d_Listing_tell_26 rfl 2 rfl ?_
          refine g_iconst (v := nI 1) C d_Listing_tell_27 (by decide) ?_
          refine g_iaddN C d_Listing_tell_28 ?_
          refine g_put (ws' := [(li, .inr (2, [.int (bI op), .int (nI ki), .int (nI (i + 1)), .int (oI td)])), (g, .inr (4, [.ref ga, .ref gb, .ref gc, .int (nI tc), .int (nI ev), .int (bI kn)])), (ga, .inl (E 0, 4096, .inl (aN TS))), (gb, .inl (E 0, 4096, .inl (aN M))), (gc, .inl (E 0, 924, .inl (aN P)))]) C lay_Listing ty_Listing nm_Listing 0 rfl rfl 2 (by decide) m_109 rfl rfl rfl (Nat.le_of_ble_eq_true rfl) rfl d_Listing_tell_29 ?_
          refine g_aload_n C d_Listing_tell_32 rfl 0 rfl ?_
          refine g_iload_n C d_Listing_tell_33 rfl 2 rfl ?_
          refine g_put (ws' := [(li, .inr (2, [.int (bI op), .int (nI ki), .int (nI (i + 1)), .int (nI i)])), (g, .inr (4, [.ref ga, .ref gb, .ref gc, .int (nI tc), .int (nI ev), .int (bI kn)])), (ga, .inl (E 0, 4096, .inl (aN TS))), (gb, .inl (E 0, 4096, .inl (aN M))), (gc, .inl (E 0, 924, .inl (aN P)))]) C lay_Listing ty_Listing nm_Listing 0 rfl rfl 3 (by decide) m_110 rfl rfl rfl (Nat.le_of_ble_eq_true rfl) rfl d_Listing_tell_34 ?_
          refine g_iload_n C d_Listing_tell_37 rfl 2 rfl ?_
          exact g_iret C hrt hlk () ((by rw [fst_y hF b0 b1]; rfl)) (by rw [fst_y hF b0 b1]; simp only [Option.isSome, Bool.and_true]; rfl) d_Listing_tell_38
  refine g_perm [1, 2, 0] rfl ?_
  exact loop5 (4097 - pl + 1) pl (hpl) (rfl) (Nat.lt_succ_self _)

set_option maxHeartbeats 4000000 in
set_option maxRecDepth 100000 in
theorem c_Gr_all (l : Launch) (D : va_G) (E : Nat → ClassId) (q : Nat) (qa : Nat) (R : Nat → Nat) (al : Nat)  : MI l D E y_Grounds_all (.code y_Grounds_all k_Grounds_all 1 (some .int)) ({ frames := 0, cells := 0, slots := 0, locals := 0 } : Room) [.ref q] [(q, .inr (1, [.ref qa, .int (nI al)])), (qa, .inl (E 0, 12, .inl (aN R)))] (fun (r : Int32) (_ : Unit) => r = nI al) (fun _ : Unit => [(q, .inr (1, [.ref qa, .int (nI al)])), (qa, .inl (E 0, 12, .inl (aN R)))]) := by
  refine MI.of (by decide) (Nat.le_of_ble_eq_true rfl) ?_
  intro p e s m args below meth c A C hrt hlk hnm
  refine g_lv (lv' := [(0, .ref q)]) rfl ?_
  refine g_aload_n C d_Grounds_all_0 rfl 0 rfl ?_
  refine g_get C lay_Grounds 0 rfl rfl 1 (by decide) m_127 rfl d_Grounds_all_1 ?_
  exact g_iret C hrt hlk () (rfl) rfl d_Grounds_all_4

set_option maxHeartbeats 4000000 in
set_option maxRecDepth 100000 in
theorem c_Gr_roundOf (l : Launch) (D : va_G) (E : Nat → ClassId) (q : Nat) (qa : Nat) (R : Nat → Nat) (al : Nat) (i : Nat) (hi : i < 12) : MI l D E y_Grounds_roundOf (.code y_Grounds_roundOf k_Grounds_roundOf 2 (some .int)) ({ frames := 0, cells := 0, slots := 0, locals := 0 } : Room) [.ref q, .int (nI i)] [(q, .inr (1, [.ref qa, .int (nI al)])), (qa, .inl (E 0, 12, .inl (aN R)))] (fun (r : Int32) (_ : Unit) => r = nI (R i)) (fun _ : Unit => [(q, .inr (1, [.ref qa, .int (nI al)])), (qa, .inl (E 0, 12, .inl (aN R)))]) := by
  refine MI.of (by decide) (Nat.le_of_ble_eq_true rfl) ?_
  intro p e s m args below meth c A C hrt hlk hnm
  refine g_lv (lv' := [(0, .ref q), (1, .int (nI i))]) rfl ?_
  refine g_iload_n C d_Grounds_roundOf_0 rfl 1 rfl ?_
  refine g_if_ltN (tgt := 19) C (by omega) d_Grounds_roundOf_1 (by decide) ?_
  refine g_iload_n C d_Grounds_roundOf_4 rfl 1 rfl ?_
  refine g_bipush (v := nI 12) C d_Grounds_roundOf_5 (by decide) ?_
  refine g_icmp_geN (tgt := 19) C (by omega) (by decide) d_Grounds_roundOf_7 (by decide) (fun b1 => ?_) (fun b1 => ?_)
  · skip
    exact absurd b1 (by omega)
  · skip
    refine g_aload_n C d_Grounds_roundOf_10 rfl 0 rfl ?_
    refine g_get C lay_Grounds 0 rfl rfl 0 (by decide) m_126 rfl d_Grounds_roundOf_11 ?_
    refine g_iload_n C d_Grounds_roundOf_14 rfl 1 rfl ?_
    refine g_ialdN C 1 rfl (by omega) (by decide) d_Grounds_roundOf_15 ?_
    refine g_top (show (aN R) i = nI (R i) from rfl) ?_
    refine g_goto (tgt := 20) C d_Grounds_roundOf_16 (by decide) ?_
    exact g_iret C hrt hlk () (rfl) rfl d_Grounds_roundOf_20

set_option maxHeartbeats 4000000 in
set_option maxRecDepth 100000 in
theorem c_Gr_noteRound (l : Launch) (D : va_G) (E : Nat → ClassId) (q : Nat) (qa : Nat) (R : Nat → Nat) (al : Nat) (k : Nat) (r : Nat) (hk : k < 2 ^ 31) : MV l D E y_Grounds_noteRound (.code y_Grounds_noteRound k_Grounds_noteRound 4 none) ({ frames := 1, cells := 0, slots := 0, locals := 21 } : Room) [.ref q, .int (nI k), .int (nI r)] [(q, .inr (1, [.ref qa, .int (nI al)])), (qa, .inl (E 0, 12, .inl (aN R)))] (fun _ : Unit => True) (fun _ : Unit => [(q, .inr (1, [.ref qa, .int (nI al)])), (qa, .inl (E 0, 12, .inl (aN (nrU R k r 12))))]) := by
  refine MV.of (by decide) (Nat.le_of_ble_eq_true rfl) ?_
  intro p e s m args below meth c A C hrt hlk hnm
  refine g_lv (lv' := [(0, .ref q), (1, .int (nI k)), (2, .int (nI r))]) rfl ?_
  refine g_iconst (v := nI 0) C d_Grounds_noteRound_0 (by decide) ?_
  refine g_istore_n (lv' := [(3, .int (nI 0)), (0, .ref q), (1, .int (nI k)), (2, .int (nI r))]) C d_Grounds_noteRound_1 rfl (by decide) rfl ?_
  have loop2 : ∀ (f : Nat) (i : Nat) (V : Nat → Nat), (i ≤ 12) → (V = nrU R k r i) → 12 - i < f → GG p l e ({ frames := 1, cells := 0, slots := 0, locals := 21 } : Room) s m args below meth c (MQ below (va_Qv (fun _ : Unit => True) (BC D A (fun _ : Unit => [(q, .inr (1, [.ref qa, .int (nI al)])), (qa, .inl (E 0, 12, .inl (aN (nrU R k r 12))))])) A) args s (({ frames := 1, cells := 0, slots := 0, locals := 21 } : Room)).cells (({ frames := 1, cells := 0, slots := 0, locals := 21 } : Room)).slots A) D A 4 0 0 2 [(0, .ref q), (1, .int (nI k)), (2, .int (nI r)), (3, .int (nI i))] [] [(q, .inr (1, [.ref qa, .int (nI al)])), (qa, .inl (E 0, 12, .inl (aN V)))] := by
    intro f
    induction f with
    | zero => intro i V hi hV hf; exact absurd hf (Nat.not_lt_zero _)
    | succ f ih =>
      intro i V hi hV hf
      have ih2 := ih
      refine g_iload_n C d_Grounds_noteRound_2 rfl 3 rfl ?_
      refine g_bipush (v := nI 12) C d_Grounds_noteRound_3 (by decide) ?_
      refine g_icmp_geN (tgt := 29) C (by omega) (by decide) d_Grounds_noteRound_5 (by decide) (fun b0 => ?_) (fun b0 => ?_)
      · skip
        exact g_vret C hrt hlk () (trivial) (by rw [hV, show i = 12 by omega]) d_Grounds_noteRound_29
      · skip
        refine g_iload_n C d_Grounds_noteRound_8 rfl 3 rfl ?_
        refine g_iload_n C d_Grounds_noteRound_9 rfl 1 rfl ?_
        refine g_iSN (rest := []) (wr := [(q, .inr (1, [.ref qa, .int (nI al)])), (qa, .inl (E 0, 12, .inl (aN V)))]) C (c_isIn l D E i k (by omega) hk) rd_AB_isIn m_365 m_229 (Nat.le_of_ble_eq_true rfl) (Nat.le_of_ble_eq_true rfl) (Nat.le_of_ble_eq_true rfl) (Nat.le_of_ble_eq_true rfl) rfl rfl (Nat.le_of_ble_eq_true rfl) d_Grounds_noteRound_10 [] [0, 1] rfl (by decide) rfl (by decide) (by decide) (fun r10 _ (hr10 : r10 = bI (k.testBit i)) => ?_)
        subst hr10
        refine g_cells (ws' := [(q, .inr (1, [.ref qa, .int (nI al)])), (qa, .inl (E 0, 12, .inl (aN V)))]) [0, 1] (by decide) rfl ?_
        refine g_if_eqB (tgt := 23) C d_Grounds_noteRound_13 (by decide) (fun b1 => ?_) (fun b1 => ?_)
        · skip
          refine g_iinc (lv' := [(3, .int (nI (i + 1))), (0, .ref q), (1, .int (nI k)), (2, .int (nI r))]) C d_Grounds_noteRound_23 3 rfl (nI_1 _) (by decide) rfl ?_
          refine g_goto (tgt := 2) C d_Grounds_noteRound_26 (by decide) ?_
          refine g_perm [1, 2, 3, 0] rfl ?_
          exact ih2 (i + 1) V (by omega) (by first | (rw [hV]; exact nrU_y b1) | (rw [hV]; exact nrU_n b1)) (by omega)
        · skip
          refine g_aload_n C d_Grounds_noteRound_16 rfl 0 rfl ?_
          refine g_get C lay_Grounds 0 rfl rfl 0 (by decide) m_126 rfl d_Grounds_noteRound_17 ?_
          refine g_iload_n C d_Grounds_noteRound_20 rfl 3 rfl ?_
          refine g_iload_n C d_Grounds_noteRound_21 rfl 2 rfl ?_
          refine g_iastN (f' := aN (va_up V i r)) (ws' := [(q, .inr (1, [.ref qa, .int (nI al)])), (qa, .inl (E 0, 12, .inl (aN (va_up V i r))))]) C 1 rfl (by omega) (by decide) (aN_up _ _ _) rfl d_Grounds_noteRound_22 ?_
          refine g_iinc (lv' := [(3, .int (nI (i + 1))), (0, .ref q), (1, .int (nI k)), (2, .int (nI r))]) C d_Grounds_noteRound_23 3 rfl (nI_1 _) (by decide) rfl ?_
          refine g_goto (tgt := 2) C d_Grounds_noteRound_26 (by decide) ?_
          refine g_perm [1, 2, 3, 0] rfl ?_
          exact ih2 (i + 1) (va_up V i r) (by omega) (by first | (rw [hV]; exact nrU_y b1) | (rw [hV]; exact nrU_n b1)) (by omega)
  refine g_perm [1, 2, 3, 0] rfl ?_
  exact loop2 (12 - 0 + 1) 0 R (Nat.zero_le _) ((nrU_0 _ _ _).symm) (Nat.lt_succ_self _)

set_option maxHeartbeats 4000000 in
set_option maxRecDepth 100000 in
theorem c_Gr_settle (l : Launch) (D : va_G) (E : Nat → ClassId) (q : Nat) (qa : Nat) (R : Nat → Nat) (al : Nat) (h : Nat) (t : Nat) (u : Nat) (n : Nat) (T : Nat → Nat) (U : Nat → Nat) (hn : n ≤ 12) (hT : ∀ a, T a < 4096) : MV l D E y_Grounds_settle (.code y_Grounds_settle k_Grounds_settle 4 none) ({ frames := 3, cells := 0, slots := 0, locals := 66 } : Room) [.ref q, .ref h] [(q, .inr (1, [.ref qa, .int (nI al)])), (qa, .inl (E 0, 12, .inl (aN R))), (h, .inr (6, [.ref t, .ref u, .int (nI n)])), (t, .inl (E 0, 12, .inl (aN T))), (u, .inl (E 0, 12, .inl (aN U)))] (fun _ : Unit => True) (fun _ : Unit => [(q, .inr (1, [.ref qa, .int (nI (gdA T n 12))])), (qa, .inl (E 0, 12, .inl (aN (gdR T n (ovw R (fun _ => 0) 12) 12)))), (h, .inr (6, [.ref t, .ref u, .int (nI n)])), (t, .inl (E 0, 12, .inl (aN T))), (u, .inl (E 0, 12, .inl (aN U)))]) := by
  refine MV.of (by decide) (Nat.le_of_ble_eq_true rfl) ?_
  intro p e s m args below meth c A C hrt hlk hnm
  refine g_lv (lv' := [(0, .ref q), (1, .ref h)]) rfl ?_
  refine g_aload_n C d_Grounds_settle_0 rfl 0 rfl ?_
  refine g_iconst (v := nI 0) C d_Grounds_settle_1 (by decide) ?_
  refine g_put (ws' := [(q, .inr (1, [.ref qa, .int (nI 0)])), (qa, .inl (E 0, 12, .inl (aN R))), (h, .inr (6, [.ref t, .ref u, .int (nI n)])), (t, .inl (E 0, 12, .inl (aN T))), (u, .inl (E 0, 12, .inl (aN U)))]) C lay_Grounds ty_Grounds nm_Grounds 0 rfl rfl 1 (by decide) m_127 rfl rfl rfl (Nat.le_of_ble_eq_true rfl) rfl d_Grounds_settle_2 ?_
  refine g_iconst (v := nI 0) C d_Grounds_settle_5 (by decide) ?_
  refine g_istore_n (lv' := [(2, .int (nI 0)), (0, .ref q), (1, .ref h)]) C d_Grounds_settle_6 rfl (by decide) rfl ?_
  have loop7 : ∀ (f : Nat) (i : Nat) (V : Nat → Nat), (i ≤ 12) → (V = ovw R (fun _ => 0) i) → 12 - i < f → GG p l e ({ frames := 3, cells := 0, slots := 0, locals := 66 } : Room) s m args below meth c (MQ below (va_Qv (fun _ : Unit => True) (BC D A (fun _ : Unit => [(q, .inr (1, [.ref qa, .int (nI (gdA T n 12))])), (qa, .inl (E 0, 12, .inl (aN (gdR T n (ovw R (fun _ => 0) 12) 12)))), (h, .inr (6, [.ref t, .ref u, .int (nI n)])), (t, .inl (E 0, 12, .inl (aN T))), (u, .inl (E 0, 12, .inl (aN U)))])) A) args s (({ frames := 3, cells := 0, slots := 0, locals := 66 } : Room)).cells (({ frames := 3, cells := 0, slots := 0, locals := 66 } : Room)).slots A) D A 4 0 0 7 [(0, .ref q), (1, .ref h), (2, .int (nI i))] [] [(q, .inr (1, [.ref qa, .int (nI 0)])), (qa, .inl (E 0, 12, .inl (aN V))), (h, .inr (6, [.ref t, .ref u, .int (nI n)])), (t, .inl (E 0, 12, .inl (aN T))), (u, .inl (E 0, 12, .inl (aN U)))] := by
    intro f
    induction f with
    | zero => intro i V hi hV hf; exact absurd hf (Nat.not_lt_zero _)
    | succ f ih =>
      intro i V hi hV hf
      have ih7 := ih
      refine g_iload_n C d_Grounds_settle_7 rfl 2 rfl ?_
      refine g_bipush (v := nI 12) C d_Grounds_settle_8 (by decide) ?_
      refine g_icmp_geN (tgt := 26) C (by omega) (by decide) d_Grounds_settle_10 (by decide) (fun b0 => ?_) (fun b0 => ?_)
      · skip
        refine g_iconst (v := nI 1) C d_Grounds_settle_26 (by decide) ?_
        refine g_istore_n (lv' := [(2, .int (nI 1)), (0, .ref q), (1, .ref h)]) C d_Grounds_settle_27 rfl (by decide) rfl ?_
        have loop28 : ∀ (f : Nat) (r : Nat) (V2 : Nat → Nat) (w : Nat), (1 ≤ r ∧ r ≤ 13) → (w = gdA T n (r - 1)) → (V2 = gdR T n (ovw R (fun _ => 0) 12) (r - 1)) → 13 - r < f → GG p l e ({ frames := 3, cells := 0, slots := 0, locals := 66 } : Room) s m args below meth c (MQ below (va_Qv (fun _ : Unit => True) (BC D A (fun _ : Unit => [(q, .inr (1, [.ref qa, .int (nI (gdA T n 12))])), (qa, .inl (E 0, 12, .inl (aN (gdR T n (ovw R (fun _ => 0) 12) 12)))), (h, .inr (6, [.ref t, .ref u, .int (nI n)])), (t, .inl (E 0, 12, .inl (aN T))), (u, .inl (E 0, 12, .inl (aN U)))])) A) args s (({ frames := 3, cells := 0, slots := 0, locals := 66 } : Room)).cells (({ frames := 3, cells := 0, slots := 0, locals := 66 } : Room)).slots A) D A 4 0 0 28 [(0, .ref q), (1, .ref h), (2, .int (nI r))] [] [(q, .inr (1, [.ref qa, .int (nI w)])), (qa, .inl (E 0, 12, .inl (aN V2))), (h, .inr (6, [.ref t, .ref u, .int (nI n)])), (t, .inl (E 0, 12, .inl (aN T))), (u, .inl (E 0, 12, .inl (aN U)))] := by
          intro f
          induction f with
          | zero => intro r V2 w hr hw hV2 hf; exact absurd hf (Nat.not_lt_zero _)
          | succ f ih =>
            intro r V2 w hr hw hV2 hf
            have ih28 := ih
            refine g_iload_n C d_Grounds_settle_28 rfl 2 rfl ?_
            refine g_bipush (v := nI 12) C d_Grounds_settle_29 (by decide) ?_
            refine g_icmp_gtN (tgt := 67) C (by omega) (by decide) d_Grounds_settle_31 (by decide) (fun b1 => ?_) (fun b1 => ?_)
            · skip
              exact g_vret C hrt hlk () (trivial) (by rw [hw, hV2, show r - 1 = 12 by omega]) d_Grounds_settle_67
            · skip
              refine g_aload_n C d_Grounds_settle_34 rfl 1 rfl ?_
              refine g_aload_n C d_Grounds_settle_35 rfl 0 rfl ?_
              refine g_get C lay_Grounds 0 rfl rfl 1 (by decide) m_127 rfl d_Grounds_settle_36 ?_
              refine g_iV (rest := []) (wr := [(q, .inr (1, [.ref qa, .int (nI w)])), (qa, .inl (E 0, 12, .inl (aN V2)))]) C (c_Web_defendedOf l D E h t u n T U w hn (by rw [hw]; exact lt4 (gdA_lt hn _)) hT) rd_Web_defendedOf m_360 m_348 m_349 rfl rfl (Nat.le_of_ble_eq_true rfl) (Nat.le_of_ble_eq_true rfl) (Nat.le_of_ble_eq_true rfl) (Nat.le_of_ble_eq_true rfl) rfl rfl (Nat.le_of_ble_eq_true rfl) d_Grounds_settle_39 [2, 3, 4] [0, 1] rfl (by decide) rfl (by decide) (by decide) (fun r39 _ (hr39 : r39 = nI (dif (2 ^ n - 1) (tgU T (dif (2 ^ n - 1) (tgU T w n)) n))) => ?_)
              subst hr39
              refine g_cells (ws' := [(q, .inr (1, [.ref qa, .int (nI w)])), (qa, .inl (E 0, 12, .inl (aN V2))), (h, .inr (6, [.ref t, .ref u, .int (nI n)])), (t, .inl (E 0, 12, .inl (aN T))), (u, .inl (E 0, 12, .inl (aN U)))]) [0, 1, 2, 3, 4] (by decide) rfl ?_
              refine g_istore_n (lv' := [(3, .int (nI (dif (2 ^ n - 1) (tgU T (dif (2 ^ n - 1) (tgU T w n)) n)))), (0, .ref q), (1, .ref h), (2, .int (nI r))]) C d_Grounds_settle_42 rfl (by decide) rfl ?_
              refine g_aload_n C d_Grounds_settle_43 rfl 1 rfl ?_
              refine g_iload_n C d_Grounds_settle_44 rfl 0 rfl ?_
              refine g_aload_n C d_Grounds_settle_45 rfl 1 rfl ?_
              refine g_get C lay_Grounds 0 rfl rfl 1 (by decide) m_127 rfl d_Grounds_settle_46 ?_
              refine g_iconst (v := (-1)) C d_Grounds_settle_49 (by decide) ?_
              refine g_ixor C d_Grounds_settle_50 ?_
              refine g_iandD C d_Grounds_settle_51 ?_
              refine g_iload_n C d_Grounds_settle_52 rfl 3 rfl ?_
              refine g_vV (rest := []) (wr := [(h, .inr (6, [.ref t, .ref u, .int (nI n)])), (t, .inl (E 0, 12, .inl (aN T))), (u, .inl (E 0, 12, .inl (aN U)))]) C (c_Gr_noteRound l D E q qa V2 w (dif (dif (2 ^ n - 1) (tgU T (dif (2 ^ n - 1) (tgU T w n)) n)) w) r (dif_lt (lt4 (dfd_lt (T := T) hn)))) rd_Grounds_noteRound m_361 m_363 m_11 rfl rfl (Nat.le_of_ble_eq_true rfl) (Nat.le_of_ble_eq_true rfl) (Nat.le_of_ble_eq_true rfl) (Nat.le_of_ble_eq_true rfl) rfl rfl (Nat.le_of_ble_eq_true rfl) d_Grounds_settle_53 [0, 1] [2, 3, 4] rfl (by decide) rfl (by decide) (by decide) (fun _ _ => ?_)
              refine g_cells (ws' := [(q, .inr (1, [.ref qa, .int (nI w)])), (qa, .inl (E 0, 12, .inl (aN (nrU V2 (dif (dif (2 ^ n - 1) (tgU T (dif (2 ^ n - 1) (tgU T w n)) n)) w) r 12)))), (h, .inr (6, [.ref t, .ref u, .int (nI n)])), (t, .inl (E 0, 12, .inl (aN T))), (u, .inl (E 0, 12, .inl (aN U)))]) [3, 4, 0, 1, 2] (by decide) rfl ?_
              refine g_aload_n C d_Grounds_settle_56 rfl 1 rfl ?_
              refine g_iload_n C d_Grounds_settle_57 rfl 0 rfl ?_
              refine g_put (ws' := [(q, .inr (1, [.ref qa, .int (nI (dif (2 ^ n - 1) (tgU T (dif (2 ^ n - 1) (tgU T w n)) n)))])), (qa, .inl (E 0, 12, .inl (aN (nrU V2 (dif (dif (2 ^ n - 1) (tgU T (dif (2 ^ n - 1) (tgU T w n)) n)) w) r 12)))), (h, .inr (6, [.ref t, .ref u, .int (nI n)])), (t, .inl (E 0, 12, .inl (aN T))), (u, .inl (E 0, 12, .inl (aN U)))]) C lay_Grounds ty_Grounds nm_Grounds 0 rfl rfl 1 (by decide) m_127 rfl rfl rfl (Nat.le_of_ble_eq_true rfl) rfl d_Grounds_settle_58 ?_
              refine g_iinc (lv' := [(2, .int (nI (r + 1))), (3, .int (nI (dif (2 ^ n - 1) (tgU T (dif (2 ^ n - 1) (tgU T w n)) n)))), (0, .ref q), (1, .ref h)]) C d_Grounds_settle_61 3 rfl (nI_1 _) (by decide) rfl ?_
              refine g_goto (tgt := 28) C d_Grounds_settle_64 (by decide) ?_
              refine g_perm [2, 3, 0] rfl ?_
              exact ih28 (r + 1) (nrU V2 (dif (dif (2 ^ n - 1) (tgU T (dif (2 ^ n - 1) (tgU T w n)) n)) w) r 12) (dif (2 ^ n - 1) (tgU T (dif (2 ^ n - 1) (tgU T w n)) n)) (by omega) (by rw [show r + 1 - 1 = (r - 1) + 1 by omega]; simp only [gdA, ← hw]; rfl) (by rw [show r + 1 - 1 = (r - 1) + 1 by omega]; simp only [gdR, ← hw, ← hV2, show r - 1 + 1 = r by omega]; rfl) (by omega)
        refine g_perm [1, 2, 0] rfl ?_
        exact loop28 (13 - 1 + 1) 1 V 0 (by omega) (rfl) (by rw [hV, show i = 12 by omega]; rfl) (Nat.lt_succ_self _)
      · skip
        refine g_aload_n C d_Grounds_settle_13 rfl 0 rfl ?_
        refine g_get C lay_Grounds 0 rfl rfl 0 (by decide) m_126 rfl d_Grounds_settle_14 ?_
        refine g_iload_n C d_Grounds_settle_17 rfl 2 rfl ?_
        refine g_iconst (v := nI 0) C d_Grounds_settle_18 (by decide) ?_
        refine g_iastN (f' := aN (va_up V i 0)) (ws' := [(q, .inr (1, [.ref qa, .int (nI 0)])), (qa, .inl (E 0, 12, .inl (aN (va_up V i 0)))), (h, .inr (6, [.ref t, .ref u, .int (nI n)])), (t, .inl (E 0, 12, .inl (aN T))), (u, .inl (E 0, 12, .inl (aN U)))]) C 1 rfl (by omega) (by decide) (aN_up _ _ _) rfl d_Grounds_settle_19 ?_
        refine g_iinc (lv' := [(2, .int (nI (i + 1))), (0, .ref q), (1, .ref h)]) C d_Grounds_settle_20 2 rfl (nI_1 _) (by decide) rfl ?_
        refine g_goto (tgt := 7) C d_Grounds_settle_23 (by decide) ?_
        refine g_perm [1, 2, 0] rfl ?_
        exact ih7 (i + 1) (va_up V i 0) (by omega) (by rw [hV]; exact ovw_s R (fun _ => 0) i) (by omega)
  refine g_perm [1, 2, 0] rfl ?_
  exact loop7 (12 - 0 + 1) 0 R (Nat.zero_le _) ((ovw_0 _ _).symm) (Nat.lt_succ_self _)

set_option maxHeartbeats 4000000 in
set_option maxRecDepth 100000 in
theorem c_Gr_earliestIn (l : Launch) (D : va_G) (E : Nat → ClassId) (q : Nat) (qa : Nat) (R : Nat → Nat) (al : Nat) (k : Nat) (hk : k < 2 ^ 31) (hal : al < 2 ^ 31) (hR : ∀ a, R a < 4096) : MI l D E y_Grounds_earliestIn (.code y_Grounds_earliestIn k_Grounds_earliestIn 4 (some .int)) ({ frames := 1, cells := 0, slots := 0, locals := 21 } : Room) [.ref q, .int (nI k)] [(q, .inr (1, [.ref qa, .int (nI al)])), (qa, .inl (E 0, 12, .inl (aN R)))] (fun (r : Int32) (_ : Unit) => r = oI (erl R (k &&& al) 12)) (fun _ : Unit => [(q, .inr (1, [.ref qa, .int (nI al)])), (qa, .inl (E 0, 12, .inl (aN R)))]) := by
  refine MI.of (by decide) (Nat.le_of_ble_eq_true rfl) ?_
  intro p e s m args below meth c A C hrt hlk hnm
  refine g_lv (lv' := [(0, .ref q), (1, .int (nI k))]) rfl ?_
  refine g_iconst (v := (-1)) C d_Grounds_earliestIn_0 (by decide) ?_
  refine g_istore_n (lv' := [(2, .int (-1)), (0, .ref q), (1, .int (nI k))]) C d_Grounds_earliestIn_1 rfl (by decide) rfl ?_
  refine g_iconst (v := nI 0) C d_Grounds_earliestIn_2 (by decide) ?_
  refine g_istore_n (lv' := [(3, .int (nI 0)), (2, .int (-1)), (0, .ref q), (1, .int (nI k))]) C d_Grounds_earliestIn_3 rfl (by decide) rfl ?_
  have loop4 : ∀ (f : Nat) (i : Nat) (o : Option Nat), (i ≤ 12) → (o = erl R (k &&& al) i) → 12 - i < f → GG p l e ({ frames := 1, cells := 0, slots := 0, locals := 21 } : Room) s m args below meth c (MQ below (va_Qi (fun (r : Int32) (_ : Unit) => r = oI (erl R (k &&& al) 12)) (BC D A (fun _ : Unit => [(q, .inr (1, [.ref qa, .int (nI al)])), (qa, .inl (E 0, 12, .inl (aN R)))])) A) args s (({ frames := 1, cells := 0, slots := 0, locals := 21 } : Room)).cells (({ frames := 1, cells := 0, slots := 0, locals := 21 } : Room)).slots A) D A 4 0 0 4 [(0, .ref q), (1, .int (nI k)), (2, .int (oI o)), (3, .int (nI i))] [] [(q, .inr (1, [.ref qa, .int (nI al)])), (qa, .inl (E 0, 12, .inl (aN R)))] := by
    intro f
    induction f with
    | zero => intro i o hi ho hf; exact absurd hf (Nat.not_lt_zero _)
    | succ f ih =>
      intro i o hi ho hf
      have ih4 := ih
      refine g_iload_n C d_Grounds_earliestIn_4 rfl 3 rfl ?_
      refine g_bipush (v := nI 12) C d_Grounds_earliestIn_5 (by decide) ?_
      refine g_icmp_geN (tgt := 50) C (by omega) (by decide) d_Grounds_earliestIn_7 (by decide) (fun b0 => ?_) (fun b0 => ?_)
      · skip
        refine g_iload_n C d_Grounds_earliestIn_50 rfl 2 rfl ?_
        exact g_iret C hrt hlk () (by rw [ho, show i = 12 by omega]) rfl d_Grounds_earliestIn_51
      · skip
        refine g_iload_n C d_Grounds_earliestIn_10 rfl 3 rfl ?_
        refine g_iload_n C d_Grounds_earliestIn_11 rfl 1 rfl ?_
        refine g_aload_n C d_Grounds_earliestIn_12 rfl 0 rfl ?_
        refine g_get C lay_Grounds 0 rfl rfl 1 (by decide) m_127 rfl d_Grounds_earliestIn_13 ?_
        refine g_iandN C d_Grounds_earliestIn_16 ?_
        refine g_iSN (rest := []) (wr := [(q, .inr (1, [.ref qa, .int (nI al)])), (qa, .inl (E 0, 12, .inl (aN R)))]) C (c_isIn l D E i (k &&& al) (by omega) (and_lt hal)) rd_AB_isIn m_365 m_229 (Nat.le_of_ble_eq_true rfl) (Nat.le_of_ble_eq_true rfl) (Nat.le_of_ble_eq_true rfl) (Nat.le_of_ble_eq_true rfl) rfl rfl (Nat.le_of_ble_eq_true rfl) d_Grounds_earliestIn_17 [] [0, 1] rfl (by decide) rfl (by decide) (by decide) (fun r17 _ (hr17 : r17 = bI ((k &&& al).testBit i)) => ?_)
        subst hr17
        refine g_cells (ws' := [(q, .inr (1, [.ref qa, .int (nI al)])), (qa, .inl (E 0, 12, .inl (aN R)))]) [0, 1] (by decide) rfl ?_
        refine g_if_eqB (tgt := 44) C d_Grounds_earliestIn_20 (by decide) (fun b1 => ?_) (fun b1 => ?_)
        · skip
          refine g_iinc (lv' := [(3, .int (nI (i + 1))), (0, .ref q), (1, .int (nI k)), (2, .int (oI o))]) C d_Grounds_earliestIn_44 3 rfl (nI_1 _) (by decide) rfl ?_
          refine g_goto (tgt := 4) C d_Grounds_earliestIn_47 (by decide) ?_
          refine g_perm [1, 2, 3, 0] rfl ?_
          exact ih4 (i + 1) o (by omega) (by first | (rw [erl_n1 b1]; exact ho) | exact (erl_y0 b1 ho.symm).symm | exact (erl_y1 b1 ho.symm (by omega)).symm | exact (erl_n2 b1 ho.symm (by omega)).symm) (by omega)
        · skip
          refine g_iload_n C d_Grounds_earliestIn_23 rfl 2 rfl ?_
          refine g_iconst (v := (-1)) C d_Grounds_earliestIn_24 (by decide) ?_
          refine g_icmp_eqO (tgt := 42) C (fun j q => by subst q; have := (erl_lt ho.symm).1; omega) d_Grounds_earliestIn_25 (by decide) (fun b2 => ?_) (fun j2 b2 => ?_)
          · skip
            subst b2
            refine g_iload_n C d_Grounds_earliestIn_42 rfl 3 rfl ?_
            refine g_istore_n (lv' := [(2, .int (nI i)), (0, .ref q), (1, .int (nI k)), (3, .int (nI i))]) C d_Grounds_earliestIn_43 rfl (by decide) rfl ?_
            refine g_iinc (lv' := [(3, .int (nI (i + 1))), (2, .int (nI i)), (0, .ref q), (1, .int (nI k))]) C d_Grounds_earliestIn_44 3 rfl (nI_1 _) (by decide) rfl ?_
            refine g_goto (tgt := 4) C d_Grounds_earliestIn_47 (by decide) ?_
            refine g_lv (lv' := [(3, .int (nI (i + 1))), (2, .int (oI (some i))), (0, .ref q), (1, .int (nI k))]) rfl ?_
            refine g_perm [2, 3, 1, 0] rfl ?_
            exact ih4 (i + 1) (some i) (by omega) (by first | (rw [erl_n1 b1]; exact ho) | exact (erl_y0 b1 ho.symm).symm | exact (erl_y1 b1 ho.symm (by omega)).symm | exact (erl_n2 b1 ho.symm (by omega)).symm) (by omega)
          · skip
            subst b2
            refine g_aload_n C d_Grounds_earliestIn_28 rfl 0 rfl ?_
            refine g_get C lay_Grounds 0 rfl rfl 0 (by decide) m_126 rfl d_Grounds_earliestIn_29 ?_
            refine g_iload_n C d_Grounds_earliestIn_32 rfl 3 rfl ?_
            refine g_ialdN C 1 rfl (by omega) (by decide) d_Grounds_earliestIn_33 ?_
            refine g_top (show (aN R) i = nI (R i) from rfl) ?_
            refine g_aload_n C d_Grounds_earliestIn_34 rfl 0 rfl ?_
            refine g_iload_n C d_Grounds_earliestIn_35 rfl 2 rfl ?_
            refine g_iV (rest := [.int (nI (R i))]) (wr := []) C (c_Gr_roundOf l D E q qa R al j2 (by have := (erl_lt ho.symm).1; omega)) rd_Grounds_roundOf m_627 m_375 m_376 rfl rfl (Nat.le_of_ble_eq_true rfl) (Nat.le_of_ble_eq_true rfl) (Nat.le_of_ble_eq_true rfl) (Nat.le_of_ble_eq_true rfl) rfl rfl (Nat.le_of_ble_eq_true rfl) d_Grounds_earliestIn_36 [0, 1] [] rfl (by decide) rfl (by decide) (by decide) (fun r36 _ (hr36 : r36 = nI (R j2)) => ?_)
            subst hr36
            refine g_cells (ws' := [(q, .inr (1, [.ref qa, .int (nI al)])), (qa, .inl (E 0, 12, .inl (aN R)))]) [0, 1] (by decide) rfl ?_
            refine g_top (show nI (R j2) = nI (R j2) from rfl) ?_
            refine g_icmp_geN (tgt := 44) C (lt4 (hR _)) (lt4 (hR _)) d_Grounds_earliestIn_39 (by decide) (fun b3 => ?_) (fun b3 => ?_)
            · skip
              refine g_iinc (lv' := [(3, .int (nI (i + 1))), (0, .ref q), (1, .int (nI k)), (2, .int (nI j2))]) C d_Grounds_earliestIn_44 3 rfl (nI_1 _) (by decide) rfl ?_
              refine g_goto (tgt := 4) C d_Grounds_earliestIn_47 (by decide) ?_
              refine g_lv (lv' := [(3, .int (nI (i + 1))), (0, .ref q), (1, .int (nI k)), (2, .int (oI (some j2)))]) rfl ?_
              refine g_perm [1, 2, 3, 0] rfl ?_
              exact ih4 (i + 1) (some j2) (by omega) (by first | (rw [erl_n1 b1]; exact ho) | exact (erl_y0 b1 ho.symm).symm | exact (erl_y1 b1 ho.symm (by omega)).symm | exact (erl_n2 b1 ho.symm (by omega)).symm) (by omega)
            · skip
              refine g_iload_n C d_Grounds_earliestIn_42 rfl 3 rfl ?_
              refine g_istore_n (lv' := [(2, .int (nI i)), (0, .ref q), (1, .int (nI k)), (3, .int (nI i))]) C d_Grounds_earliestIn_43 rfl (by decide) rfl ?_
              refine g_iinc (lv' := [(3, .int (nI (i + 1))), (2, .int (nI i)), (0, .ref q), (1, .int (nI k))]) C d_Grounds_earliestIn_44 3 rfl (nI_1 _) (by decide) rfl ?_
              refine g_goto (tgt := 4) C d_Grounds_earliestIn_47 (by decide) ?_
              refine g_lv (lv' := [(3, .int (nI (i + 1))), (2, .int (oI (some i))), (0, .ref q), (1, .int (nI k))]) rfl ?_
              refine g_perm [2, 3, 1, 0] rfl ?_
              exact ih4 (i + 1) (some i) (by omega) (by first | (rw [erl_n1 b1]; exact ho) | exact (erl_y0 b1 ho.symm).symm | exact (erl_y1 b1 ho.symm (by omega)).symm | exact (erl_n2 b1 ho.symm (by omega)).symm) (by omega)
  refine g_lv (lv' := [(3, .int (nI 0)), (2, .int (oI none)), (0, .ref q), (1, .int (nI k))]) rfl ?_
  refine g_perm [2, 3, 1, 0] rfl ?_
  exact loop4 (12 - 0 + 1) 0 none (Nat.zero_le _) (rfl) (Nat.lt_succ_self _)

set_option maxHeartbeats 4000000 in
set_option maxRecDepth 100000 in
theorem c_Tk_say (l : Launch) (D : va_G) (E : Nat → ClassId) (v : Nat) (va : Nat) (vb : Nat) (vc : Nat) (Sa : Nat → Nat) (An : Nat → Int32) (Sd : Nat → Nat) (z : Nat) (tl : Bool) (x : Nat) (y : Int32) (sd : Nat) (hz : z < 500) : MI l D E y_Talk_say (.code y_Talk_say k_Talk_say 4 (some .int)) ({ frames := 0, cells := 0, slots := 0, locals := 0 } : Room) [.ref v, .int (nI x), .int y, .int (nI sd)] [(v, .inr (5, [.ref va, .ref vb, .ref vc, .int (nI z), .int (bI tl)])), (va, .inl (E 0, 500, .inl (aN Sa))), (vb, .inl (E 0, 500, .inl An)), (vc, .inl (E 0, 500, .inl (aN Sd)))] (fun (r : Int32) (_ : Unit) => r = nI z) (fun _ : Unit => [(v, .inr (5, [.ref va, .ref vb, .ref vc, .int (nI (z + 1)), .int (bI tl)])), (va, .inl (E 0, 500, .inl (aN (va_up Sa z x)))), (vb, .inl (E 0, 500, .inl (upd An z y))), (vc, .inl (E 0, 500, .inl (aN (va_up Sd z sd))))]) := by
  refine MI.of (by decide) (Nat.le_of_ble_eq_true rfl) ?_
  intro p e s m args below meth c A C hrt hlk hnm
  refine g_lv (lv' := [(0, .ref v), (1, .int (nI x)), (2, .int y), (3, .int (nI sd))]) rfl ?_
  refine g_aload_n C d_Talk_say_0 rfl 0 rfl ?_
  refine g_get C lay_Talk 0 rfl rfl 3 (by decide) m_142 rfl d_Talk_say_1 ?_
  refine g_sipush (v := nI 500) C d_Talk_say_4 (by decide) ?_
  refine g_icmp_ltN (tgt := 17) C (by omega) (by decide) d_Talk_say_7 (by decide) (fun b0 => ?_) (fun b0 => ?_)
  · skip
    refine g_aload_n C d_Talk_say_17 rfl 0 rfl ?_
    refine g_get C lay_Talk 0 rfl rfl 0 (by decide) m_139 rfl d_Talk_say_18 ?_
    refine g_aload_n C d_Talk_say_21 rfl 0 rfl ?_
    refine g_get C lay_Talk 0 rfl rfl 3 (by decide) m_142 rfl d_Talk_say_22 ?_
    refine g_iload_n C d_Talk_say_25 rfl 1 rfl ?_
    refine g_iastN (f' := aN (va_up Sa z x)) (ws' := [(v, .inr (5, [.ref va, .ref vb, .ref vc, .int (nI z), .int (bI tl)])), (va, .inl (E 0, 500, .inl (aN (va_up Sa z x)))), (vb, .inl (E 0, 500, .inl An)), (vc, .inl (E 0, 500, .inl (aN Sd)))]) C 1 rfl (by omega) (by decide) (aN_up _ _ _) rfl d_Talk_say_26 ?_
    refine g_aload_n C d_Talk_say_27 rfl 0 rfl ?_
    refine g_get C lay_Talk 0 rfl rfl 1 (by decide) m_140 rfl d_Talk_say_28 ?_
    refine g_aload_n C d_Talk_say_31 rfl 0 rfl ?_
    refine g_get C lay_Talk 0 rfl rfl 3 (by decide) m_142 rfl d_Talk_say_32 ?_
    refine g_iload_n C d_Talk_say_35 rfl 2 rfl ?_
    refine g_iastN (f' := upd An z y) (ws' := [(v, .inr (5, [.ref va, .ref vb, .ref vc, .int (nI z), .int (bI tl)])), (va, .inl (E 0, 500, .inl (aN (va_up Sa z x)))), (vb, .inl (E 0, 500, .inl (upd An z y))), (vc, .inl (E 0, 500, .inl (aN Sd)))]) C 2 rfl (by omega) (by decide) rfl rfl d_Talk_say_36 ?_
    refine g_aload_n C d_Talk_say_37 rfl 0 rfl ?_
    refine g_get C lay_Talk 0 rfl rfl 2 (by decide) m_141 rfl d_Talk_say_38 ?_
    refine g_aload_n C d_Talk_say_41 rfl 0 rfl ?_
    refine g_get C lay_Talk 0 rfl rfl 3 (by decide) m_142 rfl d_Talk_say_42 ?_
    refine g_iload_n C d_Talk_say_45 rfl 3 rfl ?_
    refine g_iastN (f' := aN (va_up Sd z sd)) (ws' := [(v, .inr (5, [.ref va, .ref vb, .ref vc, .int (nI z), .int (bI tl)])), (va, .inl (E 0, 500, .inl (aN (va_up Sa z x)))), (vb, .inl (E 0, 500, .inl (upd An z y))), (vc, .inl (E 0, 500, .inl (aN (va_up Sd z sd))))]) C 3 rfl (by omega) (by decide) (aN_up _ _ _) rfl d_Talk_say_46 ?_
    refine g_aload_n C d_Talk_say_47 rfl 0 rfl ?_
    refine g_dup C d_Talk_say_48 rfl ?_
    refine g_get C lay_Talk 0 rfl rfl 3 (by decide) m_142 rfl d_Talk_say_49 ?_
    refine g_iconst (v := nI 1) C d_Talk_say_52 (by decide) ?_
    refine g_iaddN C d_Talk_say_53 ?_
    refine g_put (ws' := [(v, .inr (5, [.ref va, .ref vb, .ref vc, .int (nI (z + 1)), .int (bI tl)])), (va, .inl (E 0, 500, .inl (aN (va_up Sa z x)))), (vb, .inl (E 0, 500, .inl (upd An z y))), (vc, .inl (E 0, 500, .inl (aN (va_up Sd z sd))))]) C lay_Talk ty_Talk nm_Talk 0 rfl rfl 3 (by decide) m_142 rfl rfl rfl (Nat.le_of_ble_eq_true rfl) rfl d_Talk_say_54 ?_
    refine g_aload_n C d_Talk_say_57 rfl 0 rfl ?_
    refine g_get C lay_Talk 0 rfl rfl 3 (by decide) m_142 rfl d_Talk_say_58 ?_
    refine g_iconst (v := nI 1) C d_Talk_say_61 (by decide) ?_
    refine g_isubN C (by omega) d_Talk_say_62 ?_
    exact g_iret C hrt hlk () (by rw [Nat.add_sub_cancel]) rfl d_Talk_say_63
  · skip
    exact absurd b0 (by omega)

set_option maxHeartbeats 4000000 in
set_option maxRecDepth 100000 in
theorem c_Tk_sayFull (l : Launch) (D : va_G) (E : Nat → ClassId) (v : Nat) (va : Nat) (vb : Nat) (vc : Nat) (Sa : Nat → Nat) (An : Nat → Int32) (Sd : Nat → Nat) (z : Nat) (tl : Bool) (x : Nat) (y : Int32) (sd : Nat) (hz : z = 500) : MI l D E y_Talk_say (.code y_Talk_say k_Talk_say 4 (some .int)) ({ frames := 0, cells := 0, slots := 0, locals := 0 } : Room) [.ref v, .int (nI x), .int y, .int (nI sd)] [(v, .inr (5, [.ref va, .ref vb, .ref vc, .int (nI z), .int (bI tl)])), (va, .inl (E 0, 500, .inl (aN Sa))), (vb, .inl (E 0, 500, .inl An)), (vc, .inl (E 0, 500, .inl (aN Sd)))] (fun (r : Int32) (_ : Unit) => r = (-1)) (fun _ : Unit => [(v, .inr (5, [.ref va, .ref vb, .ref vc, .int (nI z), .int (bI true)])), (va, .inl (E 0, 500, .inl (aN Sa))), (vb, .inl (E 0, 500, .inl An)), (vc, .inl (E 0, 500, .inl (aN Sd)))]) := by
  refine MI.of (by decide) (Nat.le_of_ble_eq_true rfl) ?_
  intro p e s m args below meth c A C hrt hlk hnm
  refine g_lv (lv' := [(0, .ref v), (1, .int (nI x)), (2, .int y), (3, .int (nI sd))]) rfl ?_
  refine g_aload_n C d_Talk_say_0 rfl 0 rfl ?_
  refine g_get C lay_Talk 0 rfl rfl 3 (by decide) m_142 rfl d_Talk_say_1 ?_
  refine g_sipush (v := nI 500) C d_Talk_say_4 (by decide) ?_
  refine g_icmp_ltN (tgt := 17) C (by omega) (by decide) d_Talk_say_7 (by decide) (fun b0 => ?_) (fun b0 => ?_)
  · skip
    exact absurd b0 (by omega)
  · skip
    refine g_aload_n C d_Talk_say_10 rfl 0 rfl ?_
    refine g_iconst (v := nI 1) C d_Talk_say_11 (by decide) ?_
    refine g_top (show nI 1 = bI true from rfl) ?_
    refine g_put (ws' := [(v, .inr (5, [.ref va, .ref vb, .ref vc, .int (nI z), .int (bI true)])), (va, .inl (E 0, 500, .inl (aN Sa))), (vb, .inl (E 0, 500, .inl An)), (vc, .inl (E 0, 500, .inl (aN Sd)))]) C lay_Talk ty_Talk nm_Talk 0 rfl rfl 4 (by decide) m_143 rfl (bI_nar _) (bI_fit _) (Nat.le_of_ble_eq_true rfl) rfl d_Talk_say_12 ?_
    refine g_iconst (v := (-1)) C d_Talk_say_15 (by decide) ?_
    exact g_iret C hrt hlk () (rfl) rfl d_Talk_say_16

set_option maxHeartbeats 4000000 in
set_option maxRecDepth 100000 in
theorem c_Ri_size (l : Launch) (D : va_G) (E : Nat → ClassId) (w : Nat) (wa : Nat) (wb : Nat) (X : Nat → Nat) (Y : Nat → Nat) (z : Nat)  : MI l D E y_Rings_size (.code y_Rings_size k_Rings_size 1 (some .int)) ({ frames := 0, cells := 0, slots := 0, locals := 0 } : Room) [.ref w] [(w, .inr (3, [.ref wa, .ref wb, .int (nI z)])), (wa, .inl (E 0, 12, .inl (aN X))), (wb, .inl (E 0, 12, .inl (aN Y)))] (fun (r : Int32) (_ : Unit) => r = nI z) (fun _ : Unit => [(w, .inr (3, [.ref wa, .ref wb, .int (nI z)])), (wa, .inl (E 0, 12, .inl (aN X))), (wb, .inl (E 0, 12, .inl (aN Y)))]) := by
  refine MI.of (by decide) (Nat.le_of_ble_eq_true rfl) ?_
  intro p e s m args below meth c A C hrt hlk hnm
  refine g_lv (lv' := [(0, .ref w)]) rfl ?_
  refine g_aload_n C d_Rings_size_0 rfl 0 rfl ?_
  refine g_get C lay_Rings 0 rfl rfl 2 (by decide) m_163 rfl d_Rings_size_1 ?_
  exact g_iret C hrt hlk () (rfl) rfl d_Rings_size_4

set_option maxHeartbeats 4000000 in
set_option maxRecDepth 100000 in
theorem c_Ri_ringOf (l : Launch) (D : va_G) (E : Nat → ClassId) (w : Nat) (wa : Nat) (wb : Nat) (X : Nat → Nat) (Y : Nat → Nat) (z : Nat) (i : Nat) (hi : i < 12) : MI l D E y_Rings_ringOf (.code y_Rings_ringOf k_Rings_ringOf 2 (some .int)) ({ frames := 0, cells := 0, slots := 0, locals := 0 } : Room) [.ref w, .int (nI i)] [(w, .inr (3, [.ref wa, .ref wb, .int (nI z)])), (wa, .inl (E 0, 12, .inl (aN X))), (wb, .inl (E 0, 12, .inl (aN Y)))] (fun (r : Int32) (_ : Unit) => r = nI (Y i)) (fun _ : Unit => [(w, .inr (3, [.ref wa, .ref wb, .int (nI z)])), (wa, .inl (E 0, 12, .inl (aN X))), (wb, .inl (E 0, 12, .inl (aN Y)))]) := by
  refine MI.of (by decide) (Nat.le_of_ble_eq_true rfl) ?_
  intro p e s m args below meth c A C hrt hlk hnm
  refine g_lv (lv' := [(0, .ref w), (1, .int (nI i))]) rfl ?_
  refine g_iload_n C d_Rings_ringOf_0 rfl 1 rfl ?_
  refine g_if_ltN (tgt := 19) C (by omega) d_Rings_ringOf_1 (by decide) ?_
  refine g_iload_n C d_Rings_ringOf_4 rfl 1 rfl ?_
  refine g_bipush (v := nI 12) C d_Rings_ringOf_5 (by decide) ?_
  refine g_icmp_geN (tgt := 19) C (by omega) (by decide) d_Rings_ringOf_7 (by decide) (fun b1 => ?_) (fun b1 => ?_)
  · skip
    exact absurd b1 (by omega)
  · skip
    refine g_aload_n C d_Rings_ringOf_10 rfl 0 rfl ?_
    refine g_get C lay_Rings 0 rfl rfl 1 (by decide) m_162 rfl d_Rings_ringOf_11 ?_
    refine g_iload_n C d_Rings_ringOf_14 rfl 1 rfl ?_
    refine g_ialdN C 2 rfl (by omega) (by decide) d_Rings_ringOf_15 ?_
    refine g_top (show (aN Y) i = nI (Y i) from rfl) ?_
    refine g_goto (tgt := 20) C d_Rings_ringOf_16 (by decide) ?_
    exact g_iret C hrt hlk () (rfl) rfl d_Rings_ringOf_20

set_option maxHeartbeats 4000000 in
set_option maxRecDepth 100000 in
theorem c_Ri_comesTo (l : Launch) (D : va_G) (E : Nat → ClassId) (w : Nat) (wa : Nat) (wb : Nat) (X : Nat → Nat) (Y : Nat → Nat) (z : Nat) (a : Nat) (b : Nat) (ha : a < 12) (hb : b < 12) (hXa : X a < 4096) : MI l D E y_Rings_comesTo (.code y_Rings_comesTo k_Rings_comesTo 3 (some .boolean)) ({ frames := 1, cells := 0, slots := 0, locals := 21 } : Room) [.ref w, .int (nI a), .int (nI b)] [(w, .inr (3, [.ref wa, .ref wb, .int (nI z)])), (wa, .inl (E 0, 12, .inl (aN X))), (wb, .inl (E 0, 12, .inl (aN Y)))] (fun (r : Int32) (_ : Unit) => r = bI ((X a).testBit b)) (fun _ : Unit => [(w, .inr (3, [.ref wa, .ref wb, .int (nI z)])), (wa, .inl (E 0, 12, .inl (aN X))), (wb, .inl (E 0, 12, .inl (aN Y)))]) := by
  refine MI.of (by decide) (Nat.le_of_ble_eq_true rfl) ?_
  intro p e s m args below meth c A C hrt hlk hnm
  refine g_lv (lv' := [(0, .ref w), (1, .int (nI a)), (2, .int (nI b))]) rfl ?_
  refine g_iload_n C d_Rings_comesTo_0 rfl 1 rfl ?_
  refine g_if_ltN (tgt := 27) C (by omega) d_Rings_comesTo_1 (by decide) ?_
  refine g_iload_n C d_Rings_comesTo_4 rfl 1 rfl ?_
  refine g_bipush (v := nI 12) C d_Rings_comesTo_5 (by decide) ?_
  refine g_icmp_geN (tgt := 27) C (by omega) (by decide) d_Rings_comesTo_7 (by decide) (fun b1 => ?_) (fun b1 => ?_)
  · skip
    exact absurd b1 (by omega)
  · skip
    refine g_iload_n C d_Rings_comesTo_10 rfl 2 rfl ?_
    refine g_aload_n C d_Rings_comesTo_11 rfl 0 rfl ?_
    refine g_get C lay_Rings 0 rfl rfl 0 (by decide) m_161 rfl d_Rings_comesTo_12 ?_
    refine g_iload_n C d_Rings_comesTo_15 rfl 1 rfl ?_
    refine g_ialdN C 1 rfl (by omega) (by decide) d_Rings_comesTo_16 ?_
    refine g_top (show (aN X) a = nI (X a) from rfl) ?_
    refine g_iSN (rest := []) (wr := [(w, .inr (3, [.ref wa, .ref wb, .int (nI z)])), (wa, .inl (E 0, 12, .inl (aN X))), (wb, .inl (E 0, 12, .inl (aN Y)))]) C (c_isIn l D E b (X a) (by omega) (lt4 hXa)) rd_AB_isIn m_412 m_229 (Nat.le_of_ble_eq_true rfl) (Nat.le_of_ble_eq_true rfl) (Nat.le_of_ble_eq_true rfl) (Nat.le_of_ble_eq_true rfl) rfl rfl (Nat.le_of_ble_eq_true rfl) d_Rings_comesTo_17 [] [0, 1, 2] rfl (by decide) rfl (by decide) (by decide) (fun r17 _ (hr17 : r17 = bI ((X a).testBit b)) => ?_)
    subst hr17
    refine g_cells (ws' := [(w, .inr (3, [.ref wa, .ref wb, .int (nI z)])), (wa, .inl (E 0, 12, .inl (aN X))), (wb, .inl (E 0, 12, .inl (aN Y)))]) [0, 1, 2] (by decide) rfl ?_
    refine g_if_eqB (tgt := 27) C d_Rings_comesTo_20 (by decide) (fun b2 => ?_) (fun b2 => ?_)
    · skip
      refine g_iconst (v := nI 0) C d_Rings_comesTo_27 (by decide) ?_
      refine g_top (show nI 0 = bI false from rfl) ?_
      exact g_zret C hrt hlk () (congrArg bI (by simp [b2])) rfl d_Rings_comesTo_28
    · skip
      refine g_iconst (v := nI 1) C d_Rings_comesTo_23 (by decide) ?_
      refine g_goto (tgt := 28) C d_Rings_comesTo_24 (by decide) ?_
      refine g_top (show nI 1 = bI true from rfl) ?_
      exact g_zret C hrt hlk () (congrArg bI (by simp [b2])) rfl d_Rings_comesTo_28

set_option maxHeartbeats 4000000 in
set_option maxRecDepth 100000 in
theorem c_Ri_around (l : Launch) (D : va_G) (E : Nat → ClassId) (w : Nat) (wa : Nat) (wb : Nat) (X : Nat → Nat) (Y : Nat → Nat) (z : Nat) (a : Nat) (n : Nat) (hn : n ≤ 12) (ha : a < 12) (hX : ∀ a, X a < 4096) : MI l D E y_Rings_around (.code y_Rings_around k_Rings_around 5 (some .int)) ({ frames := 2, cells := 0, slots := 0, locals := 43 } : Room) [.ref w, .int (nI a), .int (nI n)] [(w, .inr (3, [.ref wa, .ref wb, .int (nI z)])), (wa, .inl (E 0, 12, .inl (aN X))), (wb, .inl (E 0, 12, .inl (aN Y)))] (fun (r : Int32) (_ : Unit) => r = nI (arU X a n)) (fun _ : Unit => [(w, .inr (3, [.ref wa, .ref wb, .int (nI z)])), (wa, .inl (E 0, 12, .inl (aN X))), (wb, .inl (E 0, 12, .inl (aN Y)))]) := by
  refine MI.of (by decide) (Nat.le_of_ble_eq_true rfl) ?_
  intro p e s m args below meth c A C hrt hlk hnm
  refine g_lv (lv' := [(0, .ref w), (1, .int (nI a)), (2, .int (nI n))]) rfl ?_
  refine g_iconst (v := nI 0) C d_Rings_around_0 (by decide) ?_
  refine g_istore_n (lv' := [(3, .int (nI 0)), (0, .ref w), (1, .int (nI a)), (2, .int (nI n))]) C d_Rings_around_1 rfl (by decide) rfl ?_
  refine g_iconst (v := nI 0) C d_Rings_around_2 (by decide) ?_
  refine g_istore (lv' := [(4, .int (nI 0)), (3, .int (nI 0)), (0, .ref w), (1, .int (nI a)), (2, .int (nI n))]) C d_Rings_around_3 (by decide) rfl ?_
  have loop5 : ∀ (f : Nat) (i : Nat) (acc : Nat), (i ≤ n) → (acc = arU X a i) → n - i < f → GG p l e ({ frames := 2, cells := 0, slots := 0, locals := 43 } : Room) s m args below meth c (MQ below (va_Qi (fun (r : Int32) (_ : Unit) => r = nI (arU X a n)) (BC D A (fun _ : Unit => [(w, .inr (3, [.ref wa, .ref wb, .int (nI z)])), (wa, .inl (E 0, 12, .inl (aN X))), (wb, .inl (E 0, 12, .inl (aN Y)))])) A) args s (({ frames := 2, cells := 0, slots := 0, locals := 43 } : Room)).cells (({ frames := 2, cells := 0, slots := 0, locals := 43 } : Room)).slots A) D A 5 0 0 5 [(0, .ref w), (1, .int (nI a)), (2, .int (nI n)), (3, .int (nI acc)), (4, .int (nI i))] [] [(w, .inr (3, [.ref wa, .ref wb, .int (nI z)])), (wa, .inl (E 0, 12, .inl (aN X))), (wb, .inl (E 0, 12, .inl (aN Y)))] := by
    intro f
    induction f with
    | zero => intro i acc hi hc hf; exact absurd hf (Nat.not_lt_zero _)
    | succ f ih =>
      intro i acc hi hc hf
      have ih5 := ih
      refine g_iload C d_Rings_around_5 4 rfl ?_
      refine g_iload_n C d_Rings_around_7 rfl 2 rfl ?_
      refine g_icmp_geN (tgt := 44) C (by omega) (by omega) d_Rings_around_8 (by decide) (fun b0 => ?_) (fun b0 => ?_)
      · skip
        refine g_iload_n C d_Rings_around_44 rfl 3 rfl ?_
        exact g_iret C hrt hlk () (by rw [hc, show i = n by omega]) rfl d_Rings_around_45
      · skip
        refine g_aload_n C d_Rings_around_11 rfl 0 rfl ?_
        refine g_iload_n C d_Rings_around_12 rfl 1 rfl ?_
        refine g_iload C d_Rings_around_13 4 rfl ?_
        refine g_iV (rest := []) (wr := []) C (c_Ri_comesTo l D E w wa wb X Y z a i ha (by omega) (hX _)) rd_Rings_comesTo m_422 m_424 m_15 rfl rfl (Nat.le_of_ble_eq_true rfl) (Nat.le_of_ble_eq_true rfl) (Nat.le_of_ble_eq_true rfl) (Nat.le_of_ble_eq_true rfl) rfl rfl (Nat.le_of_ble_eq_true rfl) d_Rings_around_15 [0, 1, 2] [] rfl (by decide) rfl (by decide) (by decide) (fun r15 _ (hr15 : r15 = bI ((X a).testBit i)) => ?_)
        subst hr15
        refine g_cells (ws' := [(w, .inr (3, [.ref wa, .ref wb, .int (nI z)])), (wa, .inl (E 0, 12, .inl (aN X))), (wb, .inl (E 0, 12, .inl (aN Y)))]) [0, 1, 2] (by decide) rfl ?_
        refine g_if_eqB (tgt := 38) C d_Rings_around_18 (by decide) (fun b1 => ?_) (fun b1 => ?_)
        · skip
          refine g_iinc (lv' := [(4, .int (nI (i + 1))), (0, .ref w), (1, .int (nI a)), (2, .int (nI n)), (3, .int (nI acc))]) C d_Rings_around_38 4 rfl (nI_1 _) (by decide) rfl ?_
          refine g_goto (tgt := 5) C d_Rings_around_41 (by decide) ?_
          refine g_perm [1, 2, 3, 4, 0] rfl ?_
          exact ih5 (i + 1) acc (by omega) (by simp [arU, *]) (by omega)
        · skip
          refine g_aload_n C d_Rings_around_21 rfl 0 rfl ?_
          refine g_iload C d_Rings_around_22 4 rfl ?_
          refine g_iload_n C d_Rings_around_24 rfl 1 rfl ?_
          refine g_iV (rest := []) (wr := []) C (c_Ri_comesTo l D E w wa wb X Y z i a (by omega) ha (hX _)) rd_Rings_comesTo m_422 m_424 m_15 rfl rfl (Nat.le_of_ble_eq_true rfl) (Nat.le_of_ble_eq_true rfl) (Nat.le_of_ble_eq_true rfl) (Nat.le_of_ble_eq_true rfl) rfl rfl (Nat.le_of_ble_eq_true rfl) d_Rings_around_25 [0, 1, 2] [] rfl (by decide) rfl (by decide) (by decide) (fun r25 _ (hr25 : r25 = bI ((X i).testBit a)) => ?_)
          subst hr25
          refine g_cells (ws' := [(w, .inr (3, [.ref wa, .ref wb, .int (nI z)])), (wa, .inl (E 0, 12, .inl (aN X))), (wb, .inl (E 0, 12, .inl (aN Y)))]) [0, 1, 2] (by decide) rfl ?_
          refine g_if_eqB (tgt := 38) C d_Rings_around_28 (by decide) (fun b2 => ?_) (fun b2 => ?_)
          · skip
            refine g_iinc (lv' := [(4, .int (nI (i + 1))), (0, .ref w), (1, .int (nI a)), (2, .int (nI n)), (3, .int (nI acc))]) C d_Rings_around_38 4 rfl (nI_1 _) (by decide) rfl ?_
            refine g_goto (tgt := 5) C d_Rings_around_41 (by decide) ?_
            refine g_perm [1, 2, 3, 4, 0] rfl ?_
            exact ih5 (i + 1) acc (by omega) (by simp [arU, *]) (by omega)
          · skip
            refine g_iload_n C d_Rings_around_31 rfl 3 rfl ?_
            refine g_iconst (v := nI 1) C d_Rings_around_32 (by decide) ?_
            refine g_iload C d_Rings_around_33 4 rfl ?_
            refine g_ishl1N C (by omega) d_Rings_around_35 ?_
            refine g_iorN C d_Rings_around_36 ?_
            refine g_istore_n (lv' := [(3, .int (nI (acc ||| (2 ^ i)))), (0, .ref w), (1, .int (nI a)), (2, .int (nI n)), (4, .int (nI i))]) C d_Rings_around_37 rfl (by decide) rfl ?_
            refine g_iinc (lv' := [(4, .int (nI (i + 1))), (3, .int (nI (acc ||| (2 ^ i)))), (0, .ref w), (1, .int (nI a)), (2, .int (nI n))]) C d_Rings_around_38 4 rfl (nI_1 _) (by decide) rfl ?_
            refine g_goto (tgt := 5) C d_Rings_around_41 (by decide) ?_
            refine g_perm [2, 3, 4, 1, 0] rfl ?_
            exact ih5 (i + 1) (acc ||| (2 ^ i)) (by omega) (by simp [arU, *]) (by omega)
  refine g_perm [2, 3, 4, 1, 0] rfl ?_
  exact loop5 (n - 0 + 1) 0 0 (Nat.zero_le _) (rfl) (Nat.lt_succ_self _)

set_option maxHeartbeats 4000000 in
set_option maxRecDepth 100000 in
theorem c_Ri_around12 (l : Launch) (D : va_G) (E : Nat → ClassId) (w : Nat) (wa : Nat) (wb : Nat) (X : Nat → Nat) (Y : Nat → Nat) (z : Nat) (a : Nat) (n : Nat) (hn : n ≤ 12) (ha : a < 12) (hX : ∀ a, a < 12 → X a < 4096) : MI l D E y_Rings_around (.code y_Rings_around k_Rings_around 5 (some .int)) ({ frames := 2, cells := 0, slots := 0, locals := 43 } : Room) [.ref w, .int (nI a), .int (nI n)] [(w, .inr (3, [.ref wa, .ref wb, .int (nI z)])), (wa, .inl (E 0, 12, .inl (aN X))), (wb, .inl (E 0, 12, .inl (aN Y)))] (fun (r : Int32) (_ : Unit) => r = nI (arU X a n)) (fun _ : Unit => [(w, .inr (3, [.ref wa, .ref wb, .int (nI z)])), (wa, .inl (E 0, 12, .inl (aN X))), (wb, .inl (E 0, 12, .inl (aN Y)))]) := by
  refine MI.of (by decide) (Nat.le_of_ble_eq_true rfl) ?_
  intro p e s m args below meth c A C hrt hlk hnm
  refine g_lv (lv' := [(0, .ref w), (1, .int (nI a)), (2, .int (nI n))]) rfl ?_
  refine g_iconst (v := nI 0) C d_Rings_around_0 (by decide) ?_
  refine g_istore_n (lv' := [(3, .int (nI 0)), (0, .ref w), (1, .int (nI a)), (2, .int (nI n))]) C d_Rings_around_1 rfl (by decide) rfl ?_
  refine g_iconst (v := nI 0) C d_Rings_around_2 (by decide) ?_
  refine g_istore (lv' := [(4, .int (nI 0)), (3, .int (nI 0)), (0, .ref w), (1, .int (nI a)), (2, .int (nI n))]) C d_Rings_around_3 (by decide) rfl ?_
  have loop5 : ∀ (f : Nat) (i : Nat) (acc : Nat), (i ≤ n) → (acc = arU X a i) → n - i < f → GG p l e ({ frames := 2, cells := 0, slots := 0, locals := 43 } : Room) s m args below meth c (MQ below (va_Qi (fun (r : Int32) (_ : Unit) => r = nI (arU X a n)) (BC D A (fun _ : Unit => [(w, .inr (3, [.ref wa, .ref wb, .int (nI z)])), (wa, .inl (E 0, 12, .inl (aN X))), (wb, .inl (E 0, 12, .inl (aN Y)))])) A) args s (({ frames := 2, cells := 0, slots := 0, locals := 43 } : Room)).cells (({ frames := 2, cells := 0, slots := 0, locals := 43 } : Room)).slots A) D A 5 0 0 5 [(0, .ref w), (1, .int (nI a)), (2, .int (nI n)), (3, .int (nI acc)), (4, .int (nI i))] [] [(w, .inr (3, [.ref wa, .ref wb, .int (nI z)])), (wa, .inl (E 0, 12, .inl (aN X))), (wb, .inl (E 0, 12, .inl (aN Y)))] := by
    intro f
    induction f with
    | zero => intro i acc hi hc hf; exact absurd hf (Nat.not_lt_zero _)
    | succ f ih =>
      intro i acc hi hc hf
      have ih5 := ih
      refine g_iload C d_Rings_around_5 4 rfl ?_
      refine g_iload_n C d_Rings_around_7 rfl 2 rfl ?_
      refine g_icmp_geN (tgt := 44) C (by omega) (by omega) d_Rings_around_8 (by decide) (fun b0 => ?_) (fun b0 => ?_)
      · skip
        refine g_iload_n C d_Rings_around_44 rfl 3 rfl ?_
        exact g_iret C hrt hlk () (by rw [hc, show i = n by omega]) rfl d_Rings_around_45
      · skip
        refine g_aload_n C d_Rings_around_11 rfl 0 rfl ?_
        refine g_iload_n C d_Rings_around_12 rfl 1 rfl ?_
        refine g_iload C d_Rings_around_13 4 rfl ?_
        refine g_iV (rest := []) (wr := []) C (c_Ri_comesTo l D E w wa wb X Y z a i ha (by omega) (hX _ ha)) rd_Rings_comesTo m_422 m_424 m_15 rfl rfl (Nat.le_of_ble_eq_true rfl) (Nat.le_of_ble_eq_true rfl) (Nat.le_of_ble_eq_true rfl) (Nat.le_of_ble_eq_true rfl) rfl rfl (Nat.le_of_ble_eq_true rfl) d_Rings_around_15 [0, 1, 2] [] rfl (by decide) rfl (by decide) (by decide) (fun r15 _ (hr15 : r15 = bI ((X a).testBit i)) => ?_)
        subst hr15
        refine g_cells (ws' := [(w, .inr (3, [.ref wa, .ref wb, .int (nI z)])), (wa, .inl (E 0, 12, .inl (aN X))), (wb, .inl (E 0, 12, .inl (aN Y)))]) [0, 1, 2] (by decide) rfl ?_
        refine g_if_eqB (tgt := 38) C d_Rings_around_18 (by decide) (fun b1 => ?_) (fun b1 => ?_)
        · skip
          refine g_iinc (lv' := [(4, .int (nI (i + 1))), (0, .ref w), (1, .int (nI a)), (2, .int (nI n)), (3, .int (nI acc))]) C d_Rings_around_38 4 rfl (nI_1 _) (by decide) rfl ?_
          refine g_goto (tgt := 5) C d_Rings_around_41 (by decide) ?_
          refine g_perm [1, 2, 3, 4, 0] rfl ?_
          exact ih5 (i + 1) acc (by omega) (by simp [arU, *]) (by omega)
        · skip
          refine g_aload_n C d_Rings_around_21 rfl 0 rfl ?_
          refine g_iload C d_Rings_around_22 4 rfl ?_
          refine g_iload_n C d_Rings_around_24 rfl 1 rfl ?_
          refine g_iV (rest := []) (wr := []) C (c_Ri_comesTo l D E w wa wb X Y z i a (by omega) ha (hX _ (by omega))) rd_Rings_comesTo m_422 m_424 m_15 rfl rfl (Nat.le_of_ble_eq_true rfl) (Nat.le_of_ble_eq_true rfl) (Nat.le_of_ble_eq_true rfl) (Nat.le_of_ble_eq_true rfl) rfl rfl (Nat.le_of_ble_eq_true rfl) d_Rings_around_25 [0, 1, 2] [] rfl (by decide) rfl (by decide) (by decide) (fun r25 _ (hr25 : r25 = bI ((X i).testBit a)) => ?_)
          subst hr25
          refine g_cells (ws' := [(w, .inr (3, [.ref wa, .ref wb, .int (nI z)])), (wa, .inl (E 0, 12, .inl (aN X))), (wb, .inl (E 0, 12, .inl (aN Y)))]) [0, 1, 2] (by decide) rfl ?_
          refine g_if_eqB (tgt := 38) C d_Rings_around_28 (by decide) (fun b2 => ?_) (fun b2 => ?_)
          · skip
            refine g_iinc (lv' := [(4, .int (nI (i + 1))), (0, .ref w), (1, .int (nI a)), (2, .int (nI n)), (3, .int (nI acc))]) C d_Rings_around_38 4 rfl (nI_1 _) (by decide) rfl ?_
            refine g_goto (tgt := 5) C d_Rings_around_41 (by decide) ?_
            refine g_perm [1, 2, 3, 4, 0] rfl ?_
            exact ih5 (i + 1) acc (by omega) (by simp [arU, *]) (by omega)
          · skip
            refine g_iload_n C d_Rings_around_31 rfl 3 rfl ?_
            refine g_iconst (v := nI 1) C d_Rings_around_32 (by decide) ?_
            refine g_iload C d_Rings_around_33 4 rfl ?_
            refine g_ishl1N C (by omega) d_Rings_around_35 ?_
            refine g_iorN C d_Rings_around_36 ?_
            refine g_istore_n (lv' := [(3, .int (nI (acc ||| (2 ^ i)))), (0, .ref w), (1, .int (nI a)), (2, .int (nI n)), (4, .int (nI i))]) C d_Rings_around_37 rfl (by decide) rfl ?_
            refine g_iinc (lv' := [(4, .int (nI (i + 1))), (3, .int (nI (acc ||| (2 ^ i)))), (0, .ref w), (1, .int (nI a)), (2, .int (nI n))]) C d_Rings_around_38 4 rfl (nI_1 _) (by decide) rfl ?_
            refine g_goto (tgt := 5) C d_Rings_around_41 (by decide) ?_
            refine g_perm [2, 3, 4, 1, 0] rfl ?_
            exact ih5 (i + 1) (acc ||| (2 ^ i)) (by omega) (by simp [arU, *]) (by omega)
  refine g_perm [2, 3, 4, 1, 0] rfl ?_
  exact loop5 (n - 0 + 1) 0 0 (Nat.zero_le _) (rfl) (Nat.lt_succ_self _)

set_option maxHeartbeats 4000000 in
set_option maxRecDepth 100000 in
theorem c_Ri_number (l : Launch) (D : va_G) (E : Nat → ClassId) (w : Nat) (wa : Nat) (wb : Nat) (X : Nat → Nat) (Y : Nat → Nat) (z : Nat) (k : Nat) (hk : k < 2 ^ 31) : MV l D E y_Rings_number (.code y_Rings_number k_Rings_number 3 none) ({ frames := 1, cells := 0, slots := 0, locals := 21 } : Room) [.ref w, .int (nI k)] [(w, .inr (3, [.ref wa, .ref wb, .int (nI z)])), (wa, .inl (E 0, 12, .inl (aN X))), (wb, .inl (E 0, 12, .inl (aN Y)))] (fun _ : Unit => True) (fun _ : Unit => [(w, .inr (3, [.ref wa, .ref wb, .int (nI (if k = 0 then z else z + 1))])), (wa, .inl (E 0, 12, .inl (aN X))), (wb, .inl (E 0, 12, .inl (aN (if k = 0 then Y else nbU Y k z))))]) := by
  refine MV.of (by decide) (Nat.le_of_ble_eq_true rfl) ?_
  intro p e s m args below meth c A C hrt hlk hnm
  refine g_lv (lv' := [(0, .ref w), (1, .int (nI k))]) rfl ?_
  refine g_iload_n C d_Rings_number_0 rfl 1 rfl ?_
  refine g_if_neN (tgt := 5) C hk d_Rings_number_1 (by decide) (fun b0 => ?_) (fun b0 => ?_)
  · skip
    refine g_iconst (v := nI 0) C d_Rings_number_5 (by decide) ?_
    refine g_istore_n (lv' := [(2, .int (nI 0)), (0, .ref w), (1, .int (nI k))]) C d_Rings_number_6 rfl (by decide) rfl ?_
    have loop7 : ∀ (f : Nat) (i : Nat) (V : Nat → Nat), (i ≤ 12) → (V = nrU Y k z i) → 12 - i < f → GG p l e ({ frames := 1, cells := 0, slots := 0, locals := 21 } : Room) s m args below meth c (MQ below (va_Qv (fun _ : Unit => True) (BC D A (fun _ : Unit => [(w, .inr (3, [.ref wa, .ref wb, .int (nI (if k = 0 then z else z + 1))])), (wa, .inl (E 0, 12, .inl (aN X))), (wb, .inl (E 0, 12, .inl (aN (if k = 0 then Y else nbU Y k z))))])) A) args s (({ frames := 1, cells := 0, slots := 0, locals := 21 } : Room)).cells (({ frames := 1, cells := 0, slots := 0, locals := 21 } : Room)).slots A) D A 3 0 0 7 [(0, .ref w), (1, .int (nI k)), (2, .int (nI i))] [] [(w, .inr (3, [.ref wa, .ref wb, .int (nI z)])), (wa, .inl (E 0, 12, .inl (aN X))), (wb, .inl (E 0, 12, .inl (aN V)))] := by
      intro f
      induction f with
      | zero => intro i V hi hV hf; exact absurd hf (Nat.not_lt_zero _)
      | succ f ih =>
        intro i V hi hV hf
        have ih7 := ih
        refine g_iload_n C d_Rings_number_7 rfl 2 rfl ?_
        refine g_bipush (v := nI 12) C d_Rings_number_8 (by decide) ?_
        refine g_icmp_geN (tgt := 37) C (by omega) (by decide) d_Rings_number_10 (by decide) (fun b1 => ?_) (fun b1 => ?_)
        · skip
          refine g_aload_n C d_Rings_number_37 rfl 0 rfl ?_
          refine g_dup C d_Rings_number_38 rfl ?_
          refine g_get C lay_Rings 0 rfl rfl 2 (by decide) m_163 rfl d_Rings_number_39 ?_
          refine g_iconst (v := nI 1) C d_Rings_number_42 (by decide) ?_
          refine g_iaddN C d_Rings_number_43 ?_
          refine g_put (ws' := [(w, .inr (3, [.ref wa, .ref wb, .int (nI (z + 1))])), (wa, .inl (E 0, 12, .inl (aN X))), (wb, .inl (E 0, 12, .inl (aN V)))]) C lay_Rings ty_Rings nm_Rings 0 rfl rfl 2 (by decide) m_163 rfl rfl rfl (Nat.le_of_ble_eq_true rfl) rfl d_Rings_number_44 ?_
          exact g_vret C hrt hlk () (trivial) (by rw [if_neg b0, if_neg b0, hV, show i = 12 by omega]; rfl) d_Rings_number_47
        · skip
          refine g_iload_n C d_Rings_number_13 rfl 2 rfl ?_
          refine g_iload_n C d_Rings_number_14 rfl 1 rfl ?_
          refine g_iSN (rest := []) (wr := [(w, .inr (3, [.ref wa, .ref wb, .int (nI z)])), (wa, .inl (E 0, 12, .inl (aN X))), (wb, .inl (E 0, 12, .inl (aN V)))]) C (c_isIn l D E i k (by omega) hk) rd_AB_isIn m_412 m_229 (Nat.le_of_ble_eq_true rfl) (Nat.le_of_ble_eq_true rfl) (Nat.le_of_ble_eq_true rfl) (Nat.le_of_ble_eq_true rfl) rfl rfl (Nat.le_of_ble_eq_true rfl) d_Rings_number_15 [] [0, 1, 2] rfl (by decide) rfl (by decide) (by decide) (fun r15 _ (hr15 : r15 = bI (k.testBit i)) => ?_)
          subst hr15
          refine g_cells (ws' := [(w, .inr (3, [.ref wa, .ref wb, .int (nI z)])), (wa, .inl (E 0, 12, .inl (aN X))), (wb, .inl (E 0, 12, .inl (aN V)))]) [0, 1, 2] (by decide) rfl ?_
          refine g_if_eqB (tgt := 31) C d_Rings_number_18 (by decide) (fun b2 => ?_) (fun b2 => ?_)
          · skip
            refine g_iinc (lv' := [(2, .int (nI (i + 1))), (0, .ref w), (1, .int (nI k))]) C d_Rings_number_31 2 rfl (nI_1 _) (by decide) rfl ?_
            refine g_goto (tgt := 7) C d_Rings_number_34 (by decide) ?_
            refine g_perm [1, 2, 0] rfl ?_
            exact ih7 (i + 1) V (by omega) (by first | (rw [hV]; exact nrU_y b2) | (rw [hV]; exact nrU_n b2)) (by omega)
          · skip
            refine g_aload_n C d_Rings_number_21 rfl 0 rfl ?_
            refine g_get C lay_Rings 0 rfl rfl 1 (by decide) m_162 rfl d_Rings_number_22 ?_
            refine g_iload_n C d_Rings_number_25 rfl 2 rfl ?_
            refine g_aload_n C d_Rings_number_26 rfl 0 rfl ?_
            refine g_get C lay_Rings 0 rfl rfl 2 (by decide) m_163 rfl d_Rings_number_27 ?_
            refine g_iastN (f' := aN (va_up V i z)) (ws' := [(w, .inr (3, [.ref wa, .ref wb, .int (nI z)])), (wa, .inl (E 0, 12, .inl (aN X))), (wb, .inl (E 0, 12, .inl (aN (va_up V i z))))]) C 2 rfl (by omega) (by decide) (aN_up _ _ _) rfl d_Rings_number_30 ?_
            refine g_iinc (lv' := [(2, .int (nI (i + 1))), (0, .ref w), (1, .int (nI k))]) C d_Rings_number_31 2 rfl (nI_1 _) (by decide) rfl ?_
            refine g_goto (tgt := 7) C d_Rings_number_34 (by decide) ?_
            refine g_perm [1, 2, 0] rfl ?_
            exact ih7 (i + 1) (va_up V i z) (by omega) (by first | (rw [hV]; exact nrU_y b2) | (rw [hV]; exact nrU_n b2)) (by omega)
    refine g_perm [1, 2, 0] rfl ?_
    exact loop7 (12 - 0 + 1) 0 Y (Nat.zero_le _) ((nrU_0 _ _ _).symm) (Nat.lt_succ_self _)
  · skip
    exact g_vret C hrt hlk () (trivial) (by rw [if_pos b0, if_pos b0]) d_Rings_number_4
