set_option maxHeartbeats 4000000 in
set_option maxRecDepth 100000 in
theorem c_Ri_fillReach (l : Launch) (D : va_G) (E : Nat → ClassId) (w : Nat) (wa : Nat) (wb : Nat) (X : Nat → Nat) (Y : Nat → Nat) (z : Nat) (h : Nat) (t : Nat) (u : Nat) (n : Nat) (T : Nat → Nat) (U : Nat → Nat) (hn : n ≤ 12) (hT : ∀ a, T a < 4096) : MV l D E y_Rings_fillReach (.code y_Rings_fillReach k_Rings_fillReach 4 none) ({ frames := 2, cells := 0, slots := 0, locals := 42 } : Room) [.ref w, .ref h] [(w, .inr (3, [.ref wa, .ref wb, .int (nI z)])), (wa, .inl (E 0, 12, .inl (aN X))), (wb, .inl (E 0, 12, .inl (aN Y))), (h, .inr (6, [.ref t, .ref u, .int (nI n)])), (t, .inl (E 0, 12, .inl (aN T))), (u, .inl (E 0, 12, .inl (aN U)))] (fun _ : Unit => True) (fun _ : Unit => [(w, .inr (3, [.ref wa, .ref wb, .int (nI z)])), (wa, .inl (E 0, 12, .inl (aN (rcX T n X)))), (wb, .inl (E 0, 12, .inl (aN Y))), (h, .inr (6, [.ref t, .ref u, .int (nI n)])), (t, .inl (E 0, 12, .inl (aN T))), (u, .inl (E 0, 12, .inl (aN U)))]) := by
  refine MV.of (by decide) (Nat.le_of_ble_eq_true rfl) ?_
  intro p e s m args below meth c A C hrt hlk hnm
  refine g_lv (lv' := [(0, .ref w), (1, .ref h)]) rfl ?_
  refine g_iconst (v := nI 0) C d_Rings_fillReach_0 (by decide) ?_
  refine g_istore_n (lv' := [(2, .int (nI 0)), (0, .ref w), (1, .ref h)]) C d_Rings_fillReach_1 rfl (by decide) rfl ?_
  have loop2 : ∀ (f : Nat) (i : Nat) (V : Nat → Nat), (i ≤ 12) → (V = ovw X (rcA T n) i) → 12 - i < f → GG p l e ({ frames := 2, cells := 0, slots := 0, locals := 42 } : Room) s m args below meth c (MQ below (va_Qv (fun _ : Unit => True) (BC D A (fun _ : Unit => [(w, .inr (3, [.ref wa, .ref wb, .int (nI z)])), (wa, .inl (E 0, 12, .inl (aN (rcX T n X)))), (wb, .inl (E 0, 12, .inl (aN Y))), (h, .inr (6, [.ref t, .ref u, .int (nI n)])), (t, .inl (E 0, 12, .inl (aN T))), (u, .inl (E 0, 12, .inl (aN U)))])) A) args s (({ frames := 2, cells := 0, slots := 0, locals := 42 } : Room)).cells (({ frames := 2, cells := 0, slots := 0, locals := 42 } : Room)).slots A) D A 4 0 0 2 [(0, .ref w), (1, .ref h), (2, .int (nI i))] [] [(w, .inr (3, [.ref wa, .ref wb, .int (nI z)])), (wa, .inl (E 0, 12, .inl (aN V))), (wb, .inl (E 0, 12, .inl (aN Y))), (h, .inr (6, [.ref t, .ref u, .int (nI n)])), (t, .inl (E 0, 12, .inl (aN T))), (u, .inl (E 0, 12, .inl (aN U)))] := by
    intro f
    induction f with
    | zero => intro i V hi hV hf; exact absurd hf (Nat.not_lt_zero _)
    | succ f ih =>
      intro i V hi hV hf
      have ih2 := ih
      refine g_iload_n C d_Rings_fillReach_2 rfl 2 rfl ?_
      refine g_bipush (v := nI 12) C d_Rings_fillReach_3 (by decide) ?_
      refine g_icmp_geN (tgt := 29) C (by omega) (by decide) d_Rings_fillReach_5 (by decide) (fun b0 => ?_) (fun b0 => ?_)
      · skip
        refine g_iconst (v := nI 0) C d_Rings_fillReach_29 (by decide) ?_
        refine g_istore_n (lv' := [(2, .int (nI 0)), (0, .ref w), (1, .ref h)]) C d_Rings_fillReach_30 rfl (by decide) rfl ?_
        have loop31 : ∀ (f : Nat) (b : Nat) (V2 : Nat → Nat), (b ≤ 12) → (V2 = rcB (ovw X (rcA T n) 12) 12 b) → 12 - b < f → GG p l e ({ frames := 2, cells := 0, slots := 0, locals := 42 } : Room) s m args below meth c (MQ below (va_Qv (fun _ : Unit => True) (BC D A (fun _ : Unit => [(w, .inr (3, [.ref wa, .ref wb, .int (nI z)])), (wa, .inl (E 0, 12, .inl (aN (rcX T n X)))), (wb, .inl (E 0, 12, .inl (aN Y))), (h, .inr (6, [.ref t, .ref u, .int (nI n)])), (t, .inl (E 0, 12, .inl (aN T))), (u, .inl (E 0, 12, .inl (aN U)))])) A) args s (({ frames := 2, cells := 0, slots := 0, locals := 42 } : Room)).cells (({ frames := 2, cells := 0, slots := 0, locals := 42 } : Room)).slots A) D A 4 0 0 31 [(0, .ref w), (1, .ref h), (2, .int (nI b))] [] [(w, .inr (3, [.ref wa, .ref wb, .int (nI z)])), (wa, .inl (E 0, 12, .inl (aN V2))), (wb, .inl (E 0, 12, .inl (aN Y))), (h, .inr (6, [.ref t, .ref u, .int (nI n)])), (t, .inl (E 0, 12, .inl (aN T))), (u, .inl (E 0, 12, .inl (aN U)))] := by
          intro f
          induction f with
          | zero => intro b V2 hb hV2 hf; exact absurd hf (Nat.not_lt_zero _)
          | succ f ih =>
            intro b V2 hb hV2 hf
            have ih31 := ih
            refine g_iload_n C d_Rings_fillReach_31 rfl 2 rfl ?_
            refine g_bipush (v := nI 12) C d_Rings_fillReach_32 (by decide) ?_
            refine g_icmp_geN (tgt := 85) C (by omega) (by decide) d_Rings_fillReach_34 (by decide) (fun b1 => ?_) (fun b1 => ?_)
            · skip
              exact g_vret C hrt hlk () (trivial) (by rw [hV2, show b = 12 by omega]; rfl) d_Rings_fillReach_85
            · skip
              refine g_iconst (v := nI 0) C d_Rings_fillReach_37 (by decide) ?_
              refine g_istore_n (lv' := [(3, .int (nI 0)), (0, .ref w), (1, .ref h), (2, .int (nI b))]) C d_Rings_fillReach_38 rfl (by decide) rfl ?_
              have loop39 : ∀ (f : Nat) (a : Nat) (V3 : Nat → Nat), (a ≤ 12) → (V3 = rcU (rcB (ovw X (rcA T n) 12) 12 b) b a) → 12 - a < f → GG p l e ({ frames := 2, cells := 0, slots := 0, locals := 42 } : Room) s m args below meth c (MQ below (va_Qv (fun _ : Unit => True) (BC D A (fun _ : Unit => [(w, .inr (3, [.ref wa, .ref wb, .int (nI z)])), (wa, .inl (E 0, 12, .inl (aN (rcX T n X)))), (wb, .inl (E 0, 12, .inl (aN Y))), (h, .inr (6, [.ref t, .ref u, .int (nI n)])), (t, .inl (E 0, 12, .inl (aN T))), (u, .inl (E 0, 12, .inl (aN U)))])) A) args s (({ frames := 2, cells := 0, slots := 0, locals := 42 } : Room)).cells (({ frames := 2, cells := 0, slots := 0, locals := 42 } : Room)).slots A) D A 4 0 0 39 [(0, .ref w), (1, .ref h), (2, .int (nI b)), (3, .int (nI a))] [] [(w, .inr (3, [.ref wa, .ref wb, .int (nI z)])), (wa, .inl (E 0, 12, .inl (aN V3))), (wb, .inl (E 0, 12, .inl (aN Y))), (h, .inr (6, [.ref t, .ref u, .int (nI n)])), (t, .inl (E 0, 12, .inl (aN T))), (u, .inl (E 0, 12, .inl (aN U)))] := by
                intro f
                induction f with
                | zero => intro a V3 ha hV3 hf; exact absurd hf (Nat.not_lt_zero _)
                | succ f ih =>
                  intro a V3 ha hV3 hf
                  have ih39 := ih
                  refine g_iload_n C d_Rings_fillReach_39 rfl 3 rfl ?_
                  refine g_bipush (v := nI 12) C d_Rings_fillReach_40 (by decide) ?_
                  refine g_icmp_geN (tgt := 79) C (by omega) (by decide) d_Rings_fillReach_42 (by decide) (fun b2 => ?_) (fun b2 => ?_)
                  · skip
                    refine g_iinc (lv' := [(2, .int (nI (b + 1))), (0, .ref w), (1, .ref h), (3, .int (nI a))]) C d_Rings_fillReach_79 2 rfl (nI_1 _) (by decide) rfl ?_
                    refine g_goto (tgt := 31) C d_Rings_fillReach_82 (by decide) ?_
                    refine g_perm [1, 2, 0] rfl ?_
                    exact ih31 (b + 1) V3 (by omega) (by rw [hV3, show a = 12 by omega]; rfl) (by omega)
                  · skip
                    refine g_iload_n C d_Rings_fillReach_45 rfl 2 rfl ?_
                    refine g_aload_n C d_Rings_fillReach_46 rfl 0 rfl ?_
                    refine g_get C lay_Rings 0 rfl rfl 0 (by decide) m_161 rfl d_Rings_fillReach_47 ?_
                    refine g_iload_n C d_Rings_fillReach_50 rfl 3 rfl ?_
                    refine g_ialdN C 1 rfl (by omega) (by decide) d_Rings_fillReach_51 ?_
                    refine g_top (show (aN V3) a = nI (V3 a) from rfl) ?_
                    refine g_iSN (rest := []) (wr := [(w, .inr (3, [.ref wa, .ref wb, .int (nI z)])), (wa, .inl (E 0, 12, .inl (aN V3))), (wb, .inl (E 0, 12, .inl (aN Y))), (h, .inr (6, [.ref t, .ref u, .int (nI n)])), (t, .inl (E 0, 12, .inl (aN T))), (u, .inl (E 0, 12, .inl (aN U)))]) C (c_isIn l D E b (V3 a) (by omega) (by rw [hV3]; exact lt4 (rcU_lt (by omega) (rcB_lt (fun a ha => by rw [ovw_lt ha]; exact rcA_lt hT ha) _ (by omega)) _ _ (by omega)))) rd_AB_isIn m_412 m_229 (Nat.le_of_ble_eq_true rfl) (Nat.le_of_ble_eq_true rfl) (Nat.le_of_ble_eq_true rfl) (Nat.le_of_ble_eq_true rfl) rfl rfl (Nat.le_of_ble_eq_true rfl) d_Rings_fillReach_52 [] [0, 1, 2, 3, 4, 5] rfl (by decide) rfl (by decide) (by decide) (fun r52 _ (hr52 : r52 = bI ((V3 a).testBit b)) => ?_)
                    subst hr52
                    refine g_cells (ws' := [(w, .inr (3, [.ref wa, .ref wb, .int (nI z)])), (wa, .inl (E 0, 12, .inl (aN V3))), (wb, .inl (E 0, 12, .inl (aN Y))), (h, .inr (6, [.ref t, .ref u, .int (nI n)])), (t, .inl (E 0, 12, .inl (aN T))), (u, .inl (E 0, 12, .inl (aN U)))]) [0, 1, 2, 3, 4, 5] (by decide) rfl ?_
                    refine g_if_eqB (tgt := 73) C d_Rings_fillReach_55 (by decide) (fun b3 => ?_) (fun b3 => ?_)
                    · skip
                      refine g_iinc (lv' := [(3, .int (nI (a + 1))), (0, .ref w), (1, .ref h), (2, .int (nI b))]) C d_Rings_fillReach_73 3 rfl (nI_1 _) (by decide) rfl ?_
                      refine g_goto (tgt := 39) C d_Rings_fillReach_76 (by decide) ?_
                      refine g_perm [1, 2, 3, 0] rfl ?_
                      exact ih39 (a + 1) V3 (by omega) (by simp only [rcU, ← hV3, b3]; rfl) (by omega)
                    · skip
                      refine g_aload_n C d_Rings_fillReach_58 rfl 0 rfl ?_
                      refine g_get C lay_Rings 0 rfl rfl 0 (by decide) m_161 rfl d_Rings_fillReach_59 ?_
                      refine g_iload_n C d_Rings_fillReach_62 rfl 3 rfl ?_
                      refine g_dup2 C d_Rings_fillReach_63 rfl rfl ?_
                      refine g_ialdN C 1 rfl (by omega) (by decide) d_Rings_fillReach_64 ?_
                      refine g_top (show (aN V3) a = nI (V3 a) from rfl) ?_
                      refine g_aload_n C d_Rings_fillReach_65 rfl 0 rfl ?_
                      refine g_get C lay_Rings 0 rfl rfl 0 (by decide) m_161 rfl d_Rings_fillReach_66 ?_
                      refine g_iload_n C d_Rings_fillReach_69 rfl 2 rfl ?_
                      refine g_ialdN C 1 rfl (by omega) (by decide) d_Rings_fillReach_70 ?_
                      refine g_top (show (aN V3) b = nI (V3 b) from rfl) ?_
                      refine g_iorN C d_Rings_fillReach_71 ?_
                      refine g_iastN (f' := aN (va_up V3 a ((V3 a) ||| (V3 b)))) (ws' := [(w, .inr (3, [.ref wa, .ref wb, .int (nI z)])), (wa, .inl (E 0, 12, .inl (aN (va_up V3 a ((V3 a) ||| (V3 b)))))), (wb, .inl (E 0, 12, .inl (aN Y))), (h, .inr (6, [.ref t, .ref u, .int (nI n)])), (t, .inl (E 0, 12, .inl (aN T))), (u, .inl (E 0, 12, .inl (aN U)))]) C 1 rfl (by omega) (by decide) (aN_up _ _ _) rfl d_Rings_fillReach_72 ?_
                      refine g_iinc (lv' := [(3, .int (nI (a + 1))), (0, .ref w), (1, .ref h), (2, .int (nI b))]) C d_Rings_fillReach_73 3 rfl (nI_1 _) (by decide) rfl ?_
                      refine g_goto (tgt := 39) C d_Rings_fillReach_76 (by decide) ?_
                      refine g_perm [1, 2, 3, 0] rfl ?_
                      exact ih39 (a + 1) (va_up V3 a ((V3 a) ||| (V3 b))) (by omega) (by simp only [rcU, ← hV3, b3]; rfl) (by omega)
              refine g_perm [1, 2, 3, 0] rfl ?_
              exact loop39 (12 - 0 + 1) 0 V2 (Nat.zero_le _) (hV2) (Nat.lt_succ_self _)
        refine g_perm [1, 2, 0] rfl ?_
        exact loop31 (12 - 0 + 1) 0 V (Nat.zero_le _) (by rw [hV, show i = 12 by omega]; rfl) (Nat.lt_succ_self _)
      · skip
        refine g_aload_n C d_Rings_fillReach_8 rfl 0 rfl ?_
        refine g_get C lay_Rings 0 rfl rfl 0 (by decide) m_161 rfl d_Rings_fillReach_9 ?_
        refine g_iload_n C d_Rings_fillReach_12 rfl 2 rfl ?_
        refine g_aload_n C d_Rings_fillReach_13 rfl 1 rfl ?_
        refine g_iload_n C d_Rings_fillReach_14 rfl 2 rfl ?_
        refine g_iV (rest := [.int (nI i), .ref wa]) (wr := [(w, .inr (3, [.ref wa, .ref wb, .int (nI z)])), (wa, .inl (E 0, 12, .inl (aN V))), (wb, .inl (E 0, 12, .inl (aN Y)))]) C (c_Web_targetsOfOne l D E h t u n T U i (by omega) (by omega)) rd_Web_targetsOfOne m_411 m_292 m_293 rfl rfl (Nat.le_of_ble_eq_true rfl) (Nat.le_of_ble_eq_true rfl) (Nat.le_of_ble_eq_true rfl) (Nat.le_of_ble_eq_true rfl) rfl rfl (Nat.le_of_ble_eq_true rfl) d_Rings_fillReach_15 [3, 4, 5] [0, 1, 2] rfl (by decide) rfl (by decide) (by decide) (fun r15 _ (hr15 : r15 = nI (if i < n then T i else 0)) => ?_)
        subst hr15
        refine g_cells (ws' := [(w, .inr (3, [.ref wa, .ref wb, .int (nI z)])), (wa, .inl (E 0, 12, .inl (aN V))), (wb, .inl (E 0, 12, .inl (aN Y))), (h, .inr (6, [.ref t, .ref u, .int (nI n)])), (t, .inl (E 0, 12, .inl (aN T))), (u, .inl (E 0, 12, .inl (aN U)))]) [0, 1, 2, 3, 4, 5] (by decide) rfl ?_
        refine g_iconst (v := nI 1) C d_Rings_fillReach_18 (by decide) ?_
        refine g_iload_n C d_Rings_fillReach_19 rfl 2 rfl ?_
        refine g_ishl1N C (by omega) d_Rings_fillReach_20 ?_
        refine g_iorN C d_Rings_fillReach_21 ?_
        refine g_iastN (f' := aN (va_up V i ((if i < n then T i else 0) ||| (2 ^ i)))) (ws' := [(w, .inr (3, [.ref wa, .ref wb, .int (nI z)])), (wa, .inl (E 0, 12, .inl (aN (va_up V i ((if i < n then T i else 0) ||| (2 ^ i)))))), (wb, .inl (E 0, 12, .inl (aN Y))), (h, .inr (6, [.ref t, .ref u, .int (nI n)])), (t, .inl (E 0, 12, .inl (aN T))), (u, .inl (E 0, 12, .inl (aN U)))]) C 1 rfl (by omega) (by decide) (aN_up _ _ _) rfl d_Rings_fillReach_22 ?_
        refine g_iinc (lv' := [(2, .int (nI (i + 1))), (0, .ref w), (1, .ref h)]) C d_Rings_fillReach_23 2 rfl (nI_1 _) (by decide) rfl ?_
        refine g_goto (tgt := 2) C d_Rings_fillReach_26 (by decide) ?_
        refine g_perm [1, 2, 0] rfl ?_
        exact ih2 (i + 1) (va_up V i ((if i < n then T i else 0) ||| (2 ^ i))) (by omega) (by rw [hV]; exact ovw_s X (rcA T n) i) (by omega)
  refine g_perm [1, 2, 0] rfl ?_
  exact loop2 (12 - 0 + 1) 0 X (Nat.zero_le _) ((ovw_0 _ _).symm) (Nat.lt_succ_self _)

set_option maxHeartbeats 4000000 in
set_option maxRecDepth 100000 in
theorem c_Ri_firstReady (l : Launch) (D : va_G) (E : Nat → ClassId) (w : Nat) (wa : Nat) (wb : Nat) (X : Nat → Nat) (Y : Nat → Nat) (z : Nat) (h : Nat) (t : Nat) (u : Nat) (n : Nat) (T : Nat → Nat) (U : Nat → Nat) (dn : Nat) (hn : n ≤ 12) (hU : ∀ a, U a < 4096) (hdn : dn < 4096) (hX : ∀ a, a < 12 → X a < 4096) : MI l D E y_Rings_firstReady (.code y_Rings_firstReady k_Rings_firstReady 5 (some .int)) ({ frames := 3, cells := 0, slots := 0, locals := 67 } : Room) [.ref w, .ref h, .int (nI dn)] [(w, .inr (3, [.ref wa, .ref wb, .int (nI z)])), (wa, .inl (E 0, 12, .inl (aN X))), (wb, .inl (E 0, 12, .inl (aN Y))), (h, .inr (6, [.ref t, .ref u, .int (nI n)])), (t, .inl (E 0, 12, .inl (aN T))), (u, .inl (E 0, 12, .inl (aN U)))] (fun (r : Int32) (_ : Unit) => r = nI (frd X U n dn n 0)) (fun _ : Unit => [(w, .inr (3, [.ref wa, .ref wb, .int (nI z)])), (wa, .inl (E 0, 12, .inl (aN X))), (wb, .inl (E 0, 12, .inl (aN Y))), (h, .inr (6, [.ref t, .ref u, .int (nI n)])), (t, .inl (E 0, 12, .inl (aN T))), (u, .inl (E 0, 12, .inl (aN U)))]) := by
  refine MI.of (by decide) (Nat.le_of_ble_eq_true rfl) ?_
  intro p e s m args below meth c A C hrt hlk hnm
  refine g_lv (lv' := [(0, .ref w), (1, .ref h), (2, .int (nI dn))]) rfl ?_
  refine g_iconst (v := nI 0) C d_Rings_firstReady_0 (by decide) ?_
  refine g_istore_n (lv' := [(3, .int (nI 0)), (0, .ref w), (1, .ref h), (2, .int (nI dn))]) C d_Rings_firstReady_1 rfl (by decide) rfl ?_
  have loop2 : ∀ (f : Nat) (a : Nat), (a ≤ n) → (frd X U n dn (n - a) a = frd X U n dn n 0) → n - a < f → GG p l e ({ frames := 3, cells := 0, slots := 0, locals := 67 } : Room) s m args below meth c (MQ below (va_Qi (fun (r : Int32) (_ : Unit) => r = nI (frd X U n dn n 0)) (BC D A (fun _ : Unit => [(w, .inr (3, [.ref wa, .ref wb, .int (nI z)])), (wa, .inl (E 0, 12, .inl (aN X))), (wb, .inl (E 0, 12, .inl (aN Y))), (h, .inr (6, [.ref t, .ref u, .int (nI n)])), (t, .inl (E 0, 12, .inl (aN T))), (u, .inl (E 0, 12, .inl (aN U)))])) A) args s (({ frames := 3, cells := 0, slots := 0, locals := 67 } : Room)).cells (({ frames := 3, cells := 0, slots := 0, locals := 67 } : Room)).slots A) D A 5 0 0 2 [(0, .ref w), (1, .ref h), (2, .int (nI dn)), (3, .int (nI a))] [] [(w, .inr (3, [.ref wa, .ref wb, .int (nI z)])), (wa, .inl (E 0, 12, .inl (aN X))), (wb, .inl (E 0, 12, .inl (aN Y))), (h, .inr (6, [.ref t, .ref u, .int (nI n)])), (t, .inl (E 0, 12, .inl (aN T))), (u, .inl (E 0, 12, .inl (aN U)))] := by
    intro f
    induction f with
    | zero => intro a ha hF hf; exact absurd hf (Nat.not_lt_zero _)
    | succ f ih =>
      intro a ha hF hf
      have ih2 := ih
      refine g_iload_n C d_Rings_firstReady_2 rfl 3 rfl ?_
      refine g_aload_n C d_Rings_firstReady_3 rfl 1 rfl ?_
      refine g_iV (rest := [.int (nI a)]) (wr := [(w, .inr (3, [.ref wa, .ref wb, .int (nI z)])), (wa, .inl (E 0, 12, .inl (aN X))), (wb, .inl (E 0, 12, .inl (aN Y)))]) C (c_Web_size l D E h t u n T U ) rd_Web_size m_413 m_252 m_253 rfl rfl (Nat.le_of_ble_eq_true rfl) (Nat.le_of_ble_eq_true rfl) (Nat.le_of_ble_eq_true rfl) (Nat.le_of_ble_eq_true rfl) rfl rfl (Nat.le_of_ble_eq_true rfl) d_Rings_firstReady_4 [3, 4, 5] [0, 1, 2] rfl (by decide) rfl (by decide) (by decide) (fun r4 _ (hr4 : r4 = nI n) => ?_)
      subst hr4
      refine g_cells (ws' := [(w, .inr (3, [.ref wa, .ref wb, .int (nI z)])), (wa, .inl (E 0, 12, .inl (aN X))), (wb, .inl (E 0, 12, .inl (aN Y))), (h, .inr (6, [.ref t, .ref u, .int (nI n)])), (t, .inl (E 0, 12, .inl (aN T))), (u, .inl (E 0, 12, .inl (aN U)))]) [0, 1, 2, 3, 4, 5] (by decide) rfl ?_
      refine g_icmp_geN (tgt := 54) C (by omega) (by omega) d_Rings_firstReady_7 (by decide) (fun b0 => ?_) (fun b0 => ?_)
      · skip
        refine g_iconst (v := nI 0) C d_Rings_firstReady_54 (by decide) ?_
        exact g_iret C hrt hlk () ((by rw [frd_e hF b0])) rfl d_Rings_firstReady_55
      · skip
        refine g_iload_n C d_Rings_firstReady_10 rfl 3 rfl ?_
        refine g_iload_n C d_Rings_firstReady_11 rfl 2 rfl ?_
        refine g_iSN (rest := []) (wr := [(w, .inr (3, [.ref wa, .ref wb, .int (nI z)])), (wa, .inl (E 0, 12, .inl (aN X))), (wb, .inl (E 0, 12, .inl (aN Y))), (h, .inr (6, [.ref t, .ref u, .int (nI n)])), (t, .inl (E 0, 12, .inl (aN T))), (u, .inl (E 0, 12, .inl (aN U)))]) C (c_isIn l D E a dn (by omega) (lt4 hdn)) rd_AB_isIn m_412 m_229 (Nat.le_of_ble_eq_true rfl) (Nat.le_of_ble_eq_true rfl) (Nat.le_of_ble_eq_true rfl) (Nat.le_of_ble_eq_true rfl) rfl rfl (Nat.le_of_ble_eq_true rfl) d_Rings_firstReady_12 [] [0, 1, 2, 3, 4, 5] rfl (by decide) rfl (by decide) (by decide) (fun r12 _ (hr12 : r12 = bI (dn.testBit a)) => ?_)
        subst hr12
        refine g_cells (ws' := [(w, .inr (3, [.ref wa, .ref wb, .int (nI z)])), (wa, .inl (E 0, 12, .inl (aN X))), (wb, .inl (E 0, 12, .inl (aN Y))), (h, .inr (6, [.ref t, .ref u, .int (nI n)])), (t, .inl (E 0, 12, .inl (aN T))), (u, .inl (E 0, 12, .inl (aN U)))]) [0, 1, 2, 3, 4, 5] (by decide) rfl ?_
        refine g_if_neB (tgt := 48) C d_Rings_firstReady_15 (by decide) (fun b1 => ?_) (fun b1 => ?_)
        · skip
          refine g_iinc (lv' := [(3, .int (nI (a + 1))), (0, .ref w), (1, .ref h), (2, .int (nI dn))]) C d_Rings_firstReady_48 3 rfl (nI_1 _) (by decide) rfl ?_
          refine g_goto (tgt := 2) C d_Rings_firstReady_51 (by decide) ?_
          refine g_perm [1, 2, 3, 0] rfl ?_
          exact ih2 (a + 1) (by omega) (by first | exact frd_n1 hF b0 b1 | exact frd_n2 hF b0 b2) (by omega)
        · skip
          refine g_aload_n C d_Rings_firstReady_18 rfl 0 rfl ?_
          refine g_iload_n C d_Rings_firstReady_19 rfl 3 rfl ?_
          refine g_aload_n C d_Rings_firstReady_20 rfl 1 rfl ?_
          refine g_iV (rest := [.int (nI a), .ref w]) (wr := [(w, .inr (3, [.ref wa, .ref wb, .int (nI z)])), (wa, .inl (E 0, 12, .inl (aN X))), (wb, .inl (E 0, 12, .inl (aN Y)))]) C (c_Web_size l D E h t u n T U ) rd_Web_size m_413 m_252 m_253 rfl rfl (Nat.le_of_ble_eq_true rfl) (Nat.le_of_ble_eq_true rfl) (Nat.le_of_ble_eq_true rfl) (Nat.le_of_ble_eq_true rfl) rfl rfl (Nat.le_of_ble_eq_true rfl) d_Rings_firstReady_21 [3, 4, 5] [0, 1, 2] rfl (by decide) rfl (by decide) (by decide) (fun r21 _ (hr21 : r21 = nI n) => ?_)
          subst hr21
          refine g_cells (ws' := [(w, .inr (3, [.ref wa, .ref wb, .int (nI z)])), (wa, .inl (E 0, 12, .inl (aN X))), (wb, .inl (E 0, 12, .inl (aN Y))), (h, .inr (6, [.ref t, .ref u, .int (nI n)])), (t, .inl (E 0, 12, .inl (aN T))), (u, .inl (E 0, 12, .inl (aN U)))]) [0, 1, 2, 3, 4, 5] (by decide) rfl ?_
          refine g_iV (rest := []) (wr := [(h, .inr (6, [.ref t, .ref u, .int (nI n)])), (t, .inl (E 0, 12, .inl (aN T))), (u, .inl (E 0, 12, .inl (aN U)))]) C (c_Ri_around12 l D E w wa wb X Y z a n hn (by omega) hX) rd_Rings_around m_418 m_420 m_14 rfl rfl (Nat.le_of_ble_eq_true rfl) (Nat.le_of_ble_eq_true rfl) (Nat.le_of_ble_eq_true rfl) (Nat.le_of_ble_eq_true rfl) rfl rfl (Nat.le_of_ble_eq_true rfl) d_Rings_firstReady_24 [0, 1, 2] [3, 4, 5] rfl (by decide) rfl (by decide) (by decide) (fun r24 _ (hr24 : r24 = nI (arU X a n)) => ?_)
          subst hr24
          refine g_cells (ws' := [(w, .inr (3, [.ref wa, .ref wb, .int (nI z)])), (wa, .inl (E 0, 12, .inl (aN X))), (wb, .inl (E 0, 12, .inl (aN Y))), (h, .inr (6, [.ref t, .ref u, .int (nI n)])), (t, .inl (E 0, 12, .inl (aN T))), (u, .inl (E 0, 12, .inl (aN U)))]) [3, 4, 5, 0, 1, 2] (by decide) rfl ?_
          refine g_istore (lv' := [(4, .int (nI (arU X a n))), (0, .ref w), (1, .ref h), (2, .int (nI dn)), (3, .int (nI a))]) C d_Rings_firstReady_27 (by decide) rfl ?_
          refine g_aload_n C d_Rings_firstReady_29 rfl 2 rfl ?_
          refine g_iload C d_Rings_firstReady_30 0 rfl ?_
          refine g_iV (rest := []) (wr := [(w, .inr (3, [.ref wa, .ref wb, .int (nI z)])), (wa, .inl (E 0, 12, .inl (aN X))), (wb, .inl (E 0, 12, .inl (aN Y)))]) C (c_Web_attackersOf l D E h t u n T U (arU X a n) hn (lt4 (arU_lt hn)) hU) rd_Web_attackersOf m_426 m_427 m_428 rfl rfl (Nat.le_of_ble_eq_true rfl) (Nat.le_of_ble_eq_true rfl) (Nat.le_of_ble_eq_true rfl) (Nat.le_of_ble_eq_true rfl) rfl rfl (Nat.le_of_ble_eq_true rfl) d_Rings_firstReady_32 [3, 4, 5] [0, 1, 2] rfl (by decide) rfl (by decide) (by decide) (fun r32 _ (hr32 : r32 = nI (tgU U (arU X a n) n)) => ?_)
          subst hr32
          refine g_cells (ws' := [(w, .inr (3, [.ref wa, .ref wb, .int (nI z)])), (wa, .inl (E 0, 12, .inl (aN X))), (wb, .inl (E 0, 12, .inl (aN Y))), (h, .inr (6, [.ref t, .ref u, .int (nI n)])), (t, .inl (E 0, 12, .inl (aN T))), (u, .inl (E 0, 12, .inl (aN U)))]) [0, 1, 2, 3, 4, 5] (by decide) rfl ?_
          refine g_iload C d_Rings_firstReady_35 0 rfl ?_
          refine g_iload_n C d_Rings_firstReady_37 rfl 3 rfl ?_
          refine g_iorN C d_Rings_firstReady_38 ?_
          refine g_iSN (rest := []) (wr := [(w, .inr (3, [.ref wa, .ref wb, .int (nI z)])), (wa, .inl (E 0, 12, .inl (aN X))), (wb, .inl (E 0, 12, .inl (aN Y))), (h, .inr (6, [.ref t, .ref u, .int (nI n)])), (t, .inl (E 0, 12, .inl (aN T))), (u, .inl (E 0, 12, .inl (aN U)))]) C (c_isWithinN l D E (tgU U (arU X a n) n) ((arU X a n) ||| dn) (lt4 (tgU_lt hU _ _))) rd_AB_isWithin m_430 m_268 (Nat.le_of_ble_eq_true rfl) (Nat.le_of_ble_eq_true rfl) (Nat.le_of_ble_eq_true rfl) (Nat.le_of_ble_eq_true rfl) rfl rfl (Nat.le_of_ble_eq_true rfl) d_Rings_firstReady_39 [] [0, 1, 2, 3, 4, 5] rfl (by decide) rfl (by decide) (by decide) (fun r39 _ (hr39 : r39 = bI (dif (tgU U (arU X a n) n) ((arU X a n) ||| dn) == 0)) => ?_)
          subst hr39
          refine g_cells (ws' := [(w, .inr (3, [.ref wa, .ref wb, .int (nI z)])), (wa, .inl (E 0, 12, .inl (aN X))), (wb, .inl (E 0, 12, .inl (aN Y))), (h, .inr (6, [.ref t, .ref u, .int (nI n)])), (t, .inl (E 0, 12, .inl (aN T))), (u, .inl (E 0, 12, .inl (aN U)))]) [0, 1, 2, 3, 4, 5] (by decide) rfl ?_
          refine g_if_eqB (tgt := 48) C d_Rings_firstReady_42 (by decide) (fun b2 => ?_) (fun b2 => ?_)
          · skip
            refine g_iinc (lv' := [(3, .int (nI (a + 1))), (4, .int (nI (arU X a n))), (0, .ref w), (1, .ref h), (2, .int (nI dn))]) C d_Rings_firstReady_48 4 rfl (nI_1 _) (by decide) rfl ?_
            refine g_goto (tgt := 2) C d_Rings_firstReady_51 (by decide) ?_
            refine g_perm [2, 3, 4, 0] rfl ?_
            exact ih2 (a + 1) (by omega) (by first | exact frd_n1 hF b0 b1 | exact frd_n2 hF b0 b2) (by omega)
          · skip
            refine g_iload C d_Rings_firstReady_45 0 rfl ?_
            exact g_iret C hrt hlk () ((by rw [frd_y hF b0 b1 b2])) rfl d_Rings_firstReady_47
  refine g_perm [1, 2, 3, 0] rfl ?_
  exact loop2 (n - 0 + 1) 0 (Nat.zero_le _) (rfl) (Nat.lt_succ_self _)

set_option maxHeartbeats 4000000 in
set_option maxRecDepth 100000 in
theorem c_Ri_find (l : Launch) (D : va_G) (E : Nat → ClassId) (w : Nat) (wa : Nat) (wb : Nat) (X : Nat → Nat) (Y : Nat → Nat) (z : Nat) (h : Nat) (t : Nat) (u : Nat) (n : Nat) (T : Nat → Nat) (U : Nat → Nat) (hn : n ≤ 12) (hT : ∀ a, T a < 4096) (hU : ∀ a, U a < 4096) : MV l D E y_Rings_find (.code y_Rings_find k_Rings_find 5 none) ({ frames := 4, cells := 0, slots := 0, locals := 91 } : Room) [.ref w, .ref h] [(w, .inr (3, [.ref wa, .ref wb, .int (nI z)])), (wa, .inl (E 0, 12, .inl (aN X))), (wb, .inl (E 0, 12, .inl (aN Y))), (h, .inr (6, [.ref t, .ref u, .int (nI n)])), (t, .inl (E 0, 12, .inl (aN T))), (u, .inl (E 0, 12, .inl (aN U)))] (fun _ : Unit => True) (fun _ : Unit => [(w, .inr (3, [.ref wa, .ref wb, .int (nI ((fnd (rcX T n X) U n Y n).2.1))])), (wa, .inl (E 0, 12, .inl (aN (rcX T n X)))), (wb, .inl (E 0, 12, .inl (aN ((fnd (rcX T n X) U n Y n).1)))), (h, .inr (6, [.ref t, .ref u, .int (nI n)])), (t, .inl (E 0, 12, .inl (aN T))), (u, .inl (E 0, 12, .inl (aN U)))]) := by
  refine MV.of (by decide) (Nat.le_of_ble_eq_true rfl) ?_
  intro p e s m args below meth c A C hrt hlk hnm
  refine g_lv (lv' := [(0, .ref w), (1, .ref h)]) rfl ?_
  refine g_aload_n C d_Rings_find_0 rfl 0 rfl ?_
  refine g_aload_n C d_Rings_find_1 rfl 1 rfl ?_
  refine g_vV (rest := []) (wr := []) C (c_Ri_fillReach l D E w wa wb X Y z h t u n T U (by omega) hT) rd_Rings_fillReach m_407 m_409 m_12 rfl rfl (Nat.le_of_ble_eq_true rfl) (Nat.le_of_ble_eq_true rfl) (Nat.le_of_ble_eq_true rfl) (Nat.le_of_ble_eq_true rfl) rfl rfl (Nat.le_of_ble_eq_true rfl) d_Rings_find_2 [0, 1, 2, 3, 4, 5] [] rfl (by decide) rfl (by decide) (by decide) (fun _ _ => ?_)
  refine g_cells (ws' := [(w, .inr (3, [.ref wa, .ref wb, .int (nI z)])), (wa, .inl (E 0, 12, .inl (aN (rcX T n X)))), (wb, .inl (E 0, 12, .inl (aN Y))), (h, .inr (6, [.ref t, .ref u, .int (nI n)])), (t, .inl (E 0, 12, .inl (aN T))), (u, .inl (E 0, 12, .inl (aN U)))]) [0, 1, 2, 3, 4, 5] (by decide) rfl ?_
  refine g_aload_n C d_Rings_find_5 rfl 0 rfl ?_
  refine g_iconst (v := nI 0) C d_Rings_find_6 (by decide) ?_
  refine g_put (ws' := [(w, .inr (3, [.ref wa, .ref wb, .int (nI 0)])), (wa, .inl (E 0, 12, .inl (aN (rcX T n X)))), (wb, .inl (E 0, 12, .inl (aN Y))), (h, .inr (6, [.ref t, .ref u, .int (nI n)])), (t, .inl (E 0, 12, .inl (aN T))), (u, .inl (E 0, 12, .inl (aN U)))]) C lay_Rings ty_Rings nm_Rings 0 rfl rfl 2 (by decide) m_163 rfl rfl rfl (Nat.le_of_ble_eq_true rfl) rfl d_Rings_find_7 ?_
  refine g_iconst (v := nI 0) C d_Rings_find_10 (by decide) ?_
  refine g_istore_n (lv' := [(2, .int (nI 0)), (0, .ref w), (1, .ref h)]) C d_Rings_find_11 rfl (by decide) rfl ?_
  refine g_iconst (v := nI 0) C d_Rings_find_12 (by decide) ?_
  refine g_istore_n (lv' := [(3, .int (nI 0)), (2, .int (nI 0)), (0, .ref w), (1, .ref h)]) C d_Rings_find_13 rfl (by decide) rfl ?_
  have loop14 : ∀ (f : Nat) (k : Nat) (V : Nat → Nat) (z2 : Nat) (dn : Nat), (k ≤ n) → (fnd (rcX T n X) U n Y k = (V, z2, dn)) → n - k < f → GG p l e ({ frames := 4, cells := 0, slots := 0, locals := 91 } : Room) s m args below meth c (MQ below (va_Qv (fun _ : Unit => True) (BC D A (fun _ : Unit => [(w, .inr (3, [.ref wa, .ref wb, .int (nI ((fnd (rcX T n X) U n Y n).2.1))])), (wa, .inl (E 0, 12, .inl (aN (rcX T n X)))), (wb, .inl (E 0, 12, .inl (aN ((fnd (rcX T n X) U n Y n).1)))), (h, .inr (6, [.ref t, .ref u, .int (nI n)])), (t, .inl (E 0, 12, .inl (aN T))), (u, .inl (E 0, 12, .inl (aN U)))])) A) args s (({ frames := 4, cells := 0, slots := 0, locals := 91 } : Room)).cells (({ frames := 4, cells := 0, slots := 0, locals := 91 } : Room)).slots A) D A 5 0 0 14 [(0, .ref w), (1, .ref h), (2, .int (nI dn)), (3, .int (nI k))] [] [(w, .inr (3, [.ref wa, .ref wb, .int (nI z2)])), (wa, .inl (E 0, 12, .inl (aN (rcX T n X)))), (wb, .inl (E 0, 12, .inl (aN V))), (h, .inr (6, [.ref t, .ref u, .int (nI n)])), (t, .inl (E 0, 12, .inl (aN T))), (u, .inl (E 0, 12, .inl (aN U)))] := by
    intro f
    induction f with
    | zero => intro k V z2 dn hk hF hf; exact absurd hf (Nat.not_lt_zero _)
    | succ f ih =>
      intro k V z2 dn hk hF hf
      have ih14 := ih
      refine g_iload_n C d_Rings_find_14 rfl 3 rfl ?_
      refine g_aload_n C d_Rings_find_15 rfl 1 rfl ?_
      refine g_iV (rest := [.int (nI k)]) (wr := [(w, .inr (3, [.ref wa, .ref wb, .int (nI z2)])), (wa, .inl (E 0, 12, .inl (aN (rcX T n X)))), (wb, .inl (E 0, 12, .inl (aN V)))]) C (c_Web_size l D E h t u n T U ) rd_Web_size m_413 m_252 m_253 rfl rfl (Nat.le_of_ble_eq_true rfl) (Nat.le_of_ble_eq_true rfl) (Nat.le_of_ble_eq_true rfl) (Nat.le_of_ble_eq_true rfl) rfl rfl (Nat.le_of_ble_eq_true rfl) d_Rings_find_16 [3, 4, 5] [0, 1, 2] rfl (by decide) rfl (by decide) (by decide) (fun r16 _ (hr16 : r16 = nI n) => ?_)
      subst hr16
      refine g_cells (ws' := [(w, .inr (3, [.ref wa, .ref wb, .int (nI z2)])), (wa, .inl (E 0, 12, .inl (aN (rcX T n X)))), (wb, .inl (E 0, 12, .inl (aN V))), (h, .inr (6, [.ref t, .ref u, .int (nI n)])), (t, .inl (E 0, 12, .inl (aN T))), (u, .inl (E 0, 12, .inl (aN U)))]) [0, 1, 2, 3, 4, 5] (by decide) rfl ?_
      refine g_icmp_geN (tgt := 47) C (by omega) (by omega) d_Rings_find_19 (by decide) (fun b0 => ?_) (fun b0 => ?_)
      · skip
        exact g_vret C hrt hlk () (trivial) (by rw [show k = n by omega] at hF; rw [hF]) d_Rings_find_47
      · skip
        refine g_aload_n C d_Rings_find_22 rfl 0 rfl ?_
        refine g_aload_n C d_Rings_find_23 rfl 1 rfl ?_
        refine g_iload_n C d_Rings_find_24 rfl 2 rfl ?_
        refine g_iV (rest := []) (wr := []) C (c_Ri_firstReady l D E w wa wb (rcX T n X) V z2 h t u n T U dn hn hU (by have := fnd_dn (X := rcX T n X) (U := U) (Y := Y) hn k; rw [hF] at this; exact this) (rcX_lt hT)) rd_Rings_firstReady m_414 m_416 m_13 rfl rfl (Nat.le_of_ble_eq_true rfl) (Nat.le_of_ble_eq_true rfl) (Nat.le_of_ble_eq_true rfl) (Nat.le_of_ble_eq_true rfl) rfl rfl (Nat.le_of_ble_eq_true rfl) d_Rings_find_25 [0, 1, 2, 3, 4, 5] [] rfl (by decide) rfl (by decide) (by decide) (fun r25 _ (hr25 : r25 = nI (frd (rcX T n X) U n dn n 0)) => ?_)
        subst hr25
        refine g_cells (ws' := [(w, .inr (3, [.ref wa, .ref wb, .int (nI z2)])), (wa, .inl (E 0, 12, .inl (aN (rcX T n X)))), (wb, .inl (E 0, 12, .inl (aN V))), (h, .inr (6, [.ref t, .ref u, .int (nI n)])), (t, .inl (E 0, 12, .inl (aN T))), (u, .inl (E 0, 12, .inl (aN U)))]) [0, 1, 2, 3, 4, 5] (by decide) rfl ?_
        refine g_istore (lv' := [(4, .int (nI (frd (rcX T n X) U n dn n 0))), (0, .ref w), (1, .ref h), (2, .int (nI dn)), (3, .int (nI k))]) C d_Rings_find_28 (by decide) rfl ?_
        refine g_aload_n C d_Rings_find_30 rfl 1 rfl ?_
        refine g_iload C d_Rings_find_31 0 rfl ?_
        refine g_vV (rest := []) (wr := [(h, .inr (6, [.ref t, .ref u, .int (nI n)])), (t, .inl (E 0, 12, .inl (aN T))), (u, .inl (E 0, 12, .inl (aN U)))]) C (c_Ri_number l D E w wa wb (rcX T n X) V z2 (frd (rcX T n X) U n dn n 0) (lt4 (frd_lt hn _ _))) rd_Rings_number m_431 m_433 m_16 rfl rfl (Nat.le_of_ble_eq_true rfl) (Nat.le_of_ble_eq_true rfl) (Nat.le_of_ble_eq_true rfl) (Nat.le_of_ble_eq_true rfl) rfl rfl (Nat.le_of_ble_eq_true rfl) d_Rings_find_33 [0, 1, 2] [3, 4, 5] rfl (by decide) rfl (by decide) (by decide) (fun _ _ => ?_)
        refine g_cells (ws' := [(w, .inr (3, [.ref wa, .ref wb, .int (nI (if (frd (rcX T n X) U n dn n 0) = 0 then z2 else z2 + 1))])), (wa, .inl (E 0, 12, .inl (aN (rcX T n X)))), (wb, .inl (E 0, 12, .inl (aN (if (frd (rcX T n X) U n dn n 0) = 0 then V else nbU V (frd (rcX T n X) U n dn n 0) z2)))), (h, .inr (6, [.ref t, .ref u, .int (nI n)])), (t, .inl (E 0, 12, .inl (aN T))), (u, .inl (E 0, 12, .inl (aN U)))]) [3, 4, 5, 0, 1, 2] (by decide) rfl ?_
        refine g_iload_n C d_Rings_find_36 rfl 3 rfl ?_
        refine g_iload C d_Rings_find_37 0 rfl ?_
        refine g_iorN C d_Rings_find_39 ?_
        refine g_istore_n (lv' := [(2, .int (nI (dn ||| (frd (rcX T n X) U n dn n 0)))), (4, .int (nI (frd (rcX T n X) U n dn n 0))), (0, .ref w), (1, .ref h), (3, .int (nI k))]) C d_Rings_find_40 rfl (by decide) rfl ?_
        refine g_iinc (lv' := [(3, .int (nI (k + 1))), (2, .int (nI (dn ||| (frd (rcX T n X) U n dn n 0)))), (4, .int (nI (frd (rcX T n X) U n dn n 0))), (0, .ref w), (1, .ref h)]) C d_Rings_find_41 4 rfl (nI_1 _) (by decide) rfl ?_
        refine g_goto (tgt := 14) C d_Rings_find_44 (by decide) ?_
        refine g_perm [3, 4, 1, 0] rfl ?_
        exact ih14 (k + 1) (if (frd (rcX T n X) U n dn n 0) = 0 then V else nbU V (frd (rcX T n X) U n dn n 0) z2) (if (frd (rcX T n X) U n dn n 0) = 0 then z2 else z2 + 1) (dn ||| (frd (rcX T n X) U n dn n 0)) (by omega) (by simp only [fnd, hF]) (by omega)
  refine g_perm [2, 3, 1, 0] rfl ?_
  exact loop14 (n - 0 + 1) 0 Y 0 0 (Nat.zero_le _) (rfl) (Nat.lt_succ_self _)

set_option maxHeartbeats 4000000 in
set_option maxRecDepth 100000 in
theorem c_Tk_tell (l : Launch) (D : va_G) (E : Nat → ClassId) (v : Nat) (va : Nat) (vb : Nat) (vc : Nat) (Sa : Nat → Nat) (An : Nat → Int32) (Sd : Nat → Nat) (z : Nat) (tl : Bool) (x : Int32) (y : Int32) (hz : z ≤ 500) : MI l D E y_Talk_tell (.code y_Talk_tell k_Talk_tell 3 (some .int)) ({ frames := 0, cells := 0, slots := 0, locals := 0 } : Room) [.ref v, .int x, .int y] [(v, .inr (5, [.ref va, .ref vb, .ref vc, .int (nI z), .int (bI tl)])), (va, .inl (E 0, 500, .inl (aN Sa))), (vb, .inl (E 0, 500, .inl An)), (vc, .inl (E 0, 500, .inl (aN Sd)))] (fun (r : Int32) (_ : Unit) => r = tellF z Sa An Sd x y) (fun _ : Unit => [(v, .inr (5, [.ref va, .ref vb, .ref vc, .int (nI z), .int (bI tl)])), (va, .inl (E 0, 500, .inl (aN Sa))), (vb, .inl (E 0, 500, .inl An)), (vc, .inl (E 0, 500, .inl (aN Sd)))]) := by
  refine MI.of (by decide) (Nat.le_of_ble_eq_true rfl) ?_
  intro p e s m args below meth c A C hrt hlk hnm
  refine g_lv (lv' := [(0, .ref v), (1, .int x), (2, .int y)]) rfl ?_
  refine g_iload_n C d_Talk_tell_0 rfl 1 rfl ?_
  refine g_if_lt (tgt := 19) C d_Talk_tell_1 (by decide) (fun b0 => ?_) (fun b0 => ?_)
  · skip
    refine g_iconst (v := (-1)) C d_Talk_tell_19 (by decide) ?_
    exact g_iret C hrt hlk () ((by rw [tellF_no (by simp_all [inR])])) rfl d_Talk_tell_20
  · skip
    refine g_iload_n C d_Talk_tell_4 rfl 1 rfl ?_
    refine g_aload_n C d_Talk_tell_5 rfl 0 rfl ?_
    refine g_get C lay_Talk 0 rfl rfl 3 (by decide) m_142 rfl d_Talk_tell_6 ?_
    refine g_icmp_ge (tgt := 19) C d_Talk_tell_9 (by decide) (fun b1 => ?_) (fun b1 => ?_)
    · skip
      refine g_iconst (v := (-1)) C d_Talk_tell_19 (by decide) ?_
      exact g_iret C hrt hlk () ((by rw [tellF_no (by simp_all [inR])])) rfl d_Talk_tell_20
    · skip
      refine g_iload_n C d_Talk_tell_12 rfl 1 rfl ?_
      refine g_sipush (v := nI 500) C d_Talk_tell_13 (by decide) ?_
      refine g_icmp_lt (tgt := 21) C d_Talk_tell_16 (by decide) (fun b2 => ?_) (fun b2 => ?_)
      · skip
        refine g_iload_n C d_Talk_tell_21 rfl 2 rfl ?_
        obtain ⟨j, hj, rfl⟩ := inR_of (x := x) (n := z) (by simp_all [inR])
        by_cases sw0_0 : y = 0
        · skip
          refine g_tsIn (tgt := 48) (off := 26) C 0 (by decide) (sw0_0.trans (by decide)) d_Talk_tell_22 (by decide) (by decide) (by decide) ?_
          refine g_aload_n C d_Talk_tell_48 rfl 0 rfl ?_
          refine g_get C lay_Talk 0 rfl rfl 0 (by decide) m_139 rfl d_Talk_tell_49 ?_
          refine g_iload_n C d_Talk_tell_52 rfl 1 rfl ?_
          refine g_ialdN C 1 rfl (by omega) (by decide) d_Talk_tell_53 ?_
          refine g_top (show (aN Sa) j = nI (Sa j) from rfl) ?_
          exact g_iret C hrt hlk () ((by simp only [tellF, inR_nI (show j < 2 ^ 31 by omega) (show z < 2 ^ 31 by omega), nI_clamp (show j < 2 ^ 31 by omega), hj, decide_true, if_true]; rw [if_pos sw0_0])) rfl d_Talk_tell_54
        by_cases sw0_1 : y = 1
        · skip
          refine g_tsIn (tgt := 55) (off := 33) C 1 (by decide) (sw0_1.trans (by decide)) d_Talk_tell_22 (by decide) (by decide) (by decide) ?_
          refine g_aload_n C d_Talk_tell_55 rfl 0 rfl ?_
          refine g_get C lay_Talk 0 rfl rfl 1 (by decide) m_140 rfl d_Talk_tell_56 ?_
          refine g_iload_n C d_Talk_tell_59 rfl 1 rfl ?_
          refine g_ialdN C 2 rfl (by omega) (by decide) d_Talk_tell_60 ?_
          exact g_iret C hrt hlk () ((by simp only [tellF, inR_nI (show j < 2 ^ 31 by omega) (show z < 2 ^ 31 by omega), nI_clamp (show j < 2 ^ 31 by omega), hj, decide_true, if_true]; rw [if_neg sw0_0, if_pos sw0_1])) rfl d_Talk_tell_61
        by_cases sw0_2 : y = 2
        · skip
          refine g_tsIn (tgt := 62) (off := 40) C 2 (by decide) (sw0_2.trans (by decide)) d_Talk_tell_22 (by decide) (by decide) (by decide) ?_
          refine g_aload_n C d_Talk_tell_62 rfl 0 rfl ?_
          refine g_get C lay_Talk 0 rfl rfl 2 (by decide) m_141 rfl d_Talk_tell_63 ?_
          refine g_iload_n C d_Talk_tell_66 rfl 1 rfl ?_
          refine g_ialdN C 3 rfl (by omega) (by decide) d_Talk_tell_67 ?_
          refine g_top (show (aN Sd) j = nI (Sd j) from rfl) ?_
          exact g_iret C hrt hlk () ((by simp only [tellF, inR_nI (show j < 2 ^ 31 by omega) (show z < 2 ^ 31 by omega), nI_clamp (show j < 2 ^ 31 by omega), hj, decide_true, if_true]; rw [if_neg sw0_0, if_neg sw0_1, if_pos sw0_2])) rfl d_Talk_tell_68
        refine g_tsOut (tgt := 69) C d_Talk_tell_22 (fun j hj q => sw_no j (by omega) q sw0_0 sw0_1 sw0_2) (by decide) ?_
        refine g_iconst (v := (-1)) C d_Talk_tell_69 (by decide) ?_
        exact g_iret C hrt hlk () ((by simp only [tellF, inR_nI (show j < 2 ^ 31 by omega) (show z < 2 ^ 31 by omega), nI_clamp (show j < 2 ^ 31 by omega), hj, decide_true, if_true]; rw [if_neg sw0_0, if_neg sw0_1, if_neg sw0_2])) rfl d_Talk_tell_70
      · skip
        obtain ⟨j, hj, rfl⟩ := inR_of (x := x) (n := z) (by simp_all [inR]); exact absurd ((nI_ltI (by omega) (by decide)).mpr (by omega)) b2

set_option maxHeartbeats 4000000 in
set_option maxRecDepth 100000 in
theorem c_Web_init (l : Launch) (D : va_G) (E : Nat → ClassId) (h : Nat)  : MV l D E y_Web_init (.code y_Web_init k_Web_init 1 none) ({ frames := 1, cells := 2, slots := 24, locals := 12 } : Room) [.ref h] [(h, .inr (6, [.null, .null, .int (nI 0)]))] (fun (u : Nat × Nat) => match u with | (t, u) => (True)) (fun (u : Nat × Nat) => match u with | (t, u) => [(h, .inr (6, [.ref t, .ref u, .int (nI 0)])), (t, .inl (E 0, 12, .inl (aN (fun _ => 0)))), (u, .inl (E 0, 12, .inl (aN (fun _ => 0))))]) := by
  refine MV.of (by decide) (Nat.le_of_ble_eq_true rfl) ?_
  intro p e s m args below meth c A C hrt hlk hnm
  refine g_lv (lv' := [(0, .ref h)]) rfl ?_
  refine g_aload_n C d_Web_init_0 rfl 0 rfl ?_
  refine g_objInit C m_64 m_57 m_58 d_Web_init_1 (Nat.le_of_ble_eq_true rfl) (Nat.le_of_ble_eq_true rfl) ?_
  refine g_aload_n C d_Web_init_4 rfl 0 rfl ?_
  refine g_bipush (v := nI 12) C d_Web_init_5 (by decide) ?_
  refine g_newI (N' := 12) C m_75 (nI_pos (by decide)) (nI_clamp (by decide)) (by decide) (Nat.le_of_ble_eq_true rfl) (Nat.le_of_ble_eq_true rfl) d_Web_init_7 (fun q1 => ?_)
  refine g_ws (ws' := [(h, .inr (6, [.null, .null, .int (nI 0)])), (q1, .inl (E 0, 12, .inl (aN (fun _ => 0))))]) rfl ?_
  refine g_putF (ws' := [(h, .inr (6, [.ref q1, .null, .int (nI 0)])), (q1, .inl (E 0, 12, .inl (aN (fun _ => 0))))]) C lay_Web ty_Web nm_Web 0 rfl rfl 0 (by decide) m_65 rfl hnm rfl rfl rfl (Nat.le_of_ble_eq_true rfl) rfl d_Web_init_9 ?_
  refine g_aload_n C d_Web_init_12 rfl 0 rfl ?_
  refine g_bipush (v := nI 12) C d_Web_init_13 (by decide) ?_
  refine g_newI (N' := 12) C m_75 (nI_pos (by decide)) (nI_clamp (by decide)) (by decide) (Nat.le_of_ble_eq_true rfl) (Nat.le_of_ble_eq_true rfl) d_Web_init_15 (fun q2 => ?_)
  refine g_ws (ws' := [(h, .inr (6, [.ref q1, .null, .int (nI 0)])), (q1, .inl (E 0, 12, .inl (aN (fun _ => 0)))), (q2, .inl (E 0, 12, .inl (aN (fun _ => 0))))]) rfl ?_
  refine g_putF (ws' := [(h, .inr (6, [.ref q1, .ref q2, .int (nI 0)])), (q1, .inl (E 0, 12, .inl (aN (fun _ => 0)))), (q2, .inl (E 0, 12, .inl (aN (fun _ => 0))))]) C lay_Web ty_Web nm_Web 0 rfl rfl 1 (by decide) m_66 rfl hnm rfl rfl rfl (Nat.le_of_ble_eq_true rfl) rfl d_Web_init_17 ?_
  refine g_aload_n C d_Web_init_20 rfl 0 rfl ?_
  refine g_iconst (v := nI 0) C d_Web_init_21 (by decide) ?_
  refine g_put (ws' := [(h, .inr (6, [.ref q1, .ref q2, .int (nI 0)])), (q1, .inl (E 0, 12, .inl (aN (fun _ => 0)))), (q2, .inl (E 0, 12, .inl (aN (fun _ => 0))))]) C lay_Web ty_Web nm_Web 0 rfl rfl 2 (by decide) m_67 rfl rfl rfl (Nat.le_of_ble_eq_true rfl) rfl d_Web_init_22 ?_
  exact g_vret C hrt hlk (q1, q2) (trivial) rfl d_Web_init_25

set_option maxHeartbeats 4000000 in
set_option maxRecDepth 100000 in
theorem c_Se_init (l : Launch) (D : va_G) (E : Nat → ClassId) (g : Nat)  : MV l D E y_Senses_init (.code y_Senses_init k_Senses_init 1 none) ({ frames := 1, cells := 3, slots := 9116, locals := 12 } : Room) [.ref g] [(g, .inr (4, [.null, .null, .null, .int (nI 0), .int (nI 0), .int (bI false)]))] (fun (u : Nat × Nat × Nat) => match u with | (ga, gb, gc) => (True)) (fun (u : Nat × Nat × Nat) => match u with | (ga, gb, gc) => [(g, .inr (4, [.ref ga, .ref gb, .ref gc, .int (nI 0), .int (nI 0), .int (bI false)])), (ga, .inl (E 0, 4096, .inl (aN (fun _ => 0)))), (gb, .inl (E 0, 4096, .inl (aN (fun _ => 0)))), (gc, .inl (E 0, 924, .inl (aN (fun _ => 0))))]) := by
  refine MV.of (by decide) (Nat.le_of_ble_eq_true rfl) ?_
  intro p e s m args below meth c A C hrt hlk hnm
  refine g_lv (lv' := [(0, .ref g)]) rfl ?_
  refine g_aload_n C d_Senses_init_0 rfl 0 rfl ?_
  refine g_objInit C m_81 m_57 m_58 d_Senses_init_1 (Nat.le_of_ble_eq_true rfl) (Nat.le_of_ble_eq_true rfl) ?_
  refine g_aload_n C d_Senses_init_4 rfl 0 rfl ?_
  refine g_sipush (v := nI 4096) C d_Senses_init_5 (by decide) ?_
  refine g_newI (N' := 4096) C m_75 (nI_pos (by decide)) (nI_clamp (by decide)) (by decide) (Nat.le_of_ble_eq_true rfl) (Nat.le_of_ble_eq_true rfl) d_Senses_init_8 (fun q1 => ?_)
  refine g_ws (ws' := [(g, .inr (4, [.null, .null, .null, .int (nI 0), .int (nI 0), .int (bI false)])), (q1, .inl (E 0, 4096, .inl (aN (fun _ => 0))))]) rfl ?_
  refine g_putF (ws' := [(g, .inr (4, [.ref q1, .null, .null, .int (nI 0), .int (nI 0), .int (bI false)])), (q1, .inl (E 0, 4096, .inl (aN (fun _ => 0))))]) C lay_Senses ty_Senses nm_Senses 0 rfl rfl 0 (by decide) m_82 rfl hnm rfl rfl rfl (Nat.le_of_ble_eq_true rfl) rfl d_Senses_init_10 ?_
  refine g_aload_n C d_Senses_init_13 rfl 0 rfl ?_
  refine g_sipush (v := nI 4096) C d_Senses_init_14 (by decide) ?_
  refine g_newI (N' := 4096) C m_75 (nI_pos (by decide)) (nI_clamp (by decide)) (by decide) (Nat.le_of_ble_eq_true rfl) (Nat.le_of_ble_eq_true rfl) d_Senses_init_17 (fun q2 => ?_)
  refine g_ws (ws' := [(g, .inr (4, [.ref q1, .null, .null, .int (nI 0), .int (nI 0), .int (bI false)])), (q1, .inl (E 0, 4096, .inl (aN (fun _ => 0)))), (q2, .inl (E 0, 4096, .inl (aN (fun _ => 0))))]) rfl ?_
  refine g_putF (ws' := [(g, .inr (4, [.ref q1, .ref q2, .null, .int (nI 0), .int (nI 0), .int (bI false)])), (q1, .inl (E 0, 4096, .inl (aN (fun _ => 0)))), (q2, .inl (E 0, 4096, .inl (aN (fun _ => 0))))]) C lay_Senses ty_Senses nm_Senses 0 rfl rfl 1 (by decide) m_83 rfl hnm rfl rfl rfl (Nat.le_of_ble_eq_true rfl) rfl d_Senses_init_19 ?_
  refine g_aload_n C d_Senses_init_22 rfl 0 rfl ?_
  refine g_sipush (v := nI 924) C d_Senses_init_23 (by decide) ?_
  refine g_newI (N' := 924) C m_75 (nI_pos (by decide)) (nI_clamp (by decide)) (by decide) (Nat.le_of_ble_eq_true rfl) (Nat.le_of_ble_eq_true rfl) d_Senses_init_26 (fun q3 => ?_)
  refine g_ws (ws' := [(g, .inr (4, [.ref q1, .ref q2, .null, .int (nI 0), .int (nI 0), .int (bI false)])), (q1, .inl (E 0, 4096, .inl (aN (fun _ => 0)))), (q2, .inl (E 0, 4096, .inl (aN (fun _ => 0)))), (q3, .inl (E 0, 924, .inl (aN (fun _ => 0))))]) rfl ?_
  refine g_putF (ws' := [(g, .inr (4, [.ref q1, .ref q2, .ref q3, .int (nI 0), .int (nI 0), .int (bI false)])), (q1, .inl (E 0, 4096, .inl (aN (fun _ => 0)))), (q2, .inl (E 0, 4096, .inl (aN (fun _ => 0)))), (q3, .inl (E 0, 924, .inl (aN (fun _ => 0))))]) C lay_Senses ty_Senses nm_Senses 0 rfl rfl 2 (by decide) m_84 rfl hnm rfl rfl rfl (Nat.le_of_ble_eq_true rfl) rfl d_Senses_init_28 ?_
  refine g_aload_n C d_Senses_init_31 rfl 0 rfl ?_
  refine g_iconst (v := nI 0) C d_Senses_init_32 (by decide) ?_
  refine g_put (ws' := [(g, .inr (4, [.ref q1, .ref q2, .ref q3, .int (nI 0), .int (nI 0), .int (bI false)])), (q1, .inl (E 0, 4096, .inl (aN (fun _ => 0)))), (q2, .inl (E 0, 4096, .inl (aN (fun _ => 0)))), (q3, .inl (E 0, 924, .inl (aN (fun _ => 0))))]) C lay_Senses ty_Senses nm_Senses 0 rfl rfl 3 (by decide) m_85 rfl rfl rfl (Nat.le_of_ble_eq_true rfl) rfl d_Senses_init_33 ?_
  refine g_aload_n C d_Senses_init_36 rfl 0 rfl ?_
  refine g_iconst (v := nI 0) C d_Senses_init_37 (by decide) ?_
  refine g_put (ws' := [(g, .inr (4, [.ref q1, .ref q2, .ref q3, .int (nI 0), .int (nI 0), .int (bI false)])), (q1, .inl (E 0, 4096, .inl (aN (fun _ => 0)))), (q2, .inl (E 0, 4096, .inl (aN (fun _ => 0)))), (q3, .inl (E 0, 924, .inl (aN (fun _ => 0))))]) C lay_Senses ty_Senses nm_Senses 0 rfl rfl 4 (by decide) m_86 rfl rfl rfl (Nat.le_of_ble_eq_true rfl) rfl d_Senses_init_38 ?_
  refine g_aload_n C d_Senses_init_41 rfl 0 rfl ?_
  refine g_iconst (v := nI 0) C d_Senses_init_42 (by decide) ?_
  refine g_top (show nI 0 = bI false from rfl) ?_
  refine g_put (ws' := [(g, .inr (4, [.ref q1, .ref q2, .ref q3, .int (nI 0), .int (nI 0), .int (bI false)])), (q1, .inl (E 0, 4096, .inl (aN (fun _ => 0)))), (q2, .inl (E 0, 4096, .inl (aN (fun _ => 0)))), (q3, .inl (E 0, 924, .inl (aN (fun _ => 0))))]) C lay_Senses ty_Senses nm_Senses 0 rfl rfl 5 (by decide) m_87 rfl (bI_nar _) (bI_fit _) (Nat.le_of_ble_eq_true rfl) rfl d_Senses_init_43 ?_
  exact g_vret C hrt hlk (q1, q2, q3) (trivial) rfl d_Senses_init_46

set_option maxHeartbeats 4000000 in
set_option maxRecDepth 100000 in
theorem c_Li_init (l : Launch) (D : va_G) (E : Nat → ClassId) (li : Nat)  : MV l D E y_Listing_init (.code y_Listing_init k_Listing_init 1 none) ({ frames := 1, cells := 0, slots := 0, locals := 12 } : Room) [.ref li] [(li, .inr (2, [.int (bI false), .int (nI 0), .int (nI 0), .int (nI 0)]))] (fun _ : Unit => True) (fun _ : Unit => [(li, .inr (2, [.int (bI false), .int (nI 0), .int (nI 0), .int (oI none)]))]) := by
  refine MV.of (by decide) (Nat.le_of_ble_eq_true rfl) ?_
  intro p e s m args below meth c A C hrt hlk hnm
  refine g_lv (lv' := [(0, .ref li)]) rfl ?_
  refine g_aload_n C d_Listing_init_0 rfl 0 rfl ?_
  refine g_objInit C m_106 m_57 m_58 d_Listing_init_1 (Nat.le_of_ble_eq_true rfl) (Nat.le_of_ble_eq_true rfl) ?_
  refine g_aload_n C d_Listing_init_4 rfl 0 rfl ?_
  refine g_iconst (v := nI 0) C d_Listing_init_5 (by decide) ?_
  refine g_top (show nI 0 = bI false from rfl) ?_
  refine g_put (ws' := [(li, .inr (2, [.int (bI false), .int (nI 0), .int (nI 0), .int (nI 0)]))]) C lay_Listing ty_Listing nm_Listing 0 rfl rfl 0 (by decide) m_107 rfl (bI_nar _) (bI_fit _) (Nat.le_of_ble_eq_true rfl) rfl d_Listing_init_6 ?_
  refine g_aload_n C d_Listing_init_9 rfl 0 rfl ?_
  refine g_iconst (v := nI 0) C d_Listing_init_10 (by decide) ?_
  refine g_put (ws' := [(li, .inr (2, [.int (bI false), .int (nI 0), .int (nI 0), .int (nI 0)]))]) C lay_Listing ty_Listing nm_Listing 0 rfl rfl 1 (by decide) m_108 rfl rfl rfl (Nat.le_of_ble_eq_true rfl) rfl d_Listing_init_11 ?_
  refine g_aload_n C d_Listing_init_14 rfl 0 rfl ?_
  refine g_iconst (v := nI 0) C d_Listing_init_15 (by decide) ?_
  refine g_put (ws' := [(li, .inr (2, [.int (bI false), .int (nI 0), .int (nI 0), .int (nI 0)]))]) C lay_Listing ty_Listing nm_Listing 0 rfl rfl 2 (by decide) m_109 rfl rfl rfl (Nat.le_of_ble_eq_true rfl) rfl d_Listing_init_16 ?_
  refine g_aload_n C d_Listing_init_19 rfl 0 rfl ?_
  refine g_iconst (v := (-1)) C d_Listing_init_20 (by decide) ?_
  refine g_put (ws' := [(li, .inr (2, [.int (bI false), .int (nI 0), .int (nI 0), .int (-1)]))]) C lay_Listing ty_Listing nm_Listing 0 rfl rfl 3 (by decide) m_110 rfl rfl rfl (Nat.le_of_ble_eq_true rfl) rfl d_Listing_init_21 ?_
  exact g_vret C hrt hlk () (trivial) rfl d_Listing_init_24

set_option maxHeartbeats 4000000 in
set_option maxRecDepth 100000 in
theorem c_Gr_init (l : Launch) (D : va_G) (E : Nat → ClassId) (q : Nat)  : MV l D E y_Grounds_init (.code y_Grounds_init k_Grounds_init 1 none) ({ frames := 1, cells := 1, slots := 12, locals := 12 } : Room) [.ref q] [(q, .inr (1, [.null, .int (nI 0)]))] (fun (qa : Nat) => (True)) (fun (qa : Nat) => [(q, .inr (1, [.ref qa, .int (nI 0)])), (qa, .inl (E 0, 12, .inl (aN (fun _ => 0))))]) := by
  refine MV.of (by decide) (Nat.le_of_ble_eq_true rfl) ?_
  intro p e s m args below meth c A C hrt hlk hnm
  refine g_lv (lv' := [(0, .ref q)]) rfl ?_
  refine g_aload_n C d_Grounds_init_0 rfl 0 rfl ?_
  refine g_objInit C m_125 m_57 m_58 d_Grounds_init_1 (Nat.le_of_ble_eq_true rfl) (Nat.le_of_ble_eq_true rfl) ?_
  refine g_aload_n C d_Grounds_init_4 rfl 0 rfl ?_
  refine g_bipush (v := nI 12) C d_Grounds_init_5 (by decide) ?_
  refine g_newI (N' := 12) C m_75 (nI_pos (by decide)) (nI_clamp (by decide)) (by decide) (Nat.le_of_ble_eq_true rfl) (Nat.le_of_ble_eq_true rfl) d_Grounds_init_7 (fun q1 => ?_)
  refine g_ws (ws' := [(q, .inr (1, [.null, .int (nI 0)])), (q1, .inl (E 0, 12, .inl (aN (fun _ => 0))))]) rfl ?_
  refine g_putF (ws' := [(q, .inr (1, [.ref q1, .int (nI 0)])), (q1, .inl (E 0, 12, .inl (aN (fun _ => 0))))]) C lay_Grounds ty_Grounds nm_Grounds 0 rfl rfl 0 (by decide) m_126 rfl hnm rfl rfl rfl (Nat.le_of_ble_eq_true rfl) rfl d_Grounds_init_9 ?_
  refine g_aload_n C d_Grounds_init_12 rfl 0 rfl ?_
  refine g_iconst (v := nI 0) C d_Grounds_init_13 (by decide) ?_
  refine g_put (ws' := [(q, .inr (1, [.ref q1, .int (nI 0)])), (q1, .inl (E 0, 12, .inl (aN (fun _ => 0))))]) C lay_Grounds ty_Grounds nm_Grounds 0 rfl rfl 1 (by decide) m_127 rfl rfl rfl (Nat.le_of_ble_eq_true rfl) rfl d_Grounds_init_14 ?_
  exact g_vret C hrt hlk (q1) (trivial) rfl d_Grounds_init_17

set_option maxHeartbeats 4000000 in
set_option maxRecDepth 100000 in
theorem c_Tk_init (l : Launch) (D : va_G) (E : Nat → ClassId) (v : Nat)  : MV l D E y_Talk_init (.code y_Talk_init k_Talk_init 1 none) ({ frames := 1, cells := 3, slots := 1500, locals := 12 } : Room) [.ref v] [(v, .inr (5, [.null, .null, .null, .int (nI 0), .int (bI false)]))] (fun (u : Nat × Nat × Nat) => match u with | (va, vb, vc) => (True)) (fun (u : Nat × Nat × Nat) => match u with | (va, vb, vc) => [(v, .inr (5, [.ref va, .ref vb, .ref vc, .int (nI 0), .int (bI false)])), (va, .inl (E 0, 500, .inl (aN (fun _ => 0)))), (vb, .inl (E 0, 500, .inl (aN (fun _ => 0)))), (vc, .inl (E 0, 500, .inl (aN (fun _ => 0))))]) := by
  refine MV.of (by decide) (Nat.le_of_ble_eq_true rfl) ?_
  intro p e s m args below meth c A C hrt hlk hnm
  refine g_lv (lv' := [(0, .ref v)]) rfl ?_
  refine g_aload_n C d_Talk_init_0 rfl 0 rfl ?_
  refine g_objInit C m_138 m_57 m_58 d_Talk_init_1 (Nat.le_of_ble_eq_true rfl) (Nat.le_of_ble_eq_true rfl) ?_
  refine g_aload_n C d_Talk_init_4 rfl 0 rfl ?_
  refine g_sipush (v := nI 500) C d_Talk_init_5 (by decide) ?_
  refine g_newI (N' := 500) C m_75 (nI_pos (by decide)) (nI_clamp (by decide)) (by decide) (Nat.le_of_ble_eq_true rfl) (Nat.le_of_ble_eq_true rfl) d_Talk_init_8 (fun q1 => ?_)
  refine g_ws (ws' := [(v, .inr (5, [.null, .null, .null, .int (nI 0), .int (bI false)])), (q1, .inl (E 0, 500, .inl (aN (fun _ => 0))))]) rfl ?_
  refine g_putF (ws' := [(v, .inr (5, [.ref q1, .null, .null, .int (nI 0), .int (bI false)])), (q1, .inl (E 0, 500, .inl (aN (fun _ => 0))))]) C lay_Talk ty_Talk nm_Talk 0 rfl rfl 0 (by decide) m_139 rfl hnm rfl rfl rfl (Nat.le_of_ble_eq_true rfl) rfl d_Talk_init_10 ?_
  refine g_aload_n C d_Talk_init_13 rfl 0 rfl ?_
  refine g_sipush (v := nI 500) C d_Talk_init_14 (by decide) ?_
  refine g_newI (N' := 500) C m_75 (nI_pos (by decide)) (nI_clamp (by decide)) (by decide) (Nat.le_of_ble_eq_true rfl) (Nat.le_of_ble_eq_true rfl) d_Talk_init_17 (fun q2 => ?_)
  refine g_ws (ws' := [(v, .inr (5, [.ref q1, .null, .null, .int (nI 0), .int (bI false)])), (q1, .inl (E 0, 500, .inl (aN (fun _ => 0)))), (q2, .inl (E 0, 500, .inl (aN (fun _ => 0))))]) rfl ?_
  refine g_putF (ws' := [(v, .inr (5, [.ref q1, .ref q2, .null, .int (nI 0), .int (bI false)])), (q1, .inl (E 0, 500, .inl (aN (fun _ => 0)))), (q2, .inl (E 0, 500, .inl (aN (fun _ => 0))))]) C lay_Talk ty_Talk nm_Talk 0 rfl rfl 1 (by decide) m_140 rfl hnm rfl rfl rfl (Nat.le_of_ble_eq_true rfl) rfl d_Talk_init_19 ?_
  refine g_aload_n C d_Talk_init_22 rfl 0 rfl ?_
  refine g_sipush (v := nI 500) C d_Talk_init_23 (by decide) ?_
  refine g_newI (N' := 500) C m_75 (nI_pos (by decide)) (nI_clamp (by decide)) (by decide) (Nat.le_of_ble_eq_true rfl) (Nat.le_of_ble_eq_true rfl) d_Talk_init_26 (fun q3 => ?_)
  refine g_ws (ws' := [(v, .inr (5, [.ref q1, .ref q2, .null, .int (nI 0), .int (bI false)])), (q1, .inl (E 0, 500, .inl (aN (fun _ => 0)))), (q2, .inl (E 0, 500, .inl (aN (fun _ => 0)))), (q3, .inl (E 0, 500, .inl (aN (fun _ => 0))))]) rfl ?_
  refine g_putF (ws' := [(v, .inr (5, [.ref q1, .ref q2, .ref q3, .int (nI 0), .int (bI false)])), (q1, .inl (E 0, 500, .inl (aN (fun _ => 0)))), (q2, .inl (E 0, 500, .inl (aN (fun _ => 0)))), (q3, .inl (E 0, 500, .inl (aN (fun _ => 0))))]) C lay_Talk ty_Talk nm_Talk 0 rfl rfl 2 (by decide) m_141 rfl hnm rfl rfl rfl (Nat.le_of_ble_eq_true rfl) rfl d_Talk_init_28 ?_
  refine g_aload_n C d_Talk_init_31 rfl 0 rfl ?_
  refine g_iconst (v := nI 0) C d_Talk_init_32 (by decide) ?_
  refine g_put (ws' := [(v, .inr (5, [.ref q1, .ref q2, .ref q3, .int (nI 0), .int (bI false)])), (q1, .inl (E 0, 500, .inl (aN (fun _ => 0)))), (q2, .inl (E 0, 500, .inl (aN (fun _ => 0)))), (q3, .inl (E 0, 500, .inl (aN (fun _ => 0))))]) C lay_Talk ty_Talk nm_Talk 0 rfl rfl 3 (by decide) m_142 rfl rfl rfl (Nat.le_of_ble_eq_true rfl) rfl d_Talk_init_33 ?_
  refine g_aload_n C d_Talk_init_36 rfl 0 rfl ?_
  refine g_iconst (v := nI 0) C d_Talk_init_37 (by decide) ?_
  refine g_top (show nI 0 = bI false from rfl) ?_
  refine g_put (ws' := [(v, .inr (5, [.ref q1, .ref q2, .ref q3, .int (nI 0), .int (bI false)])), (q1, .inl (E 0, 500, .inl (aN (fun _ => 0)))), (q2, .inl (E 0, 500, .inl (aN (fun _ => 0)))), (q3, .inl (E 0, 500, .inl (aN (fun _ => 0))))]) C lay_Talk ty_Talk nm_Talk 0 rfl rfl 4 (by decide) m_143 rfl (bI_nar _) (bI_fit _) (Nat.le_of_ble_eq_true rfl) rfl d_Talk_init_38 ?_
  exact g_vret C hrt hlk (q1, q2, q3) (trivial) rfl d_Talk_init_41

set_option maxHeartbeats 4000000 in
set_option maxRecDepth 100000 in
theorem c_Ri_init (l : Launch) (D : va_G) (E : Nat → ClassId) (w : Nat)  : MV l D E y_Rings_init (.code y_Rings_init k_Rings_init 1 none) ({ frames := 1, cells := 2, slots := 24, locals := 12 } : Room) [.ref w] [(w, .inr (3, [.null, .null, .int (nI 0)]))] (fun (u : Nat × Nat) => match u with | (wa, wb) => (True)) (fun (u : Nat × Nat) => match u with | (wa, wb) => [(w, .inr (3, [.ref wa, .ref wb, .int (nI 0)])), (wa, .inl (E 0, 12, .inl (aN (fun _ => 0)))), (wb, .inl (E 0, 12, .inl (aN (fun _ => 0))))]) := by
  refine MV.of (by decide) (Nat.le_of_ble_eq_true rfl) ?_
  intro p e s m args below meth c A C hrt hlk hnm
  refine g_lv (lv' := [(0, .ref w)]) rfl ?_
  refine g_aload_n C d_Rings_init_0 rfl 0 rfl ?_
  refine g_objInit C m_160 m_57 m_58 d_Rings_init_1 (Nat.le_of_ble_eq_true rfl) (Nat.le_of_ble_eq_true rfl) ?_
  refine g_aload_n C d_Rings_init_4 rfl 0 rfl ?_
  refine g_bipush (v := nI 12) C d_Rings_init_5 (by decide) ?_
  refine g_newI (N' := 12) C m_75 (nI_pos (by decide)) (nI_clamp (by decide)) (by decide) (Nat.le_of_ble_eq_true rfl) (Nat.le_of_ble_eq_true rfl) d_Rings_init_7 (fun q1 => ?_)
  refine g_ws (ws' := [(w, .inr (3, [.null, .null, .int (nI 0)])), (q1, .inl (E 0, 12, .inl (aN (fun _ => 0))))]) rfl ?_
  refine g_putF (ws' := [(w, .inr (3, [.ref q1, .null, .int (nI 0)])), (q1, .inl (E 0, 12, .inl (aN (fun _ => 0))))]) C lay_Rings ty_Rings nm_Rings 0 rfl rfl 0 (by decide) m_161 rfl hnm rfl rfl rfl (Nat.le_of_ble_eq_true rfl) rfl d_Rings_init_9 ?_
  refine g_aload_n C d_Rings_init_12 rfl 0 rfl ?_
  refine g_bipush (v := nI 12) C d_Rings_init_13 (by decide) ?_
  refine g_newI (N' := 12) C m_75 (nI_pos (by decide)) (nI_clamp (by decide)) (by decide) (Nat.le_of_ble_eq_true rfl) (Nat.le_of_ble_eq_true rfl) d_Rings_init_15 (fun q2 => ?_)
  refine g_ws (ws' := [(w, .inr (3, [.ref q1, .null, .int (nI 0)])), (q1, .inl (E 0, 12, .inl (aN (fun _ => 0)))), (q2, .inl (E 0, 12, .inl (aN (fun _ => 0))))]) rfl ?_
  refine g_putF (ws' := [(w, .inr (3, [.ref q1, .ref q2, .int (nI 0)])), (q1, .inl (E 0, 12, .inl (aN (fun _ => 0)))), (q2, .inl (E 0, 12, .inl (aN (fun _ => 0))))]) C lay_Rings ty_Rings nm_Rings 0 rfl rfl 1 (by decide) m_162 rfl hnm rfl rfl rfl (Nat.le_of_ble_eq_true rfl) rfl d_Rings_init_17 ?_
  refine g_aload_n C d_Rings_init_20 rfl 0 rfl ?_
  refine g_iconst (v := nI 0) C d_Rings_init_21 (by decide) ?_
  refine g_put (ws' := [(w, .inr (3, [.ref q1, .ref q2, .int (nI 0)])), (q1, .inl (E 0, 12, .inl (aN (fun _ => 0)))), (q2, .inl (E 0, 12, .inl (aN (fun _ => 0))))]) C lay_Rings ty_Rings nm_Rings 0 rfl rfl 2 (by decide) m_163 rfl rfl rfl (Nat.le_of_ble_eq_true rfl) rfl d_Rings_init_22 ?_
  exact g_vret C hrt hlk (q1, q2) (trivial) rfl d_Rings_init_25
