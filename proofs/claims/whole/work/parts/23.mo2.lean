set_option maxHeartbeats 4000000 in
set_option maxRecDepth 100000 in
theorem o_looksAbove (l : Launch) (D : va_G) (E : Nat → ClassId) (mo : Nat) (m1 : Nat) (m2 : Nat) (m3 : Nat) (m4 : Nat) (m5 : Nat) (m6 : Nat) (m7 : Nat) (m8 : Nat) (m9 : Nat) (m10 : Nat) (m11 : Nat) (m12 : Nat) (m13 : Nat) (m14 : Nat) (m15 : Nat) (th : Nat) (n : Nat) (kn : Bool) (lg : Bool) (td : Bool) (ld : Nat) (lt : Nat) (gr : Nat) (mv : Nat) (la : Nat) (HE : Nat → Bool) (AV : Nat → Bool) (hn : n ≤ 12) : MV l D E y_Mo_looksAbove (.code y_Mo_looksAbove k_Mo_looksAbove 4 none) ({ frames := 0, cells := 0, slots := 0, locals := 0 } : Room) [.ref mo] [(mo, .inr (7, [.int (nI th), .int (nI n), .ref m1, .ref m2, .ref m3, .ref m4, .ref m5, .ref m6, .int (bI kn), .int (bI lg), .int (bI td), .int (nI ld), .int (pI lt), .ref m7, .int (nI gr), .int (nI mv), .ref m8, .ref m9, .ref m10, .ref m11, .ref m12, .ref m13, .int (nI la), .ref m14, .ref m15])), (m5, .inl (E 3, 4096, .inl (aB HE))), (m6, .inl (E 3, 4096, .inl (aB AV)))] (fun _ : Unit => True) (fun _ : Unit => [(mo, .inr (7, [.int (nI th), .int (nI n), .ref m1, .ref m2, .ref m3, .ref m4, .ref m5, .ref m6, .int (bI kn), .int (bI lg), .int (bI td), .int (nI ld), .int (pI lt), .ref m7, .int (nI gr), .int (nI mv), .ref m8, .ref m9, .ref m10, .ref m11, .ref m12, .ref m13, .int (nI la), .ref m14, .ref m15])), (m5, .inl (E 3, 4096, .inl (aB HE))), (m6, .inl (E 3, 4096, .inl (aB (laO HE AV n (2 ^ n - 1 + 1)))))]) := by
  refine MV.of (by decide) (Nat.le_of_ble_eq_true rfl) ?_
  intro p e s m args below meth c A C hrt hlk hnm
  refine g_lv (lv' := [(0, .ref mo)]) rfl ?_
  refine g_iconst (v := nI 1) C d_Mo_looksAbove_0 (by decide) ?_
  refine g_aload_n C d_Mo_looksAbove_1 rfl 0 rfl ?_
  refine g_get C lay_Mo 0 rfl rfl 1 (by decide) m_635 rfl d_Mo_looksAbove_2 ?_
  refine g_ishl1N C (by omega) d_Mo_looksAbove_5 ?_
  refine g_iconst (v := nI 1) C d_Mo_looksAbove_6 (by decide) ?_
  refine g_isubN C Nat.one_le_two_pow d_Mo_looksAbove_7 ?_
  refine g_istore_n (lv' := [(1, .int (nI ((2 ^ n) - 1))), (0, .ref mo)]) C d_Mo_looksAbove_8 rfl (by decide) rfl ?_
  have loop9 : ∀ (f : Nat) (i : Nat) (V : Nat → Bool), (i ≤ 2 ^ n - 1 + 1) → (V = laO HE AV n (2 ^ n - 1 + 1 - i)) → i < f → GG p l e ({ frames := 0, cells := 0, slots := 0, locals := 0 } : Room) s m args below meth c (MQ below (va_Qv (fun _ : Unit => True) (BC D A (fun _ : Unit => [(mo, .inr (7, [.int (nI th), .int (nI n), .ref m1, .ref m2, .ref m3, .ref m4, .ref m5, .ref m6, .int (bI kn), .int (bI lg), .int (bI td), .int (nI ld), .int (pI lt), .ref m7, .int (nI gr), .int (nI mv), .ref m8, .ref m9, .ref m10, .ref m11, .ref m12, .ref m13, .int (nI la), .ref m14, .ref m15])), (m5, .inl (E 3, 4096, .inl (aB HE))), (m6, .inl (E 3, 4096, .inl (aB (laO HE AV n (2 ^ n - 1 + 1)))))])) A) args s (({ frames := 0, cells := 0, slots := 0, locals := 0 } : Room)).cells (({ frames := 0, cells := 0, slots := 0, locals := 0 } : Room)).slots A) D A 4 0 0 9 [(0, .ref mo), (1, .int (pI i))] [] [(mo, .inr (7, [.int (nI th), .int (nI n), .ref m1, .ref m2, .ref m3, .ref m4, .ref m5, .ref m6, .int (bI kn), .int (bI lg), .int (bI td), .int (nI ld), .int (pI lt), .ref m7, .int (nI gr), .int (nI mv), .ref m8, .ref m9, .ref m10, .ref m11, .ref m12, .ref m13, .int (nI la), .ref m14, .ref m15])), (m5, .inl (E 3, 4096, .inl (aB HE))), (m6, .inl (E 3, 4096, .inl (aB V)))] := by
    intro f
    induction f with
    | zero => intro i V hi hV hf; exact absurd hf (Nat.not_lt_zero _)
    | succ f ih =>
      intro i V hi hV hf
      have ih9 := ih
      refine g_iload_n C d_Mo_looksAbove_9 rfl 1 rfl ?_
      refine g_if_ltP (tgt := 91) C (by have := p12_le hn; omega) d_Mo_looksAbove_10 (by decide) (fun b0 => ?_) (fun z0 b0 => ?_)
      · skip
        exact g_vret C hrt hlk () (trivial) (by subst b0; rw [hV, Nat.sub_zero]) d_Mo_looksAbove_91
      · skip
        refine g_lv (lv' := [(0, .ref mo), (1, .int (nI z0))]) (by rw [b0, pI_s]) ?_
        refine g_aload_n C d_Mo_looksAbove_13 rfl 0 rfl ?_
        refine g_get C lay_Mo 0 rfl rfl 7 (by decide) m_641 rfl d_Mo_looksAbove_14 ?_
        refine g_iload_n C d_Mo_looksAbove_17 rfl 1 rfl ?_
        refine g_iconst (v := nI 0) C d_Mo_looksAbove_18 (by decide) ?_
        refine g_top (show nI 0 = bI false from rfl) ?_
        refine g_zastN (f' := aB (va_up V z0 false)) (ws' := [(mo, .inr (7, [.int (nI th), .int (nI n), .ref m1, .ref m2, .ref m3, .ref m4, .ref m5, .ref m6, .int (bI kn), .int (bI lg), .int (bI td), .int (nI ld), .int (pI lt), .ref m7, .int (nI gr), .int (nI mv), .ref m8, .ref m9, .ref m10, .ref m11, .ref m12, .ref m13, .int (nI la), .ref m14, .ref m15])), (m5, .inl (E 3, 4096, .inl (aB HE))), (m6, .inl (E 3, 4096, .inl (aB (va_up V z0 false))))]) C 2 rfl (by have := p12_le hn; omega) (by decide) (aB_up _ _ _) rfl d_Mo_looksAbove_19 ?_
        refine g_iconst (v := nI 0) C d_Mo_looksAbove_20 (by decide) ?_
        refine g_istore_n (lv' := [(2, .int (nI 0)), (0, .ref mo), (1, .int (nI z0))]) C d_Mo_looksAbove_21 rfl (by decide) rfl ?_
        have loop22 : ∀ (f : Nat) (a : Nat) (V2 : Nat → Bool), (a ≤ n) → (V2 = va_up V z0 (laI HE V z0 a)) → n - a < f → GG p l e ({ frames := 0, cells := 0, slots := 0, locals := 0 } : Room) s m args below meth c (MQ below (va_Qv (fun _ : Unit => True) (BC D A (fun _ : Unit => [(mo, .inr (7, [.int (nI th), .int (nI n), .ref m1, .ref m2, .ref m3, .ref m4, .ref m5, .ref m6, .int (bI kn), .int (bI lg), .int (bI td), .int (nI ld), .int (pI lt), .ref m7, .int (nI gr), .int (nI mv), .ref m8, .ref m9, .ref m10, .ref m11, .ref m12, .ref m13, .int (nI la), .ref m14, .ref m15])), (m5, .inl (E 3, 4096, .inl (aB HE))), (m6, .inl (E 3, 4096, .inl (aB (laO HE AV n (2 ^ n - 1 + 1)))))])) A) args s (({ frames := 0, cells := 0, slots := 0, locals := 0 } : Room)).cells (({ frames := 0, cells := 0, slots := 0, locals := 0 } : Room)).slots A) D A 4 0 0 22 [(0, .ref mo), (1, .int (nI z0)), (2, .int (nI a))] [] [(mo, .inr (7, [.int (nI th), .int (nI n), .ref m1, .ref m2, .ref m3, .ref m4, .ref m5, .ref m6, .int (bI kn), .int (bI lg), .int (bI td), .int (nI ld), .int (pI lt), .ref m7, .int (nI gr), .int (nI mv), .ref m8, .ref m9, .ref m10, .ref m11, .ref m12, .ref m13, .int (nI la), .ref m14, .ref m15])), (m5, .inl (E 3, 4096, .inl (aB HE))), (m6, .inl (E 3, 4096, .inl (aB V2)))] := by
          intro f
          induction f with
          | zero => intro a V2 ha hV2 hf; exact absurd hf (Nat.not_lt_zero _)
          | succ f ih =>
            intro a V2 ha hV2 hf
            have ih22 := ih
            refine g_iload_n C d_Mo_looksAbove_22 rfl 2 rfl ?_
            refine g_aload_n C d_Mo_looksAbove_23 rfl 0 rfl ?_
            refine g_get C lay_Mo 0 rfl rfl 1 (by decide) m_635 rfl d_Mo_looksAbove_24 ?_
            refine g_icmp_geN (tgt := 85) C (by omega) (by omega) d_Mo_looksAbove_27 (by decide) (fun b1 => ?_) (fun b1 => ?_)
            · skip
              refine g_iinc (lv' := [(1, .int (pI z0)), (0, .ref mo), (2, .int (nI a))]) C d_Mo_looksAbove_85 1 rfl (pI_of _) (by decide) rfl ?_
              refine g_goto (tgt := 9) C d_Mo_looksAbove_88 (by decide) ?_
              refine g_perm [1, 0] rfl ?_
              exact ih9 z0 V2 (by omega) (by subst b0; rw [hV2, show a = n by omega, laO_s hV hi]) (by omega)
            · skip
              refine g_iload_n C d_Mo_looksAbove_30 rfl 1 rfl ?_
              refine g_iconst (v := nI 1) C d_Mo_looksAbove_31 (by decide) ?_
              refine g_iload_n C d_Mo_looksAbove_32 rfl 2 rfl ?_
              refine g_ishl1N C (by omega) d_Mo_looksAbove_33 ?_
              refine g_iorN C d_Mo_looksAbove_34 ?_
              refine g_istore_n (lv' := [(3, .int (nI (z0 ||| (2 ^ a)))), (0, .ref mo), (1, .int (nI z0)), (2, .int (nI a))]) C d_Mo_looksAbove_35 rfl (by decide) rfl ?_
              refine g_aload_n C d_Mo_looksAbove_36 rfl 1 rfl ?_
              refine g_get C lay_Mo 0 rfl rfl 7 (by decide) m_641 rfl d_Mo_looksAbove_37 ?_
              refine g_iload_n C d_Mo_looksAbove_40 rfl 2 rfl ?_
              refine g_aload_n C d_Mo_looksAbove_41 rfl 1 rfl ?_
              refine g_get C lay_Mo 0 rfl rfl 7 (by decide) m_641 rfl d_Mo_looksAbove_42 ?_
              refine g_iload_n C d_Mo_looksAbove_45 rfl 2 rfl ?_
              refine g_zaldN C 2 rfl (by have := p12_le hn; omega) (by decide) d_Mo_looksAbove_46 ?_
              refine g_top (show (aB V2) z0 = bI (V2 z0) from rfl) ?_
              refine g_if_neB (tgt := 73) C d_Mo_looksAbove_47 (by decide) (fun b2 => ?_) (fun b2 => ?_)
              · skip
                refine g_iconst (v := nI 1) C d_Mo_looksAbove_73 (by decide) ?_
                refine g_goto (tgt := 78) C d_Mo_looksAbove_74 (by decide) ?_
                refine g_top (show nI 1 = bI true from rfl) ?_
                refine g_zastN (f' := aB (va_up V2 z0 true)) (ws' := [(mo, .inr (7, [.int (nI th), .int (nI n), .ref m1, .ref m2, .ref m3, .ref m4, .ref m5, .ref m6, .int (bI kn), .int (bI lg), .int (bI td), .int (nI ld), .int (pI lt), .ref m7, .int (nI gr), .int (nI mv), .ref m8, .ref m9, .ref m10, .ref m11, .ref m12, .ref m13, .int (nI la), .ref m14, .ref m15])), (m5, .inl (E 3, 4096, .inl (aB HE))), (m6, .inl (E 3, 4096, .inl (aB (va_up V2 z0 true))))]) C 2 rfl (by have := p12_le hn; omega) (by decide) (aB_up _ _ _) rfl d_Mo_looksAbove_78 ?_
                refine g_iinc (lv' := [(2, .int (nI (a + 1))), (3, .int (nI (z0 ||| (2 ^ a)))), (0, .ref mo), (1, .int (nI z0))]) C d_Mo_looksAbove_79 3 rfl (nI_1 _) (by decide) rfl ?_
                refine g_goto (tgt := 22) C d_Mo_looksAbove_82 (by decide) ?_
                refine g_perm [2, 3, 0] rfl ?_
                exact ih22 (a + 1) (va_up V2 z0 true) (by omega) (la_st hV2 (by first | (simp [b2, b3, b4, b5]; done) | (simp [b2, b3, b4]; done) | (simp [b2, b3]; done) | (simp [b2]; done))) (by omega)
              · skip
                refine g_iload_n C d_Mo_looksAbove_50 rfl 0 rfl ?_
                refine g_iload_n C d_Mo_looksAbove_51 rfl 2 rfl ?_
                refine g_icmp_eqN (tgt := 77) C (or_lt (lt4 (by have := p12_le hn; omega)) (pow_lt (by omega))) (lt4 (by have := p12_le hn; omega)) d_Mo_looksAbove_52 (by decide) (fun b3 => ?_) (fun b3 => ?_)
                · skip
                  refine g_iconst (v := nI 0) C d_Mo_looksAbove_77 (by decide) ?_
                  refine g_top (show nI 0 = bI false from rfl) ?_
                  refine g_zastN (f' := aB (va_up V2 z0 false)) (ws' := [(mo, .inr (7, [.int (nI th), .int (nI n), .ref m1, .ref m2, .ref m3, .ref m4, .ref m5, .ref m6, .int (bI kn), .int (bI lg), .int (bI td), .int (nI ld), .int (pI lt), .ref m7, .int (nI gr), .int (nI mv), .ref m8, .ref m9, .ref m10, .ref m11, .ref m12, .ref m13, .int (nI la), .ref m14, .ref m15])), (m5, .inl (E 3, 4096, .inl (aB HE))), (m6, .inl (E 3, 4096, .inl (aB (va_up V2 z0 false))))]) C 2 rfl (by have := p12_le hn; omega) (by decide) (aB_up _ _ _) rfl d_Mo_looksAbove_78 ?_
                  refine g_iinc (lv' := [(2, .int (nI (a + 1))), (3, .int (nI (z0 ||| (2 ^ a)))), (0, .ref mo), (1, .int (nI z0))]) C d_Mo_looksAbove_79 3 rfl (nI_1 _) (by decide) rfl ?_
                  refine g_goto (tgt := 22) C d_Mo_looksAbove_82 (by decide) ?_
                  refine g_perm [2, 3, 0] rfl ?_
                  exact ih22 (a + 1) (va_up V2 z0 false) (by omega) (la_st hV2 (by first | (simp [b2, b3, b4, b5]; done) | (simp [b2, b3, b4]; done) | (simp [b2, b3]; done) | (simp [b2]; done))) (by omega)
                · skip
                  refine g_aload_n C d_Mo_looksAbove_55 rfl 1 rfl ?_
                  refine g_get C lay_Mo 0 rfl rfl 6 (by decide) m_640 rfl d_Mo_looksAbove_56 ?_
                  refine g_iload_n C d_Mo_looksAbove_59 rfl 0 rfl ?_
                  refine g_zaldN C 1 rfl (Nat.lt_of_lt_of_le (or_ne_lt (by have := Nat.one_le_two_pow (n := n); omega) b1) (p12_le hn)) (by decide) d_Mo_looksAbove_60 ?_
                  refine g_top (show (aB HE) (z0 ||| (2 ^ a)) = bI (HE (z0 ||| (2 ^ a))) from rfl) ?_
                  refine g_if_neB (tgt := 73) C d_Mo_looksAbove_61 (by decide) (fun b4 => ?_) (fun b4 => ?_)
                  · skip
                    refine g_iconst (v := nI 1) C d_Mo_looksAbove_73 (by decide) ?_
                    refine g_goto (tgt := 78) C d_Mo_looksAbove_74 (by decide) ?_
                    refine g_top (show nI 1 = bI true from rfl) ?_
                    refine g_zastN (f' := aB (va_up V2 z0 true)) (ws' := [(mo, .inr (7, [.int (nI th), .int (nI n), .ref m1, .ref m2, .ref m3, .ref m4, .ref m5, .ref m6, .int (bI kn), .int (bI lg), .int (bI td), .int (nI ld), .int (pI lt), .ref m7, .int (nI gr), .int (nI mv), .ref m8, .ref m9, .ref m10, .ref m11, .ref m12, .ref m13, .int (nI la), .ref m14, .ref m15])), (m5, .inl (E 3, 4096, .inl (aB HE))), (m6, .inl (E 3, 4096, .inl (aB (va_up V2 z0 true))))]) C 2 rfl (by have := p12_le hn; omega) (by decide) (aB_up _ _ _) rfl d_Mo_looksAbove_78 ?_
                    refine g_iinc (lv' := [(2, .int (nI (a + 1))), (3, .int (nI (z0 ||| (2 ^ a)))), (0, .ref mo), (1, .int (nI z0))]) C d_Mo_looksAbove_79 3 rfl (nI_1 _) (by decide) rfl ?_
                    refine g_goto (tgt := 22) C d_Mo_looksAbove_82 (by decide) ?_
                    refine g_perm [2, 3, 0] rfl ?_
                    exact ih22 (a + 1) (va_up V2 z0 true) (by omega) (la_st hV2 (by first | (simp [b2, b3, b4, b5]; done) | (simp [b2, b3, b4]; done) | (simp [b2, b3]; done) | (simp [b2]; done))) (by omega)
                  · skip
                    refine g_aload_n C d_Mo_looksAbove_64 rfl 1 rfl ?_
                    refine g_get C lay_Mo 0 rfl rfl 7 (by decide) m_641 rfl d_Mo_looksAbove_65 ?_
                    refine g_iload_n C d_Mo_looksAbove_68 rfl 0 rfl ?_
                    refine g_zaldN C 2 rfl (Nat.lt_of_lt_of_le (or_ne_lt (by have := Nat.one_le_two_pow (n := n); omega) b1) (p12_le hn)) (by decide) d_Mo_looksAbove_69 ?_
                    refine g_top (show (aB V2) (z0 ||| (2 ^ a)) = bI (V2 (z0 ||| (2 ^ a))) from rfl) ?_
                    refine g_if_eqB (tgt := 77) C d_Mo_looksAbove_70 (by decide) (fun b5 => ?_) (fun b5 => ?_)
                    · skip
                      refine g_iconst (v := nI 0) C d_Mo_looksAbove_77 (by decide) ?_
                      refine g_top (show nI 0 = bI false from rfl) ?_
                      refine g_zastN (f' := aB (va_up V2 z0 false)) (ws' := [(mo, .inr (7, [.int (nI th), .int (nI n), .ref m1, .ref m2, .ref m3, .ref m4, .ref m5, .ref m6, .int (bI kn), .int (bI lg), .int (bI td), .int (nI ld), .int (pI lt), .ref m7, .int (nI gr), .int (nI mv), .ref m8, .ref m9, .ref m10, .ref m11, .ref m12, .ref m13, .int (nI la), .ref m14, .ref m15])), (m5, .inl (E 3, 4096, .inl (aB HE))), (m6, .inl (E 3, 4096, .inl (aB (va_up V2 z0 false))))]) C 2 rfl (by have := p12_le hn; omega) (by decide) (aB_up _ _ _) rfl d_Mo_looksAbove_78 ?_
                      refine g_iinc (lv' := [(2, .int (nI (a + 1))), (3, .int (nI (z0 ||| (2 ^ a)))), (0, .ref mo), (1, .int (nI z0))]) C d_Mo_looksAbove_79 3 rfl (nI_1 _) (by decide) rfl ?_
                      refine g_goto (tgt := 22) C d_Mo_looksAbove_82 (by decide) ?_
                      refine g_perm [2, 3, 0] rfl ?_
                      exact ih22 (a + 1) (va_up V2 z0 false) (by omega) (la_st hV2 (by first | (simp [b2, b3, b4, b5]; done) | (simp [b2, b3, b4]; done) | (simp [b2, b3]; done) | (simp [b2]; done))) (by omega)
                    · skip
                      refine g_iconst (v := nI 1) C d_Mo_looksAbove_73 (by decide) ?_
                      refine g_goto (tgt := 78) C d_Mo_looksAbove_74 (by decide) ?_
                      refine g_top (show nI 1 = bI true from rfl) ?_
                      refine g_zastN (f' := aB (va_up V2 z0 true)) (ws' := [(mo, .inr (7, [.int (nI th), .int (nI n), .ref m1, .ref m2, .ref m3, .ref m4, .ref m5, .ref m6, .int (bI kn), .int (bI lg), .int (bI td), .int (nI ld), .int (pI lt), .ref m7, .int (nI gr), .int (nI mv), .ref m8, .ref m9, .ref m10, .ref m11, .ref m12, .ref m13, .int (nI la), .ref m14, .ref m15])), (m5, .inl (E 3, 4096, .inl (aB HE))), (m6, .inl (E 3, 4096, .inl (aB (va_up V2 z0 true))))]) C 2 rfl (by have := p12_le hn; omega) (by decide) (aB_up _ _ _) rfl d_Mo_looksAbove_78 ?_
                      refine g_iinc (lv' := [(2, .int (nI (a + 1))), (3, .int (nI (z0 ||| (2 ^ a)))), (0, .ref mo), (1, .int (nI z0))]) C d_Mo_looksAbove_79 3 rfl (nI_1 _) (by decide) rfl ?_
                      refine g_goto (tgt := 22) C d_Mo_looksAbove_82 (by decide) ?_
                      refine g_perm [2, 3, 0] rfl ?_
                      exact ih22 (a + 1) (va_up V2 z0 true) (by omega) (la_st hV2 (by first | (simp [b2, b3, b4, b5]; done) | (simp [b2, b3, b4]; done) | (simp [b2, b3]; done) | (simp [b2]; done))) (by omega)
        refine g_perm [1, 2, 0] rfl ?_
        exact loop22 (n - 0 + 1) 0 (va_up V z0 false) (Nat.zero_le _) (rfl) (Nat.lt_succ_self _)
  refine g_lv (lv' := [(1, .int (pI (((2 ^ n) - 1) + 1))), (0, .ref mo)]) (by rw [pI_s]) ?_
  refine g_perm [1, 0] rfl ?_
  exact loop9 ((((2 ^ n) - 1) + 1) + 1) (((2 ^ n) - 1) + 1) AV (Nat.le_refl _) (by rw [Nat.sub_self]; rfl) (Nat.lt_succ_self _)

set_option maxHeartbeats 4000000 in
set_option maxRecDepth 100000 in
theorem o_goesRound (l : Launch) (D : va_G) (E : Nat → ClassId) (mo : Nat) (m1 : Nat) (m2 : Nat) (m3 : Nat) (m4 : Nat) (m5 : Nat) (m6 : Nat) (m7 : Nat) (m8 : Nat) (m9 : Nat) (m10 : Nat) (m11 : Nat) (m12 : Nat) (m13 : Nat) (m14 : Nat) (m15 : Nat) (th : Nat) (n : Nat) (kn : Bool) (lg : Bool) (td : Bool) (ld : Nat) (lt : Nat) (gr : Nat) (mv : Nat) (la : Nat) (U : Nat → Nat) (HI : Nat → Nat) (MR : Nat → Nat) (hn : n ≤ 12) (hU : ∀ a, U a < 4096) (hHI : ∀ a, HI a < 4096) : MV l D E y_Mo_goesRound (.code y_Mo_goesRound k_Mo_goesRound 4 none) ({ frames := 1, cells := 0, slots := 0, locals := 23 } : Room) [.ref mo] [(mo, .inr (7, [.int (nI th), .int (nI n), .ref m1, .ref m2, .ref m3, .ref m4, .ref m5, .ref m6, .int (bI kn), .int (bI lg), .int (bI td), .int (nI ld), .int (pI lt), .ref m7, .int (nI gr), .int (nI mv), .ref m8, .ref m9, .ref m10, .ref m11, .ref m12, .ref m13, .int (nI la), .ref m14, .ref m15])), (m2, .inl (E 0, 12, .inl (aN U))), (m3, .inl (E 0, 4096, .inl (aN HI))), (m7, .inl (E 0, 12, .inl (aN MR)))] (fun _ : Unit => True) (fun _ : Unit => [(mo, .inr (7, [.int (nI th), .int (nI n), .ref m1, .ref m2, .ref m3, .ref m4, .ref m5, .ref m6, .int (bI kn), .int (bI lg), .int (bI td), .int (nI ld), .int (pI lt), .ref m7, .int (nI (rdA HI U n n)), .int (nI mv), .ref m8, .ref m9, .ref m10, .ref m11, .ref m12, .ref m13, .int (nI la), .ref m14, .ref m15])), (m2, .inl (E 0, 12, .inl (aN U))), (m3, .inl (E 0, 4096, .inl (aN HI))), (m7, .inl (E 0, 12, .inl (aN (rdR HI U n (ovw MR (fun _ => 0) n) n))))]) := by
  refine MV.of (by decide) (Nat.le_of_ble_eq_true rfl) ?_
  intro p e s m args below meth c A C hrt hlk hnm
  refine g_lv (lv' := [(0, .ref mo)]) rfl ?_
  refine g_aload_n C d_Mo_goesRound_0 rfl 0 rfl ?_
  refine g_iconst (v := nI 0) C d_Mo_goesRound_1 (by decide) ?_
  refine g_put (ws' := [(mo, .inr (7, [.int (nI th), .int (nI n), .ref m1, .ref m2, .ref m3, .ref m4, .ref m5, .ref m6, .int (bI kn), .int (bI lg), .int (bI td), .int (nI ld), .int (pI lt), .ref m7, .int (nI 0), .int (nI mv), .ref m8, .ref m9, .ref m10, .ref m11, .ref m12, .ref m13, .int (nI la), .ref m14, .ref m15])), (m2, .inl (E 0, 12, .inl (aN U))), (m3, .inl (E 0, 4096, .inl (aN HI))), (m7, .inl (E 0, 12, .inl (aN MR)))]) C lay_Mo ty_Mo nm_Mo 0 rfl rfl 14 (by decide) m_648 rfl rfl rfl (Nat.le_of_ble_eq_true rfl) rfl d_Mo_goesRound_2 ?_
  refine g_iconst (v := nI 0) C d_Mo_goesRound_5 (by decide) ?_
  refine g_istore_n (lv' := [(1, .int (nI 0)), (0, .ref mo)]) C d_Mo_goesRound_6 rfl (by decide) rfl ?_
  have loop7 : ∀ (f : Nat) (i : Nat) (V : Nat → Nat), (i ≤ n) → (V = ovw MR (fun _ => 0) i) → n - i < f → GG p l e ({ frames := 1, cells := 0, slots := 0, locals := 23 } : Room) s m args below meth c (MQ below (va_Qv (fun _ : Unit => True) (BC D A (fun _ : Unit => [(mo, .inr (7, [.int (nI th), .int (nI n), .ref m1, .ref m2, .ref m3, .ref m4, .ref m5, .ref m6, .int (bI kn), .int (bI lg), .int (bI td), .int (nI ld), .int (pI lt), .ref m7, .int (nI (rdA HI U n n)), .int (nI mv), .ref m8, .ref m9, .ref m10, .ref m11, .ref m12, .ref m13, .int (nI la), .ref m14, .ref m15])), (m2, .inl (E 0, 12, .inl (aN U))), (m3, .inl (E 0, 4096, .inl (aN HI))), (m7, .inl (E 0, 12, .inl (aN (rdR HI U n (ovw MR (fun _ => 0) n) n))))])) A) args s (({ frames := 1, cells := 0, slots := 0, locals := 23 } : Room)).cells (({ frames := 1, cells := 0, slots := 0, locals := 23 } : Room)).slots A) D A 4 0 0 7 [(0, .ref mo), (1, .int (nI i))] [] [(mo, .inr (7, [.int (nI th), .int (nI n), .ref m1, .ref m2, .ref m3, .ref m4, .ref m5, .ref m6, .int (bI kn), .int (bI lg), .int (bI td), .int (nI ld), .int (pI lt), .ref m7, .int (nI 0), .int (nI mv), .ref m8, .ref m9, .ref m10, .ref m11, .ref m12, .ref m13, .int (nI la), .ref m14, .ref m15])), (m2, .inl (E 0, 12, .inl (aN U))), (m3, .inl (E 0, 4096, .inl (aN HI))), (m7, .inl (E 0, 12, .inl (aN V)))] := by
    intro f
    induction f with
    | zero => intro i V hi hV hf; exact absurd hf (Nat.not_lt_zero _)
    | succ f ih =>
      intro i V hi hV hf
      have ih7 := ih
      refine g_iload_n C d_Mo_goesRound_7 rfl 1 rfl ?_
      refine g_aload_n C d_Mo_goesRound_8 rfl 0 rfl ?_
      refine g_get C lay_Mo 0 rfl rfl 1 (by decide) m_635 rfl d_Mo_goesRound_9 ?_
      refine g_icmp_geN (tgt := 28) C (by omega) (by omega) d_Mo_goesRound_12 (by decide) (fun b0 => ?_) (fun b0 => ?_)
      · skip
        refine g_iconst (v := nI 1) C d_Mo_goesRound_28 (by decide) ?_
        refine g_istore_n (lv' := [(1, .int (nI 1)), (0, .ref mo)]) C d_Mo_goesRound_29 rfl (by decide) rfl ?_
        have loop30 : ∀ (f : Nat) (r : Nat) (V2 : Nat → Nat) (w : Nat), (1 ≤ r ∧ r ≤ n + 1) → (w = rdA HI U n (r - 1)) → (V2 = rdR HI U n (ovw MR (fun _ => 0) n) (r - 1)) → n + 1 - r < f → GG p l e ({ frames := 1, cells := 0, slots := 0, locals := 23 } : Room) s m args below meth c (MQ below (va_Qv (fun _ : Unit => True) (BC D A (fun _ : Unit => [(mo, .inr (7, [.int (nI th), .int (nI n), .ref m1, .ref m2, .ref m3, .ref m4, .ref m5, .ref m6, .int (bI kn), .int (bI lg), .int (bI td), .int (nI ld), .int (pI lt), .ref m7, .int (nI (rdA HI U n n)), .int (nI mv), .ref m8, .ref m9, .ref m10, .ref m11, .ref m12, .ref m13, .int (nI la), .ref m14, .ref m15])), (m2, .inl (E 0, 12, .inl (aN U))), (m3, .inl (E 0, 4096, .inl (aN HI))), (m7, .inl (E 0, 12, .inl (aN (rdR HI U n (ovw MR (fun _ => 0) n) n))))])) A) args s (({ frames := 1, cells := 0, slots := 0, locals := 23 } : Room)).cells (({ frames := 1, cells := 0, slots := 0, locals := 23 } : Room)).slots A) D A 4 0 0 30 [(0, .ref mo), (1, .int (nI r))] [] [(mo, .inr (7, [.int (nI th), .int (nI n), .ref m1, .ref m2, .ref m3, .ref m4, .ref m5, .ref m6, .int (bI kn), .int (bI lg), .int (bI td), .int (nI ld), .int (pI lt), .ref m7, .int (nI w), .int (nI mv), .ref m8, .ref m9, .ref m10, .ref m11, .ref m12, .ref m13, .int (nI la), .ref m14, .ref m15])), (m2, .inl (E 0, 12, .inl (aN U))), (m3, .inl (E 0, 4096, .inl (aN HI))), (m7, .inl (E 0, 12, .inl (aN V2)))] := by
          intro f
          induction f with
          | zero => intro r V2 w hr hw hV2 hf; exact absurd hf (Nat.not_lt_zero _)
          | succ f ih =>
            intro r V2 w hr hw hV2 hf
            have ih30 := ih
            refine g_iload_n C d_Mo_goesRound_30 rfl 1 rfl ?_
            refine g_aload_n C d_Mo_goesRound_31 rfl 0 rfl ?_
            refine g_get C lay_Mo 0 rfl rfl 1 (by decide) m_635 rfl d_Mo_goesRound_32 ?_
            refine g_icmp_gtN (tgt := 113) C (by omega) (by omega) d_Mo_goesRound_35 (by decide) (fun b1 => ?_) (fun b1 => ?_)
            · skip
              exact g_vret C hrt hlk () (trivial) (by rw [hw, hV2, show r - 1 = n by omega]) d_Mo_goesRound_113
            · skip
              refine g_aload_n C d_Mo_goesRound_38 rfl 0 rfl ?_
              refine g_aload_n C d_Mo_goesRound_39 rfl 0 rfl ?_
              refine g_get C lay_Mo 0 rfl rfl 4 (by decide) m_638 rfl d_Mo_goesRound_40 ?_
              refine g_aload_n C d_Mo_goesRound_43 rfl 0 rfl ?_
              refine g_get C lay_Mo 0 rfl rfl 14 (by decide) m_648 rfl d_Mo_goesRound_44 ?_
              refine g_ialdN C 2 rfl (by rw [hw]; exact rdA_lt hn _) (by decide) d_Mo_goesRound_47 ?_
              refine g_top (show (aN HI) w = nI (HI w) from rfl) ?_
              refine g_iV (rest := []) (wr := [(m3, .inl (E 0, 4096, .inl (aN HI))), (m7, .inl (E 0, 12, .inl (aN V2)))]) C (o_defended l D E mo m1 m2 m3 m4 m5 m6 m7 m8 m9 m10 m11 m12 m13 m14 m15 th n kn lg td ld lt w mv la U (HI w) hn hU) rd_Mo_defended m_763 m_765 m_25 rfl rfl (Nat.le_of_ble_eq_true rfl) (Nat.le_of_ble_eq_true rfl) (Nat.le_of_ble_eq_true rfl) (Nat.le_of_ble_eq_true rfl) rfl rfl (Nat.le_of_ble_eq_true rfl) d_Mo_goesRound_48 [0, 1] [2, 3] rfl (by decide) rfl (by decide) (by decide) (fun r48 _ (hr48 : r48 = nI (dfM U (HI w) n)) => ?_)
              subst hr48
              refine g_cells (ws' := [(mo, .inr (7, [.int (nI th), .int (nI n), .ref m1, .ref m2, .ref m3, .ref m4, .ref m5, .ref m6, .int (bI kn), .int (bI lg), .int (bI td), .int (nI ld), .int (pI lt), .ref m7, .int (nI w), .int (nI mv), .ref m8, .ref m9, .ref m10, .ref m11, .ref m12, .ref m13, .int (nI la), .ref m14, .ref m15])), (m2, .inl (E 0, 12, .inl (aN U))), (m3, .inl (E 0, 4096, .inl (aN HI))), (m7, .inl (E 0, 12, .inl (aN V2)))]) [2, 3, 0, 1] (by decide) rfl ?_
              refine g_istore_n (lv' := [(2, .int (nI (dfM U (HI w) n))), (0, .ref mo), (1, .int (nI r))]) C d_Mo_goesRound_51 rfl (by decide) rfl ?_
              refine g_iconst (v := nI 0) C d_Mo_goesRound_52 (by decide) ?_
              refine g_istore_n (lv' := [(3, .int (nI 0)), (2, .int (nI (dfM U (HI w) n))), (0, .ref mo), (1, .int (nI r))]) C d_Mo_goesRound_53 rfl (by decide) rfl ?_
              have loop54 : ∀ (f : Nat) (a : Nat) (V3 : Nat → Nat), (a ≤ n) → (V3 = grU V2 (dfM U (HI w) n) r a) → n - a < f → GG p l e ({ frames := 1, cells := 0, slots := 0, locals := 23 } : Room) s m args below meth c (MQ below (va_Qv (fun _ : Unit => True) (BC D A (fun _ : Unit => [(mo, .inr (7, [.int (nI th), .int (nI n), .ref m1, .ref m2, .ref m3, .ref m4, .ref m5, .ref m6, .int (bI kn), .int (bI lg), .int (bI td), .int (nI ld), .int (pI lt), .ref m7, .int (nI (rdA HI U n n)), .int (nI mv), .ref m8, .ref m9, .ref m10, .ref m11, .ref m12, .ref m13, .int (nI la), .ref m14, .ref m15])), (m2, .inl (E 0, 12, .inl (aN U))), (m3, .inl (E 0, 4096, .inl (aN HI))), (m7, .inl (E 0, 12, .inl (aN (rdR HI U n (ovw MR (fun _ => 0) n) n))))])) A) args s (({ frames := 1, cells := 0, slots := 0, locals := 23 } : Room)).cells (({ frames := 1, cells := 0, slots := 0, locals := 23 } : Room)).slots A) D A 4 0 0 54 [(0, .ref mo), (1, .int (nI r)), (2, .int (nI (dfM U (HI w) n))), (3, .int (nI a))] [] [(mo, .inr (7, [.int (nI th), .int (nI n), .ref m1, .ref m2, .ref m3, .ref m4, .ref m5, .ref m6, .int (bI kn), .int (bI lg), .int (bI td), .int (nI ld), .int (pI lt), .ref m7, .int (nI w), .int (nI mv), .ref m8, .ref m9, .ref m10, .ref m11, .ref m12, .ref m13, .int (nI la), .ref m14, .ref m15])), (m2, .inl (E 0, 12, .inl (aN U))), (m3, .inl (E 0, 4096, .inl (aN HI))), (m7, .inl (E 0, 12, .inl (aN V3)))] := by
                intro f
                induction f with
                | zero => intro a V3 ha hV3 hf; exact absurd hf (Nat.not_lt_zero _)
                | succ f ih =>
                  intro a V3 ha hV3 hf
                  have ih54 := ih
                  refine g_iload_n C d_Mo_goesRound_54 rfl 3 rfl ?_
                  refine g_aload_n C d_Mo_goesRound_55 rfl 0 rfl ?_
                  refine g_get C lay_Mo 0 rfl rfl 1 (by decide) m_635 rfl d_Mo_goesRound_56 ?_
                  refine g_icmp_geN (tgt := 102) C (by omega) (by omega) d_Mo_goesRound_59 (by decide) (fun b2 => ?_) (fun b2 => ?_)
                  · skip
                    refine g_aload_n C d_Mo_goesRound_102 rfl 0 rfl ?_
                    refine g_iload_n C d_Mo_goesRound_103 rfl 2 rfl ?_
                    refine g_put (ws' := [(mo, .inr (7, [.int (nI th), .int (nI n), .ref m1, .ref m2, .ref m3, .ref m4, .ref m5, .ref m6, .int (bI kn), .int (bI lg), .int (bI td), .int (nI ld), .int (pI lt), .ref m7, .int (nI (dfM U (HI w) n)), .int (nI mv), .ref m8, .ref m9, .ref m10, .ref m11, .ref m12, .ref m13, .int (nI la), .ref m14, .ref m15])), (m2, .inl (E 0, 12, .inl (aN U))), (m3, .inl (E 0, 4096, .inl (aN HI))), (m7, .inl (E 0, 12, .inl (aN V3)))]) C lay_Mo ty_Mo nm_Mo 0 rfl rfl 14 (by decide) m_648 rfl rfl rfl (Nat.le_of_ble_eq_true rfl) rfl d_Mo_goesRound_104 ?_
                    refine g_iinc (lv' := [(1, .int (nI (r + 1))), (0, .ref mo), (2, .int (nI (dfM U (HI w) n))), (3, .int (nI a))]) C d_Mo_goesRound_107 1 rfl (nI_1 _) (by decide) rfl ?_
                    refine g_goto (tgt := 30) C d_Mo_goesRound_110 (by decide) ?_
                    refine g_perm [1, 0] rfl ?_
                    exact ih30 (r + 1) V3 (dfM U (HI w) n) (by omega) (by rw [show r + 1 - 1 = (r - 1) + 1 by omega]; simp only [rdA, ← hw]) (by rw [show r + 1 - 1 = (r - 1) + 1 by omega]; simp only [rdR, ← hw, ← hV2, show r - 1 + 1 = r by omega]; rw [hV3, show a = n by omega]) (by omega)
                  · skip
                    refine g_aload_n C d_Mo_goesRound_62 rfl 0 rfl ?_
                    refine g_get C lay_Mo 0 rfl rfl 13 (by decide) m_647 rfl d_Mo_goesRound_63 ?_
                    refine g_iload_n C d_Mo_goesRound_66 rfl 3 rfl ?_
                    refine g_iload_n C d_Mo_goesRound_67 rfl 2 rfl ?_
                    refine g_iload_n C d_Mo_goesRound_68 rfl 3 rfl ?_
                    refine g_ishrN C (lt4 (dfM_lt (by omega))) (by omega) d_Mo_goesRound_69 ?_
                    refine g_iconst (v := nI 1) C d_Mo_goesRound_70 (by decide) ?_
                    refine g_iandB C d_Mo_goesRound_71 ?_
                    refine g_iconst (v := nI 1) C d_Mo_goesRound_72 (by decide) ?_
                    refine g_top (show nI 1 = bI true from rfl) ?_
                    refine g_icmp_neB (tgt := 89) C d_Mo_goesRound_73 (by decide) (fun b3 => ?_) (fun b3 => ?_)
                    · skip
                      refine g_aload_n C d_Mo_goesRound_89 rfl 0 rfl ?_
                      refine g_get C lay_Mo 0 rfl rfl 13 (by decide) m_647 rfl d_Mo_goesRound_90 ?_
                      refine g_iload_n C d_Mo_goesRound_93 rfl 3 rfl ?_
                      refine g_ialdN C 3 rfl (by omega) (by decide) d_Mo_goesRound_94 ?_
                      refine g_top (show (aN V3) a = nI (V3 a) from rfl) ?_
                      refine g_iastN (f' := aN (va_up V3 a (V3 a))) (ws' := [(mo, .inr (7, [.int (nI th), .int (nI n), .ref m1, .ref m2, .ref m3, .ref m4, .ref m5, .ref m6, .int (bI kn), .int (bI lg), .int (bI td), .int (nI ld), .int (pI lt), .ref m7, .int (nI w), .int (nI mv), .ref m8, .ref m9, .ref m10, .ref m11, .ref m12, .ref m13, .int (nI la), .ref m14, .ref m15])), (m2, .inl (E 0, 12, .inl (aN U))), (m3, .inl (E 0, 4096, .inl (aN HI))), (m7, .inl (E 0, 12, .inl (aN (va_up V3 a (V3 a)))))]) C 3 rfl (by omega) (by decide) (aN_up _ _ _) rfl d_Mo_goesRound_95 ?_
                      refine g_iinc (lv' := [(3, .int (nI (a + 1))), (0, .ref mo), (1, .int (nI r)), (2, .int (nI (dfM U (HI w) n)))]) C d_Mo_goesRound_96 3 rfl (nI_1 _) (by decide) rfl ?_
                      refine g_goto (tgt := 54) C d_Mo_goesRound_99 (by decide) ?_
                      refine g_perm [1, 2, 3, 0] rfl ?_
                      exact ih54 (a + 1) (va_up V3 a (V3 a)) (by omega) (gr_st hV3 (by first | (rw [if_pos ⟨b3, b4⟩]; done) | (rw [if_neg (fun q => b4 q.2)]; done) | (rw [if_neg (fun q => b3 q.1)]; done))) (by omega)
                    · skip
                      refine g_aload_n C d_Mo_goesRound_76 rfl 0 rfl ?_
                      refine g_get C lay_Mo 0 rfl rfl 13 (by decide) m_647 rfl d_Mo_goesRound_77 ?_
                      refine g_iload_n C d_Mo_goesRound_80 rfl 3 rfl ?_
                      refine g_ialdN C 3 rfl (by omega) (by decide) d_Mo_goesRound_81 ?_
                      refine g_top (show (aN V3) a = nI (V3 a) from rfl) ?_
                      refine g_if_neN (tgt := 89) C (by rw [hV3, grU_at, hV2]; exact Nat.lt_of_le_of_lt (rdR_le (by omega)) (by omega)) d_Mo_goesRound_82 (by decide) (fun b4 => ?_) (fun b4 => ?_)
                      · skip
                        refine g_aload_n C d_Mo_goesRound_89 rfl 0 rfl ?_
                        refine g_get C lay_Mo 0 rfl rfl 13 (by decide) m_647 rfl d_Mo_goesRound_90 ?_
                        refine g_iload_n C d_Mo_goesRound_93 rfl 3 rfl ?_
                        refine g_ialdN C 3 rfl (by omega) (by decide) d_Mo_goesRound_94 ?_
                        refine g_top (show (aN V3) a = nI (V3 a) from rfl) ?_
                        refine g_iastN (f' := aN (va_up V3 a (V3 a))) (ws' := [(mo, .inr (7, [.int (nI th), .int (nI n), .ref m1, .ref m2, .ref m3, .ref m4, .ref m5, .ref m6, .int (bI kn), .int (bI lg), .int (bI td), .int (nI ld), .int (pI lt), .ref m7, .int (nI w), .int (nI mv), .ref m8, .ref m9, .ref m10, .ref m11, .ref m12, .ref m13, .int (nI la), .ref m14, .ref m15])), (m2, .inl (E 0, 12, .inl (aN U))), (m3, .inl (E 0, 4096, .inl (aN HI))), (m7, .inl (E 0, 12, .inl (aN (va_up V3 a (V3 a)))))]) C 3 rfl (by omega) (by decide) (aN_up _ _ _) rfl d_Mo_goesRound_95 ?_
                        refine g_iinc (lv' := [(3, .int (nI (a + 1))), (0, .ref mo), (1, .int (nI r)), (2, .int (nI (dfM U (HI w) n)))]) C d_Mo_goesRound_96 3 rfl (nI_1 _) (by decide) rfl ?_
                        refine g_goto (tgt := 54) C d_Mo_goesRound_99 (by decide) ?_
                        refine g_perm [1, 2, 3, 0] rfl ?_
                        exact ih54 (a + 1) (va_up V3 a (V3 a)) (by omega) (gr_st hV3 (by first | (rw [if_pos ⟨b3, b4⟩]; done) | (rw [if_neg (fun q => b4 q.2)]; done) | (rw [if_neg (fun q => b3 q.1)]; done))) (by omega)
                      · skip
                        refine g_iload_n C d_Mo_goesRound_85 rfl 1 rfl ?_
                        refine g_goto (tgt := 95) C d_Mo_goesRound_86 (by decide) ?_
                        refine g_iastN (f' := aN (va_up V3 a r)) (ws' := [(mo, .inr (7, [.int (nI th), .int (nI n), .ref m1, .ref m2, .ref m3, .ref m4, .ref m5, .ref m6, .int (bI kn), .int (bI lg), .int (bI td), .int (nI ld), .int (pI lt), .ref m7, .int (nI w), .int (nI mv), .ref m8, .ref m9, .ref m10, .ref m11, .ref m12, .ref m13, .int (nI la), .ref m14, .ref m15])), (m2, .inl (E 0, 12, .inl (aN U))), (m3, .inl (E 0, 4096, .inl (aN HI))), (m7, .inl (E 0, 12, .inl (aN (va_up V3 a r))))]) C 3 rfl (by omega) (by decide) (aN_up _ _ _) rfl d_Mo_goesRound_95 ?_
                        refine g_iinc (lv' := [(3, .int (nI (a + 1))), (0, .ref mo), (1, .int (nI r)), (2, .int (nI (dfM U (HI w) n)))]) C d_Mo_goesRound_96 3 rfl (nI_1 _) (by decide) rfl ?_
                        refine g_goto (tgt := 54) C d_Mo_goesRound_99 (by decide) ?_
                        refine g_perm [1, 2, 3, 0] rfl ?_
                        exact ih54 (a + 1) (va_up V3 a r) (by omega) (gr_st hV3 (by first | (rw [if_pos ⟨b3, b4⟩]; done) | (rw [if_neg (fun q => b4 q.2)]; done) | (rw [if_neg (fun q => b3 q.1)]; done))) (by omega)
              refine g_perm [2, 3, 1, 0] rfl ?_
              exact loop54 (n - 0 + 1) 0 V2 (Nat.zero_le _) ((grU_0 _ _ _).symm) (Nat.lt_succ_self _)
        refine g_perm [1, 0] rfl ?_
        exact loop30 (n + 1 - 1 + 1) 1 V 0 (by omega) (rfl) (by rw [hV, show i = n by omega]; rfl) (Nat.lt_succ_self _)
      · skip
        refine g_aload_n C d_Mo_goesRound_15 rfl 0 rfl ?_
        refine g_get C lay_Mo 0 rfl rfl 13 (by decide) m_647 rfl d_Mo_goesRound_16 ?_
        refine g_iload_n C d_Mo_goesRound_19 rfl 1 rfl ?_
        refine g_iconst (v := nI 0) C d_Mo_goesRound_20 (by decide) ?_
        refine g_iastN (f' := aN (va_up V i 0)) (ws' := [(mo, .inr (7, [.int (nI th), .int (nI n), .ref m1, .ref m2, .ref m3, .ref m4, .ref m5, .ref m6, .int (bI kn), .int (bI lg), .int (bI td), .int (nI ld), .int (pI lt), .ref m7, .int (nI 0), .int (nI mv), .ref m8, .ref m9, .ref m10, .ref m11, .ref m12, .ref m13, .int (nI la), .ref m14, .ref m15])), (m2, .inl (E 0, 12, .inl (aN U))), (m3, .inl (E 0, 4096, .inl (aN HI))), (m7, .inl (E 0, 12, .inl (aN (va_up V i 0))))]) C 3 rfl (by omega) (by decide) (aN_up _ _ _) rfl d_Mo_goesRound_21 ?_
        refine g_iinc (lv' := [(1, .int (nI (i + 1))), (0, .ref mo)]) C d_Mo_goesRound_22 1 rfl (nI_1 _) (by decide) rfl ?_
        refine g_goto (tgt := 7) C d_Mo_goesRound_25 (by decide) ?_
        refine g_perm [1, 0] rfl ?_
        exact ih7 (i + 1) (va_up V i 0) (by omega) (by rw [hV]; exact ovw_s MR (fun _ => 0) i) (by omega)
  refine g_perm [1, 0] rfl ?_
  exact loop7 (n - 0 + 1) 0 MR (Nat.zero_le _) ((ovw_0 _ _).symm) (Nat.lt_succ_self _)
