set_option maxHeartbeats 4000000 in
set_option maxRecDepth 100000 in
theorem o_reckon (l : Launch) (D : va_G) (E : Nat → ClassId) (mo : Nat) (m1 : Nat) (m2 : Nat) (m3 : Nat) (m4 : Nat) (m5 : Nat) (m6 : Nat) (m7 : Nat) (m8 : Nat) (m9 : Nat) (m10 : Nat) (m11 : Nat) (m12 : Nat) (m13 : Nat) (m14 : Nat) (m15 : Nat) (th : Nat) (n : Nat) (kn : Bool) (lg : Bool) (td : Bool) (ld : Nat) (lt : Nat) (gr : Nat) (mv : Nat) (la : Nat) (T : Nat → Nat) (U : Nat → Nat) (HI : Nat → Nat) (KD : Nat → Nat) (HE : Nat → Bool) (AV : Nat → Bool) (MR : Nat → Nat) (hn : n ≤ 12) (hT : ∀ a, T a < 4096) (hU : ∀ a, U a < 4096) (hHI : ∀ a, HI a < 4096) (hKD : ∀ x, KD x < 32) : MV l D E y_Mo_reckon (.code y_Mo_reckon k_Mo_reckon 4 none) ({ frames := 2, cells := 0, slots := 0, locals := 46 } : Room) [.ref mo] [(mo, .inr (7, [.int (nI th), .int (nI n), .ref m1, .ref m2, .ref m3, .ref m4, .ref m5, .ref m6, .int (bI kn), .int (bI lg), .int (bI td), .int (nI ld), .int (pI lt), .ref m7, .int (nI gr), .int (nI mv), .ref m8, .ref m9, .ref m10, .ref m11, .ref m12, .ref m13, .int (nI la), .ref m14, .ref m15])), (m1, .inl (E 0, 12, .inl (aN T))), (m2, .inl (E 0, 12, .inl (aN U))), (m3, .inl (E 0, 4096, .inl (aN HI))), (m4, .inl (E 2, 4096, .inl (aN KD))), (m5, .inl (E 3, 4096, .inl (aB HE))), (m6, .inl (E 3, 4096, .inl (aB AV))), (m7, .inl (E 0, 12, .inl (aN MR)))] (fun _ : Unit => True) (fun _ : Unit => [(mo, .inr (7, [.int (nI th), .int (nI n), .ref m1, .ref m2, .ref m3, .ref m4, .ref m5, .ref m6, .int (bI true), .int (bI lg), .int (bI td), .int (nI ld), .int (pI lt), .ref m7, .int (nI (qG kn T U n HI gr)), .int (nI mv), .ref m8, .ref m9, .ref m10, .ref m11, .ref m12, .ref m13, .int (nI la), .ref m14, .ref m15])), (m1, .inl (E 0, 12, .inl (aN T))), (m2, .inl (E 0, 12, .inl (aN U))), (m3, .inl (E 0, 4096, .inl (aN (qH kn T n HI)))), (m4, .inl (E 2, 4096, .inl (aN (qK kn T U n HI KD HE AV)))), (m5, .inl (E 3, 4096, .inl (aB (qE kn T U n HI HE)))), (m6, .inl (E 3, 4096, .inl (aB (qA kn T U n HI HE AV)))), (m7, .inl (E 0, 12, .inl (aN (qR kn T U n HI MR))))]) := by
  refine MV.of (by decide) (Nat.le_of_ble_eq_true rfl) ?_
  intro p e s m args below meth c A C hrt hlk hnm
  refine g_lv (lv' := [(0, .ref mo)]) rfl ?_
  refine g_aload_n C d_Mo_reckon_0 rfl 0 rfl ?_
  refine g_get C lay_Mo 0 rfl rfl 8 (by decide) m_642 rfl d_Mo_reckon_1 ?_
  refine g_if_eqB (tgt := 8) C d_Mo_reckon_4 (by decide) (fun b0 => ?_) (fun b0 => ?_)
  · skip
    refine g_aload_n C d_Mo_reckon_8 rfl 0 rfl ?_
    refine g_iconst (v := nI 1) C d_Mo_reckon_9 (by decide) ?_
    refine g_top (show nI 1 = bI true from rfl) ?_
    refine g_put (ws' := [(mo, .inr (7, [.int (nI th), .int (nI n), .ref m1, .ref m2, .ref m3, .ref m4, .ref m5, .ref m6, .int (bI true), .int (bI lg), .int (bI td), .int (nI ld), .int (pI lt), .ref m7, .int (nI gr), .int (nI mv), .ref m8, .ref m9, .ref m10, .ref m11, .ref m12, .ref m13, .int (nI la), .ref m14, .ref m15])), (m1, .inl (E 0, 12, .inl (aN T))), (m2, .inl (E 0, 12, .inl (aN U))), (m3, .inl (E 0, 4096, .inl (aN HI))), (m4, .inl (E 2, 4096, .inl (aN KD))), (m5, .inl (E 3, 4096, .inl (aB HE))), (m6, .inl (E 3, 4096, .inl (aB AV))), (m7, .inl (E 0, 12, .inl (aN MR)))]) C lay_Mo ty_Mo nm_Mo 0 rfl rfl 8 (by decide) m_642 rfl (bI_nar _) (bI_fit _) (Nat.le_of_ble_eq_true rfl) rfl d_Mo_reckon_10 ?_
    refine g_iconst (v := nI 1) C d_Mo_reckon_13 (by decide) ?_
    refine g_aload_n C d_Mo_reckon_14 rfl 0 rfl ?_
    refine g_get C lay_Mo 0 rfl rfl 1 (by decide) m_635 rfl d_Mo_reckon_15 ?_
    refine g_ishl1N C (by omega) d_Mo_reckon_18 ?_
    refine g_iconst (v := nI 1) C d_Mo_reckon_19 (by decide) ?_
    refine g_isubN C Nat.one_le_two_pow d_Mo_reckon_20 ?_
    refine g_istore_n (lv' := [(1, .int (nI ((2 ^ n) - 1))), (0, .ref mo)]) C d_Mo_reckon_21 rfl (by decide) rfl ?_
    refine g_iconst (v := nI 0) C d_Mo_reckon_22 (by decide) ?_
    refine g_istore_n (lv' := [(2, .int (nI 0)), (1, .int (nI ((2 ^ n) - 1))), (0, .ref mo)]) C d_Mo_reckon_23 rfl (by decide) rfl ?_
    have loop24 : ∀ (f : Nat) (x : Nat) (X1 : Nat → Nat) (X2 : Nat → Nat) (X3 : Nat → Bool), (x ≤ 2 ^ n - 1 + 1) → (X1 = ovw HI (fun x => tgU T x n) x) → (X2 = ovw KD (kd2 T U n) x) → (X3 = ovB HE (adB T U n) x) → 2 ^ n - 1 + 1 - x < f → GG p l e ({ frames := 2, cells := 0, slots := 0, locals := 46 } : Room) s m args below meth c (MQ below (va_Qv (fun _ : Unit => True) (BC D A (fun _ : Unit => [(mo, .inr (7, [.int (nI th), .int (nI n), .ref m1, .ref m2, .ref m3, .ref m4, .ref m5, .ref m6, .int (bI true), .int (bI lg), .int (bI td), .int (nI ld), .int (pI lt), .ref m7, .int (nI (qG kn T U n HI gr)), .int (nI mv), .ref m8, .ref m9, .ref m10, .ref m11, .ref m12, .ref m13, .int (nI la), .ref m14, .ref m15])), (m1, .inl (E 0, 12, .inl (aN T))), (m2, .inl (E 0, 12, .inl (aN U))), (m3, .inl (E 0, 4096, .inl (aN (qH kn T n HI)))), (m4, .inl (E 2, 4096, .inl (aN (qK kn T U n HI KD HE AV)))), (m5, .inl (E 3, 4096, .inl (aB (qE kn T U n HI HE)))), (m6, .inl (E 3, 4096, .inl (aB (qA kn T U n HI HE AV)))), (m7, .inl (E 0, 12, .inl (aN (qR kn T U n HI MR))))])) A) args s (({ frames := 2, cells := 0, slots := 0, locals := 46 } : Room)).cells (({ frames := 2, cells := 0, slots := 0, locals := 46 } : Room)).slots A) D A 4 0 0 24 [(0, .ref mo), (1, .int (nI (2 ^ n - 1))), (2, .int (nI x))] [] [(mo, .inr (7, [.int (nI th), .int (nI n), .ref m1, .ref m2, .ref m3, .ref m4, .ref m5, .ref m6, .int (bI true), .int (bI lg), .int (bI td), .int (nI ld), .int (pI lt), .ref m7, .int (nI gr), .int (nI mv), .ref m8, .ref m9, .ref m10, .ref m11, .ref m12, .ref m13, .int (nI la), .ref m14, .ref m15])), (m1, .inl (E 0, 12, .inl (aN T))), (m2, .inl (E 0, 12, .inl (aN U))), (m3, .inl (E 0, 4096, .inl (aN X1))), (m4, .inl (E 2, 4096, .inl (aN X2))), (m5, .inl (E 3, 4096, .inl (aB X3))), (m6, .inl (E 3, 4096, .inl (aB AV))), (m7, .inl (E 0, 12, .inl (aN MR)))] := by
      intro f
      induction f with
      | zero => intro x X1 X2 X3 hx h1 h2 h3 hf; exact absurd hf (Nat.not_lt_zero _)
      | succ f ih =>
        intro x X1 X2 X3 hx h1 h2 h3 hf
        have ih24 := ih
        refine g_iload_n C d_Mo_reckon_24 rfl 2 rfl ?_
        refine g_iload_n C d_Mo_reckon_25 rfl 1 rfl ?_
        refine g_icmp_gtN (tgt := 201) C (by have := p12_le hn; omega) (ev_lt hn) d_Mo_reckon_26 (by decide) (fun b1 => ?_) (fun b1 => ?_)
        · skip
          refine g_ws (ws' := [(mo, .inr (7, [.int (nI th), .int (nI n), .ref m1, .ref m2, .ref m3, .ref m4, .ref m5, .ref m6, .int (bI true), .int (bI lg), .int (bI td), .int (nI ld), .int (pI lt), .ref m7, .int (nI gr), .int (nI mv), .ref m8, .ref m9, .ref m10, .ref m11, .ref m12, .ref m13, .int (nI la), .ref m14, .ref m15])), (m1, .inl (E 0, 12, .inl (aN T))), (m2, .inl (E 0, 12, .inl (aN U))), (m3, .inl (E 0, 4096, .inl (aN (rkH T n HI)))), (m4, .inl (E 2, 4096, .inl (aN (rkK1 T U n KD)))), (m5, .inl (E 3, 4096, .inl (aB (rkE1 T U n HE)))), (m6, .inl (E 3, 4096, .inl (aB AV))), (m7, .inl (E 0, 12, .inl (aN MR)))]) (by rw [h1, h2, h3, show x = 2 ^ n - 1 + 1 by omega]; rfl) ?_
          refine g_aload_n C d_Mo_reckon_201 rfl 0 rfl ?_
          refine g_vV (rest := []) (wr := [(m1, .inl (E 0, 12, .inl (aN T))), (m2, .inl (E 0, 12, .inl (aN U))), (m3, .inl (E 0, 4096, .inl (aN (rkH T n HI)))), (m4, .inl (E 2, 4096, .inl (aN (rkK1 T U n KD)))), (m7, .inl (E 0, 12, .inl (aN MR)))]) C (o_looksAbove l D E mo m1 m2 m3 m4 m5 m6 m7 m8 m9 m10 m11 m12 m13 m14 m15 th n true lg td ld lt gr mv la (rkE1 T U n HE) AV hn) rd_Mo_looksAbove m_775 m_777 m_28 rfl rfl (Nat.le_of_ble_eq_true rfl) (Nat.le_of_ble_eq_true rfl) (Nat.le_of_ble_eq_true rfl) (Nat.le_of_ble_eq_true rfl) rfl rfl (Nat.le_of_ble_eq_true rfl) d_Mo_reckon_202 [0, 5, 6] [1, 2, 3, 4, 7] rfl (by decide) rfl (by decide) (by decide) (fun _ _ => ?_)
          refine g_cells (ws' := [(mo, .inr (7, [.int (nI th), .int (nI n), .ref m1, .ref m2, .ref m3, .ref m4, .ref m5, .ref m6, .int (bI true), .int (bI lg), .int (bI td), .int (nI ld), .int (pI lt), .ref m7, .int (nI gr), .int (nI mv), .ref m8, .ref m9, .ref m10, .ref m11, .ref m12, .ref m13, .int (nI la), .ref m14, .ref m15])), (m1, .inl (E 0, 12, .inl (aN T))), (m2, .inl (E 0, 12, .inl (aN U))), (m3, .inl (E 0, 4096, .inl (aN (rkH T n HI)))), (m4, .inl (E 2, 4096, .inl (aN (rkK1 T U n KD)))), (m5, .inl (E 3, 4096, .inl (aB (rkE1 T U n HE)))), (m6, .inl (E 3, 4096, .inl (aB (laO (rkE1 T U n HE) AV n (2 ^ n - 1 + 1))))), (m7, .inl (E 0, 12, .inl (aN MR)))]) [5, 0, 1, 2, 3, 6, 7, 4] (by decide) rfl ?_
          refine g_ws (ws' := [(mo, .inr (7, [.int (nI th), .int (nI n), .ref m1, .ref m2, .ref m3, .ref m4, .ref m5, .ref m6, .int (bI true), .int (bI lg), .int (bI td), .int (nI ld), .int (pI lt), .ref m7, .int (nI gr), .int (nI mv), .ref m8, .ref m9, .ref m10, .ref m11, .ref m12, .ref m13, .int (nI la), .ref m14, .ref m15])), (m1, .inl (E 0, 12, .inl (aN T))), (m2, .inl (E 0, 12, .inl (aN U))), (m3, .inl (E 0, 4096, .inl (aN (rkH T n HI)))), (m4, .inl (E 2, 4096, .inl (aN (rkK1 T U n KD)))), (m5, .inl (E 3, 4096, .inl (aB (rkE1 T U n HE)))), (m6, .inl (E 3, 4096, .inl (aB (rkA1 T U n HE AV)))), (m7, .inl (E 0, 12, .inl (aN MR)))]) (rfl) ?_
          refine g_iconst (v := nI 0) C d_Mo_reckon_205 (by decide) ?_
          refine g_istore_n (lv' := [(2, .int (nI 0)), (0, .ref mo), (1, .int (nI (2 ^ n - 1)))]) C d_Mo_reckon_206 rfl (by decide) rfl ?_
          have loop207 : ∀ (f : Nat) (x : Nat) (V : Nat → Nat), (x ≤ 2 ^ n - 1 + 1) → (V = kdU (rkK1 T U n KD) (fun x => rkE1 T U n HE x && !rkA1 T U n HE AV x) 1 x) → 2 ^ n - 1 + 1 - x < f → GG p l e ({ frames := 2, cells := 0, slots := 0, locals := 46 } : Room) s m args below meth c (MQ below (va_Qv (fun _ : Unit => True) (BC D A (fun _ : Unit => [(mo, .inr (7, [.int (nI th), .int (nI n), .ref m1, .ref m2, .ref m3, .ref m4, .ref m5, .ref m6, .int (bI true), .int (bI lg), .int (bI td), .int (nI ld), .int (pI lt), .ref m7, .int (nI (qG kn T U n HI gr)), .int (nI mv), .ref m8, .ref m9, .ref m10, .ref m11, .ref m12, .ref m13, .int (nI la), .ref m14, .ref m15])), (m1, .inl (E 0, 12, .inl (aN T))), (m2, .inl (E 0, 12, .inl (aN U))), (m3, .inl (E 0, 4096, .inl (aN (qH kn T n HI)))), (m4, .inl (E 2, 4096, .inl (aN (qK kn T U n HI KD HE AV)))), (m5, .inl (E 3, 4096, .inl (aB (qE kn T U n HI HE)))), (m6, .inl (E 3, 4096, .inl (aB (qA kn T U n HI HE AV)))), (m7, .inl (E 0, 12, .inl (aN (qR kn T U n HI MR))))])) A) args s (({ frames := 2, cells := 0, slots := 0, locals := 46 } : Room)).cells (({ frames := 2, cells := 0, slots := 0, locals := 46 } : Room)).slots A) D A 4 0 0 207 [(0, .ref mo), (1, .int (nI (2 ^ n - 1))), (2, .int (nI x))] [] [(mo, .inr (7, [.int (nI th), .int (nI n), .ref m1, .ref m2, .ref m3, .ref m4, .ref m5, .ref m6, .int (bI true), .int (bI lg), .int (bI td), .int (nI ld), .int (pI lt), .ref m7, .int (nI gr), .int (nI mv), .ref m8, .ref m9, .ref m10, .ref m11, .ref m12, .ref m13, .int (nI la), .ref m14, .ref m15])), (m1, .inl (E 0, 12, .inl (aN T))), (m2, .inl (E 0, 12, .inl (aN U))), (m3, .inl (E 0, 4096, .inl (aN (rkH T n HI)))), (m4, .inl (E 2, 4096, .inl (aN V))), (m5, .inl (E 3, 4096, .inl (aB (rkE1 T U n HE)))), (m6, .inl (E 3, 4096, .inl (aB (rkA1 T U n HE AV)))), (m7, .inl (E 0, 12, .inl (aN MR)))] := by
            intro f
            induction f with
            | zero => intro x V hx hV hf; exact absurd hf (Nat.not_lt_zero _)
            | succ f ih =>
              intro x V hx hV hf
              have ih207 := ih
              refine g_iload_n C d_Mo_reckon_207 rfl 2 rfl ?_
              refine g_iload_n C d_Mo_reckon_208 rfl 1 rfl ?_
              refine g_icmp_gtN (tgt := 242) C (by have := p12_le hn; omega) (ev_lt hn) d_Mo_reckon_209 (by decide) (fun b11 => ?_) (fun b11 => ?_)
              · skip
                refine g_ws (ws' := [(mo, .inr (7, [.int (nI th), .int (nI n), .ref m1, .ref m2, .ref m3, .ref m4, .ref m5, .ref m6, .int (bI true), .int (bI lg), .int (bI td), .int (nI ld), .int (pI lt), .ref m7, .int (nI gr), .int (nI mv), .ref m8, .ref m9, .ref m10, .ref m11, .ref m12, .ref m13, .int (nI la), .ref m14, .ref m15])), (m1, .inl (E 0, 12, .inl (aN T))), (m2, .inl (E 0, 12, .inl (aN U))), (m3, .inl (E 0, 4096, .inl (aN (rkH T n HI)))), (m4, .inl (E 2, 4096, .inl (aN (rkK2 T U n KD HE AV)))), (m5, .inl (E 3, 4096, .inl (aB (rkE1 T U n HE)))), (m6, .inl (E 3, 4096, .inl (aB (rkA1 T U n HE AV)))), (m7, .inl (E 0, 12, .inl (aN MR)))]) (by rw [hV, show x = 2 ^ n - 1 + 1 by omega]; rfl) ?_
                refine g_iconst (v := nI 0) C d_Mo_reckon_242 (by decide) ?_
                refine g_istore_n (lv' := [(2, .int (nI 0)), (0, .ref mo), (1, .int (nI (2 ^ n - 1)))]) C d_Mo_reckon_243 rfl (by decide) rfl ?_
                have loop244 : ∀ (f : Nat) (x : Nat) (V2 : Nat → Bool), (x ≤ 2 ^ n - 1 + 1) → (V2 = ovB (rkE1 T U n HE) (fun _ => false) x) → 2 ^ n - 1 + 1 - x < f → GG p l e ({ frames := 2, cells := 0, slots := 0, locals := 46 } : Room) s m args below meth c (MQ below (va_Qv (fun _ : Unit => True) (BC D A (fun _ : Unit => [(mo, .inr (7, [.int (nI th), .int (nI n), .ref m1, .ref m2, .ref m3, .ref m4, .ref m5, .ref m6, .int (bI true), .int (bI lg), .int (bI td), .int (nI ld), .int (pI lt), .ref m7, .int (nI (qG kn T U n HI gr)), .int (nI mv), .ref m8, .ref m9, .ref m10, .ref m11, .ref m12, .ref m13, .int (nI la), .ref m14, .ref m15])), (m1, .inl (E 0, 12, .inl (aN T))), (m2, .inl (E 0, 12, .inl (aN U))), (m3, .inl (E 0, 4096, .inl (aN (qH kn T n HI)))), (m4, .inl (E 2, 4096, .inl (aN (qK kn T U n HI KD HE AV)))), (m5, .inl (E 3, 4096, .inl (aB (qE kn T U n HI HE)))), (m6, .inl (E 3, 4096, .inl (aB (qA kn T U n HI HE AV)))), (m7, .inl (E 0, 12, .inl (aN (qR kn T U n HI MR))))])) A) args s (({ frames := 2, cells := 0, slots := 0, locals := 46 } : Room)).cells (({ frames := 2, cells := 0, slots := 0, locals := 46 } : Room)).slots A) D A 4 0 0 244 [(0, .ref mo), (1, .int (nI (2 ^ n - 1))), (2, .int (nI x))] [] [(mo, .inr (7, [.int (nI th), .int (nI n), .ref m1, .ref m2, .ref m3, .ref m4, .ref m5, .ref m6, .int (bI true), .int (bI lg), .int (bI td), .int (nI ld), .int (pI lt), .ref m7, .int (nI gr), .int (nI mv), .ref m8, .ref m9, .ref m10, .ref m11, .ref m12, .ref m13, .int (nI la), .ref m14, .ref m15])), (m1, .inl (E 0, 12, .inl (aN T))), (m2, .inl (E 0, 12, .inl (aN U))), (m3, .inl (E 0, 4096, .inl (aN (rkH T n HI)))), (m4, .inl (E 2, 4096, .inl (aN (rkK2 T U n KD HE AV)))), (m5, .inl (E 3, 4096, .inl (aB V2))), (m6, .inl (E 3, 4096, .inl (aB (rkA1 T U n HE AV)))), (m7, .inl (E 0, 12, .inl (aN MR)))] := by
                  intro f
                  induction f with
                  | zero => intro x V2 hx hV2 hf; exact absurd hf (Nat.not_lt_zero _)
                  | succ f ih =>
                    intro x V2 hx hV2 hf
                    have ih244 := ih
                    refine g_iload_n C d_Mo_reckon_244 rfl 2 rfl ?_
                    refine g_iload_n C d_Mo_reckon_245 rfl 1 rfl ?_
                    refine g_icmp_gtN (tgt := 262) C (by have := p12_le hn; omega) (ev_lt hn) d_Mo_reckon_246 (by decide) (fun b14 => ?_) (fun b14 => ?_)
                    · skip
                      refine g_ws (ws' := [(mo, .inr (7, [.int (nI th), .int (nI n), .ref m1, .ref m2, .ref m3, .ref m4, .ref m5, .ref m6, .int (bI true), .int (bI lg), .int (bI td), .int (nI ld), .int (pI lt), .ref m7, .int (nI gr), .int (nI mv), .ref m8, .ref m9, .ref m10, .ref m11, .ref m12, .ref m13, .int (nI la), .ref m14, .ref m15])), (m1, .inl (E 0, 12, .inl (aN T))), (m2, .inl (E 0, 12, .inl (aN U))), (m3, .inl (E 0, 4096, .inl (aN (rkH T n HI)))), (m4, .inl (E 2, 4096, .inl (aN (rkK2 T U n KD HE AV)))), (m5, .inl (E 3, 4096, .inl (aB (rkE2 T U n HE)))), (m6, .inl (E 3, 4096, .inl (aB (rkA1 T U n HE AV)))), (m7, .inl (E 0, 12, .inl (aN MR)))]) (by rw [hV2, show x = 2 ^ n - 1 + 1 by omega]; rfl) ?_
                      refine g_iconst (v := nI 0) C d_Mo_reckon_262 (by decide) ?_
                      refine g_istore_n (lv' := [(2, .int (nI 0)), (0, .ref mo), (1, .int (nI (2 ^ n - 1)))]) C d_Mo_reckon_263 rfl (by decide) rfl ?_
                      have loop264 : ∀ (f : Nat) (x : Nat) (V3 : Nat → Bool), (x ≤ 2 ^ n - 1 + 1) → (V3 = rnB (rkH T n HI) (rkE2 T U n HE) x) → 2 ^ n - 1 + 1 - x < f → GG p l e ({ frames := 2, cells := 0, slots := 0, locals := 46 } : Room) s m args below meth c (MQ below (va_Qv (fun _ : Unit => True) (BC D A (fun _ : Unit => [(mo, .inr (7, [.int (nI th), .int (nI n), .ref m1, .ref m2, .ref m3, .ref m4, .ref m5, .ref m6, .int (bI true), .int (bI lg), .int (bI td), .int (nI ld), .int (pI lt), .ref m7, .int (nI (qG kn T U n HI gr)), .int (nI mv), .ref m8, .ref m9, .ref m10, .ref m11, .ref m12, .ref m13, .int (nI la), .ref m14, .ref m15])), (m1, .inl (E 0, 12, .inl (aN T))), (m2, .inl (E 0, 12, .inl (aN U))), (m3, .inl (E 0, 4096, .inl (aN (qH kn T n HI)))), (m4, .inl (E 2, 4096, .inl (aN (qK kn T U n HI KD HE AV)))), (m5, .inl (E 3, 4096, .inl (aB (qE kn T U n HI HE)))), (m6, .inl (E 3, 4096, .inl (aB (qA kn T U n HI HE AV)))), (m7, .inl (E 0, 12, .inl (aN (qR kn T U n HI MR))))])) A) args s (({ frames := 2, cells := 0, slots := 0, locals := 46 } : Room)).cells (({ frames := 2, cells := 0, slots := 0, locals := 46 } : Room)).slots A) D A 4 0 0 264 [(0, .ref mo), (1, .int (nI (2 ^ n - 1))), (2, .int (nI x))] [] [(mo, .inr (7, [.int (nI th), .int (nI n), .ref m1, .ref m2, .ref m3, .ref m4, .ref m5, .ref m6, .int (bI true), .int (bI lg), .int (bI td), .int (nI ld), .int (pI lt), .ref m7, .int (nI gr), .int (nI mv), .ref m8, .ref m9, .ref m10, .ref m11, .ref m12, .ref m13, .int (nI la), .ref m14, .ref m15])), (m1, .inl (E 0, 12, .inl (aN T))), (m2, .inl (E 0, 12, .inl (aN U))), (m3, .inl (E 0, 4096, .inl (aN (rkH T n HI)))), (m4, .inl (E 2, 4096, .inl (aN (rkK2 T U n KD HE AV)))), (m5, .inl (E 3, 4096, .inl (aB V3))), (m6, .inl (E 3, 4096, .inl (aB (rkA1 T U n HE AV)))), (m7, .inl (E 0, 12, .inl (aN MR)))] := by
                        intro f
                        induction f with
                        | zero => intro x V3 hx hV3 hf; exact absurd hf (Nat.not_lt_zero _)
                        | succ f ih =>
                          intro x V3 hx hV3 hf
                          have ih264 := ih
                          refine g_iload_n C d_Mo_reckon_264 rfl 2 rfl ?_
                          refine g_iload_n C d_Mo_reckon_265 rfl 1 rfl ?_
                          refine g_icmp_gtN (tgt := 297) C (by have := p12_le hn; omega) (ev_lt hn) d_Mo_reckon_266 (by decide) (fun b15 => ?_) (fun b15 => ?_)
                          · skip
                            refine g_ws (ws' := [(mo, .inr (7, [.int (nI th), .int (nI n), .ref m1, .ref m2, .ref m3, .ref m4, .ref m5, .ref m6, .int (bI true), .int (bI lg), .int (bI td), .int (nI ld), .int (pI lt), .ref m7, .int (nI gr), .int (nI mv), .ref m8, .ref m9, .ref m10, .ref m11, .ref m12, .ref m13, .int (nI la), .ref m14, .ref m15])), (m1, .inl (E 0, 12, .inl (aN T))), (m2, .inl (E 0, 12, .inl (aN U))), (m3, .inl (E 0, 4096, .inl (aN (rkH T n HI)))), (m4, .inl (E 2, 4096, .inl (aN (rkK2 T U n KD HE AV)))), (m5, .inl (E 3, 4096, .inl (aB (rkE3 T U n HI HE)))), (m6, .inl (E 3, 4096, .inl (aB (rkA1 T U n HE AV)))), (m7, .inl (E 0, 12, .inl (aN MR)))]) (by rw [hV3, show x = 2 ^ n - 1 + 1 by omega]; rfl) ?_
                            refine g_aload_n C d_Mo_reckon_297 rfl 0 rfl ?_
                            refine g_vV (rest := []) (wr := [(m1, .inl (E 0, 12, .inl (aN T))), (m2, .inl (E 0, 12, .inl (aN U))), (m3, .inl (E 0, 4096, .inl (aN (rkH T n HI)))), (m4, .inl (E 2, 4096, .inl (aN (rkK2 T U n KD HE AV)))), (m7, .inl (E 0, 12, .inl (aN MR)))]) C (o_looksAbove l D E mo m1 m2 m3 m4 m5 m6 m7 m8 m9 m10 m11 m12 m13 m14 m15 th n true lg td ld lt gr mv la (rkE3 T U n HI HE) (rkA1 T U n HE AV) hn) rd_Mo_looksAbove m_775 m_777 m_28 rfl rfl (Nat.le_of_ble_eq_true rfl) (Nat.le_of_ble_eq_true rfl) (Nat.le_of_ble_eq_true rfl) (Nat.le_of_ble_eq_true rfl) rfl rfl (Nat.le_of_ble_eq_true rfl) d_Mo_reckon_298 [0, 5, 6] [1, 2, 3, 4, 7] rfl (by decide) rfl (by decide) (by decide) (fun _ _ => ?_)
                            refine g_cells (ws' := [(mo, .inr (7, [.int (nI th), .int (nI n), .ref m1, .ref m2, .ref m3, .ref m4, .ref m5, .ref m6, .int (bI true), .int (bI lg), .int (bI td), .int (nI ld), .int (pI lt), .ref m7, .int (nI gr), .int (nI mv), .ref m8, .ref m9, .ref m10, .ref m11, .ref m12, .ref m13, .int (nI la), .ref m14, .ref m15])), (m1, .inl (E 0, 12, .inl (aN T))), (m2, .inl (E 0, 12, .inl (aN U))), (m3, .inl (E 0, 4096, .inl (aN (rkH T n HI)))), (m4, .inl (E 2, 4096, .inl (aN (rkK2 T U n KD HE AV)))), (m5, .inl (E 3, 4096, .inl (aB (rkE3 T U n HI HE)))), (m6, .inl (E 3, 4096, .inl (aB (laO (rkE3 T U n HI HE) (rkA1 T U n HE AV) n (2 ^ n - 1 + 1))))), (m7, .inl (E 0, 12, .inl (aN MR)))]) [5, 0, 1, 2, 3, 6, 7, 4] (by decide) rfl ?_
                            refine g_ws (ws' := [(mo, .inr (7, [.int (nI th), .int (nI n), .ref m1, .ref m2, .ref m3, .ref m4, .ref m5, .ref m6, .int (bI true), .int (bI lg), .int (bI td), .int (nI ld), .int (pI lt), .ref m7, .int (nI gr), .int (nI mv), .ref m8, .ref m9, .ref m10, .ref m11, .ref m12, .ref m13, .int (nI la), .ref m14, .ref m15])), (m1, .inl (E 0, 12, .inl (aN T))), (m2, .inl (E 0, 12, .inl (aN U))), (m3, .inl (E 0, 4096, .inl (aN (rkH T n HI)))), (m4, .inl (E 2, 4096, .inl (aN (rkK2 T U n KD HE AV)))), (m5, .inl (E 3, 4096, .inl (aB (rkE3 T U n HI HE)))), (m6, .inl (E 3, 4096, .inl (aB (rkA2 T U n HI HE AV)))), (m7, .inl (E 0, 12, .inl (aN MR)))]) (rfl) ?_
                            refine g_iconst (v := nI 0) C d_Mo_reckon_301 (by decide) ?_
                            refine g_istore_n (lv' := [(2, .int (nI 0)), (0, .ref mo), (1, .int (nI (2 ^ n - 1)))]) C d_Mo_reckon_302 rfl (by decide) rfl ?_
                            have loop303 : ∀ (f : Nat) (x : Nat) (V4 : Nat → Nat), (x ≤ 2 ^ n - 1 + 1) → (V4 = kdU (rkK2 T U n KD HE AV) (fun x => (rkH T n HI x &&& x == 0) && !rkA2 T U n HI HE AV (x ||| rkH T n HI x)) 3 x) → 2 ^ n - 1 + 1 - x < f → GG p l e ({ frames := 2, cells := 0, slots := 0, locals := 46 } : Room) s m args below meth c (MQ below (va_Qv (fun _ : Unit => True) (BC D A (fun _ : Unit => [(mo, .inr (7, [.int (nI th), .int (nI n), .ref m1, .ref m2, .ref m3, .ref m4, .ref m5, .ref m6, .int (bI true), .int (bI lg), .int (bI td), .int (nI ld), .int (pI lt), .ref m7, .int (nI (qG kn T U n HI gr)), .int (nI mv), .ref m8, .ref m9, .ref m10, .ref m11, .ref m12, .ref m13, .int (nI la), .ref m14, .ref m15])), (m1, .inl (E 0, 12, .inl (aN T))), (m2, .inl (E 0, 12, .inl (aN U))), (m3, .inl (E 0, 4096, .inl (aN (qH kn T n HI)))), (m4, .inl (E 2, 4096, .inl (aN (qK kn T U n HI KD HE AV)))), (m5, .inl (E 3, 4096, .inl (aB (qE kn T U n HI HE)))), (m6, .inl (E 3, 4096, .inl (aB (qA kn T U n HI HE AV)))), (m7, .inl (E 0, 12, .inl (aN (qR kn T U n HI MR))))])) A) args s (({ frames := 2, cells := 0, slots := 0, locals := 46 } : Room)).cells (({ frames := 2, cells := 0, slots := 0, locals := 46 } : Room)).slots A) D A 4 0 0 303 [(0, .ref mo), (1, .int (nI (2 ^ n - 1))), (2, .int (nI x))] [] [(mo, .inr (7, [.int (nI th), .int (nI n), .ref m1, .ref m2, .ref m3, .ref m4, .ref m5, .ref m6, .int (bI true), .int (bI lg), .int (bI td), .int (nI ld), .int (pI lt), .ref m7, .int (nI gr), .int (nI mv), .ref m8, .ref m9, .ref m10, .ref m11, .ref m12, .ref m13, .int (nI la), .ref m14, .ref m15])), (m1, .inl (E 0, 12, .inl (aN T))), (m2, .inl (E 0, 12, .inl (aN U))), (m3, .inl (E 0, 4096, .inl (aN (rkH T n HI)))), (m4, .inl (E 2, 4096, .inl (aN V4))), (m5, .inl (E 3, 4096, .inl (aB (rkE3 T U n HI HE)))), (m6, .inl (E 3, 4096, .inl (aB (rkA2 T U n HI HE AV)))), (m7, .inl (E 0, 12, .inl (aN MR)))] := by
                              intro f
                              induction f with
                              | zero => intro x V4 hx hV4 hf; exact absurd hf (Nat.not_lt_zero _)
                              | succ f ih =>
                                intro x V4 hx hV4 hf
                                have ih303 := ih
                                refine g_iload_n C d_Mo_reckon_303 rfl 2 rfl ?_
                                refine g_iload_n C d_Mo_reckon_304 rfl 1 rfl ?_
                                refine g_icmp_gtN (tgt := 344) C (by have := p12_le hn; omega) (ev_lt hn) d_Mo_reckon_305 (by decide) (fun b17 => ?_) (fun b17 => ?_)
                                · skip
                                  refine g_ws (ws' := [(mo, .inr (7, [.int (nI th), .int (nI n), .ref m1, .ref m2, .ref m3, .ref m4, .ref m5, .ref m6, .int (bI true), .int (bI lg), .int (bI td), .int (nI ld), .int (pI lt), .ref m7, .int (nI gr), .int (nI mv), .ref m8, .ref m9, .ref m10, .ref m11, .ref m12, .ref m13, .int (nI la), .ref m14, .ref m15])), (m1, .inl (E 0, 12, .inl (aN T))), (m2, .inl (E 0, 12, .inl (aN U))), (m3, .inl (E 0, 4096, .inl (aN (rkH T n HI)))), (m4, .inl (E 2, 4096, .inl (aN (rkK3 T U n HI KD HE AV)))), (m5, .inl (E 3, 4096, .inl (aB (rkE3 T U n HI HE)))), (m6, .inl (E 3, 4096, .inl (aB (rkA2 T U n HI HE AV)))), (m7, .inl (E 0, 12, .inl (aN MR)))]) (by rw [hV4, show x = 2 ^ n - 1 + 1 by omega]; rfl) ?_
                                  refine g_aload_n C d_Mo_reckon_344 rfl 0 rfl ?_
                                  refine g_vV (rest := []) (wr := [(m1, .inl (E 0, 12, .inl (aN T))), (m4, .inl (E 2, 4096, .inl (aN (rkK3 T U n HI KD HE AV)))), (m5, .inl (E 3, 4096, .inl (aB (rkE3 T U n HI HE)))), (m6, .inl (E 3, 4096, .inl (aB (rkA2 T U n HI HE AV))))]) C (o_goesRound l D E mo m1 m2 m3 m4 m5 m6 m7 m8 m9 m10 m11 m12 m13 m14 m15 th n true lg td ld lt gr mv la U (rkH T n HI) MR hn hU (rkH_b hT hHI)) rd_Mo_goesRound m_779 m_781 m_29 rfl rfl (Nat.le_of_ble_eq_true rfl) (Nat.le_of_ble_eq_true rfl) (Nat.le_of_ble_eq_true rfl) (Nat.le_of_ble_eq_true rfl) rfl rfl (Nat.le_of_ble_eq_true rfl) d_Mo_reckon_345 [0, 2, 3, 7] [1, 4, 5, 6] rfl (by decide) rfl (by decide) (by decide) (fun _ _ => ?_)
                                  refine g_cells (ws' := [(mo, .inr (7, [.int (nI th), .int (nI n), .ref m1, .ref m2, .ref m3, .ref m4, .ref m5, .ref m6, .int (bI true), .int (bI lg), .int (bI td), .int (nI ld), .int (pI lt), .ref m7, .int (nI (rdA (rkH T n HI) U n n)), .int (nI mv), .ref m8, .ref m9, .ref m10, .ref m11, .ref m12, .ref m13, .int (nI la), .ref m14, .ref m15])), (m1, .inl (E 0, 12, .inl (aN T))), (m2, .inl (E 0, 12, .inl (aN U))), (m3, .inl (E 0, 4096, .inl (aN (rkH T n HI)))), (m4, .inl (E 2, 4096, .inl (aN (rkK3 T U n HI KD HE AV)))), (m5, .inl (E 3, 4096, .inl (aB (rkE3 T U n HI HE)))), (m6, .inl (E 3, 4096, .inl (aB (rkA2 T U n HI HE AV)))), (m7, .inl (E 0, 12, .inl (aN (rdR (rkH T n HI) U n (ovw MR (fun _ => 0) n) n))))]) [4, 0, 5, 6, 1, 2, 3, 7] (by decide) rfl ?_
                                  exact g_vret C hrt hlk () (trivial) (by subst b0; rfl) d_Mo_reckon_348
                                · skip
                                  refine g_aload_n C d_Mo_reckon_308 rfl 0 rfl ?_
                                  refine g_iload_n C d_Mo_reckon_309 rfl 2 rfl ?_
                                  refine g_iV (rest := []) (wr := [(m1, .inl (E 0, 12, .inl (aN T))), (m2, .inl (E 0, 12, .inl (aN U))), (m4, .inl (E 2, 4096, .inl (aN V4))), (m5, .inl (E 3, 4096, .inl (aB (rkE3 T U n HI HE)))), (m6, .inl (E 3, 4096, .inl (aB (rkA2 T U n HI HE AV)))), (m7, .inl (E 0, 12, .inl (aN MR)))]) C (o_isFreeSet l D E mo m1 m2 m3 m4 m5 m6 m7 m8 m9 m10 m11 m12 m13 m14 m15 th n true lg td ld lt gr mv la (rkH T n HI) x (by have := p12_le hn; have := Nat.one_le_two_pow (n := n); omega)) rd_Mo_isFreeSet m_767 m_769 m_26 rfl rfl (Nat.le_of_ble_eq_true rfl) (Nat.le_of_ble_eq_true rfl) (Nat.le_of_ble_eq_true rfl) (Nat.le_of_ble_eq_true rfl) rfl rfl (Nat.le_of_ble_eq_true rfl) d_Mo_reckon_310 [0, 3] [1, 2, 4, 5, 6, 7] rfl (by decide) rfl (by decide) (by decide) (fun r310 _ (hr310 : r310 = bI ((rkH T n HI) x &&& x == 0)) => ?_)
                                  subst hr310
                                  refine g_cells (ws' := [(mo, .inr (7, [.int (nI th), .int (nI n), .ref m1, .ref m2, .ref m3, .ref m4, .ref m5, .ref m6, .int (bI true), .int (bI lg), .int (bI td), .int (nI ld), .int (pI lt), .ref m7, .int (nI gr), .int (nI mv), .ref m8, .ref m9, .ref m10, .ref m11, .ref m12, .ref m13, .int (nI la), .ref m14, .ref m15])), (m1, .inl (E 0, 12, .inl (aN T))), (m2, .inl (E 0, 12, .inl (aN U))), (m3, .inl (E 0, 4096, .inl (aN (rkH T n HI)))), (m4, .inl (E 2, 4096, .inl (aN V4))), (m5, .inl (E 3, 4096, .inl (aB (rkE3 T U n HI HE)))), (m6, .inl (E 3, 4096, .inl (aB (rkA2 T U n HI HE AV)))), (m7, .inl (E 0, 12, .inl (aN MR)))]) [6, 0, 1, 7, 2, 3, 4, 5] (by decide) rfl ?_
                                  refine g_if_eqB (tgt := 338) C d_Mo_reckon_313 (by decide) (fun b18 => ?_) (fun b18 => ?_)
                                  · skip
                                    refine g_iinc (lv' := [(2, .int (nI (x + 1))), (0, .ref mo), (1, .int (nI (2 ^ n - 1)))]) C d_Mo_reckon_338 2 rfl (nI_1 _) (by decide) rfl ?_
                                    refine g_goto (tgt := 303) C d_Mo_reckon_341 (by decide) ?_
                                    refine g_perm [1, 2, 0] rfl ?_
                                    exact ih303 (x + 1) V4 (by omega) (by first | exact kst_y hV4 (by rw [b18, b19]; rfl) | exact kst_n hV4 (by rw [b18, b19]; rfl) | exact kst_n hV4 (by rw [b18]; rfl)) (by omega)
                                  · skip
                                    refine g_aload_n C d_Mo_reckon_316 rfl 0 rfl ?_
                                    refine g_get C lay_Mo 0 rfl rfl 7 (by decide) m_641 rfl d_Mo_reckon_317 ?_
                                    refine g_iload_n C d_Mo_reckon_320 rfl 2 rfl ?_
                                    refine g_aload_n C d_Mo_reckon_321 rfl 0 rfl ?_
                                    refine g_get C lay_Mo 0 rfl rfl 4 (by decide) m_638 rfl d_Mo_reckon_322 ?_
                                    refine g_iload_n C d_Mo_reckon_325 rfl 2 rfl ?_
                                    refine g_ialdN C 3 rfl (by have := p12_le hn; have := Nat.one_le_two_pow (n := n); omega) (by decide) d_Mo_reckon_326 ?_
                                    refine g_top (show (aN (rkH T n HI)) x = nI ((rkH T n HI) x) from rfl) ?_
                                    refine g_iorN C d_Mo_reckon_327 ?_
                                    refine g_zaldN C 6 rfl (orl (by have := p12_le hn; have := Nat.one_le_two_pow (n := n); omega) (rkH_b hT hHI _)) (by decide) d_Mo_reckon_328 ?_
                                    refine g_top (show (aB (rkA2 T U n HI HE AV)) (x ||| ((rkH T n HI) x)) = bI ((rkA2 T U n HI HE AV) (x ||| ((rkH T n HI) x))) from rfl) ?_
                                    refine g_if_neB (tgt := 338) C d_Mo_reckon_329 (by decide) (fun b19 => ?_) (fun b19 => ?_)
                                    · skip
                                      refine g_iinc (lv' := [(2, .int (nI (x + 1))), (0, .ref mo), (1, .int (nI (2 ^ n - 1)))]) C d_Mo_reckon_338 2 rfl (nI_1 _) (by decide) rfl ?_
                                      refine g_goto (tgt := 303) C d_Mo_reckon_341 (by decide) ?_
                                      refine g_perm [1, 2, 0] rfl ?_
                                      exact ih303 (x + 1) V4 (by omega) (by first | exact kst_y hV4 (by rw [b18, b19]; rfl) | exact kst_n hV4 (by rw [b18, b19]; rfl) | exact kst_n hV4 (by rw [b18]; rfl)) (by omega)
                                    · skip
                                      refine g_aload_n C d_Mo_reckon_332 rfl 0 rfl ?_
                                      refine g_iload_n C d_Mo_reckon_333 rfl 2 rfl ?_
                                      refine g_iconst (v := nI 3) C d_Mo_reckon_334 (by decide) ?_
                                      refine g_vV (rest := []) (wr := [(m1, .inl (E 0, 12, .inl (aN T))), (m2, .inl (E 0, 12, .inl (aN U))), (m3, .inl (E 0, 4096, .inl (aN (rkH T n HI)))), (m5, .inl (E 3, 4096, .inl (aB (rkE3 T U n HI HE)))), (m6, .inl (E 3, 4096, .inl (aB (rkA2 T U n HI HE AV)))), (m7, .inl (E 0, 12, .inl (aN MR)))]) C (o_adds l D E mo m1 m2 m3 m4 m5 m6 m7 m8 m9 m10 m11 m12 m13 m14 m15 th n true lg td ld lt gr mv la V4 x 3 (by have := p12_le hn; have := Nat.one_le_two_pow (n := n); omega) (by decide) (by rw [hV4]; exact kdU_lt (by decide) (rkK2_b hKD) _)) rd_Mo_adds m_771 m_773 m_27 rfl rfl (Nat.le_of_ble_eq_true rfl) (Nat.le_of_ble_eq_true rfl) (Nat.le_of_ble_eq_true rfl) (Nat.le_of_ble_eq_true rfl) rfl rfl (Nat.le_of_ble_eq_true rfl) d_Mo_reckon_335 [0, 4] [1, 2, 3, 5, 6, 7] rfl (by decide) rfl (by decide) (by decide) (fun _ _ => ?_)
                                      refine g_cells (ws' := [(mo, .inr (7, [.int (nI th), .int (nI n), .ref m1, .ref m2, .ref m3, .ref m4, .ref m5, .ref m6, .int (bI true), .int (bI lg), .int (bI td), .int (nI ld), .int (pI lt), .ref m7, .int (nI gr), .int (nI mv), .ref m8, .ref m9, .ref m10, .ref m11, .ref m12, .ref m13, .int (nI la), .ref m14, .ref m15])), (m1, .inl (E 0, 12, .inl (aN T))), (m2, .inl (E 0, 12, .inl (aN U))), (m3, .inl (E 0, 4096, .inl (aN (rkH T n HI)))), (m4, .inl (E 2, 4096, .inl (aN (va_up V4 x (V4 x ||| 2 ^ 3))))), (m5, .inl (E 3, 4096, .inl (aB (rkE3 T U n HI HE)))), (m6, .inl (E 3, 4096, .inl (aB (rkA2 T U n HI HE AV)))), (m7, .inl (E 0, 12, .inl (aN MR)))]) [6, 0, 1, 2, 7, 3, 4, 5] (by decide) rfl ?_
                                      refine g_iinc (lv' := [(2, .int (nI (x + 1))), (0, .ref mo), (1, .int (nI (2 ^ n - 1)))]) C d_Mo_reckon_338 2 rfl (nI_1 _) (by decide) rfl ?_
                                      refine g_goto (tgt := 303) C d_Mo_reckon_341 (by decide) ?_
                                      refine g_perm [1, 2, 0] rfl ?_
                                      exact ih303 (x + 1) (va_up V4 x (V4 x ||| 2 ^ 3)) (by omega) (by first | exact kst_y hV4 (by rw [b18, b19]; rfl) | exact kst_n hV4 (by rw [b18, b19]; rfl) | exact kst_n hV4 (by rw [b18]; rfl)) (by omega)
                            refine g_perm [1, 2, 0] rfl ?_
                            exact loop303 (2 ^ n - 1 + 1 - 0 + 1) 0 (rkK2 T U n KD HE AV) (Nat.zero_le _) ((kdU_0 _ _ _).symm) (Nat.lt_succ_self _)
                          · skip
                            refine g_aload_n C d_Mo_reckon_269 rfl 0 rfl ?_
                            refine g_iload_n C d_Mo_reckon_270 rfl 2 rfl ?_
                            refine g_iV (rest := []) (wr := [(m1, .inl (E 0, 12, .inl (aN T))), (m2, .inl (E 0, 12, .inl (aN U))), (m4, .inl (E 2, 4096, .inl (aN (rkK2 T U n KD HE AV)))), (m5, .inl (E 3, 4096, .inl (aB V3))), (m6, .inl (E 3, 4096, .inl (aB (rkA1 T U n HE AV)))), (m7, .inl (E 0, 12, .inl (aN MR)))]) C (o_isFreeSet l D E mo m1 m2 m3 m4 m5 m6 m7 m8 m9 m10 m11 m12 m13 m14 m15 th n true lg td ld lt gr mv la (rkH T n HI) x (by have := p12_le hn; have := Nat.one_le_two_pow (n := n); omega)) rd_Mo_isFreeSet m_767 m_769 m_26 rfl rfl (Nat.le_of_ble_eq_true rfl) (Nat.le_of_ble_eq_true rfl) (Nat.le_of_ble_eq_true rfl) (Nat.le_of_ble_eq_true rfl) rfl rfl (Nat.le_of_ble_eq_true rfl) d_Mo_reckon_271 [0, 3] [1, 2, 4, 5, 6, 7] rfl (by decide) rfl (by decide) (by decide) (fun r271 _ (hr271 : r271 = bI ((rkH T n HI) x &&& x == 0)) => ?_)
                            subst hr271
                            refine g_cells (ws' := [(mo, .inr (7, [.int (nI th), .int (nI n), .ref m1, .ref m2, .ref m3, .ref m4, .ref m5, .ref m6, .int (bI true), .int (bI lg), .int (bI td), .int (nI ld), .int (pI lt), .ref m7, .int (nI gr), .int (nI mv), .ref m8, .ref m9, .ref m10, .ref m11, .ref m12, .ref m13, .int (nI la), .ref m14, .ref m15])), (m1, .inl (E 0, 12, .inl (aN T))), (m2, .inl (E 0, 12, .inl (aN U))), (m3, .inl (E 0, 4096, .inl (aN (rkH T n HI)))), (m4, .inl (E 2, 4096, .inl (aN (rkK2 T U n KD HE AV)))), (m5, .inl (E 3, 4096, .inl (aB V3))), (m6, .inl (E 3, 4096, .inl (aB (rkA1 T U n HE AV)))), (m7, .inl (E 0, 12, .inl (aN MR)))]) [6, 0, 1, 7, 2, 3, 4, 5] (by decide) rfl ?_
                            refine g_if_eqB (tgt := 291) C d_Mo_reckon_274 (by decide) (fun b16 => ?_) (fun b16 => ?_)
                            · skip
                              refine g_iinc (lv' := [(2, .int (nI (x + 1))), (0, .ref mo), (1, .int (nI (2 ^ n - 1)))]) C d_Mo_reckon_291 2 rfl (nI_1 _) (by decide) rfl ?_
                              refine g_goto (tgt := 264) C d_Mo_reckon_294 (by decide) ?_
                              refine g_perm [1, 2, 0] rfl ?_
                              exact ih264 (x + 1) V3 (by omega) (by simp only [rnB, ← hV3, b16]; rfl) (by omega)
                            · skip
                              refine g_aload_n C d_Mo_reckon_277 rfl 0 rfl ?_
                              refine g_get C lay_Mo 0 rfl rfl 6 (by decide) m_640 rfl d_Mo_reckon_278 ?_
                              refine g_iload_n C d_Mo_reckon_281 rfl 2 rfl ?_
                              refine g_aload_n C d_Mo_reckon_282 rfl 0 rfl ?_
                              refine g_get C lay_Mo 0 rfl rfl 4 (by decide) m_638 rfl d_Mo_reckon_283 ?_
                              refine g_iload_n C d_Mo_reckon_286 rfl 2 rfl ?_
                              refine g_ialdN C 3 rfl (by have := p12_le hn; have := Nat.one_le_two_pow (n := n); omega) (by decide) d_Mo_reckon_287 ?_
                              refine g_top (show (aN (rkH T n HI)) x = nI ((rkH T n HI) x) from rfl) ?_
                              refine g_iorN C d_Mo_reckon_288 ?_
                              refine g_iconst (v := nI 1) C d_Mo_reckon_289 (by decide) ?_
                              refine g_top (show nI 1 = bI true from rfl) ?_
                              refine g_zastN (f' := aB (va_up V3 (x ||| ((rkH T n HI) x)) true)) (ws' := [(mo, .inr (7, [.int (nI th), .int (nI n), .ref m1, .ref m2, .ref m3, .ref m4, .ref m5, .ref m6, .int (bI true), .int (bI lg), .int (bI td), .int (nI ld), .int (pI lt), .ref m7, .int (nI gr), .int (nI mv), .ref m8, .ref m9, .ref m10, .ref m11, .ref m12, .ref m13, .int (nI la), .ref m14, .ref m15])), (m1, .inl (E 0, 12, .inl (aN T))), (m2, .inl (E 0, 12, .inl (aN U))), (m3, .inl (E 0, 4096, .inl (aN (rkH T n HI)))), (m4, .inl (E 2, 4096, .inl (aN (rkK2 T U n KD HE AV)))), (m5, .inl (E 3, 4096, .inl (aB (va_up V3 (x ||| ((rkH T n HI) x)) true)))), (m6, .inl (E 3, 4096, .inl (aB (rkA1 T U n HE AV)))), (m7, .inl (E 0, 12, .inl (aN MR)))]) C 5 rfl (orl (by have := p12_le hn; have := Nat.one_le_two_pow (n := n); omega) (rkH_b hT hHI _)) (by decide) (aB_up _ _ _) rfl d_Mo_reckon_290 ?_
                              refine g_iinc (lv' := [(2, .int (nI (x + 1))), (0, .ref mo), (1, .int (nI (2 ^ n - 1)))]) C d_Mo_reckon_291 2 rfl (nI_1 _) (by decide) rfl ?_
                              refine g_goto (tgt := 264) C d_Mo_reckon_294 (by decide) ?_
                              refine g_perm [1, 2, 0] rfl ?_
                              exact ih264 (x + 1) (va_up V3 (x ||| ((rkH T n HI) x)) true) (by omega) (by simp only [rnB, ← hV3, b16]; rfl) (by omega)
                      refine g_perm [1, 2, 0] rfl ?_
                      exact loop264 (2 ^ n - 1 + 1 - 0 + 1) 0 (rkE2 T U n HE) (Nat.zero_le _) (rfl) (Nat.lt_succ_self _)
                    · skip
                      refine g_aload_n C d_Mo_reckon_249 rfl 0 rfl ?_
                      refine g_get C lay_Mo 0 rfl rfl 6 (by decide) m_640 rfl d_Mo_reckon_250 ?_
                      refine g_iload_n C d_Mo_reckon_253 rfl 2 rfl ?_
                      refine g_iconst (v := nI 0) C d_Mo_reckon_254 (by decide) ?_
                      refine g_top (show nI 0 = bI false from rfl) ?_
                      refine g_zastN (f' := aB (va_up V2 x false)) (ws' := [(mo, .inr (7, [.int (nI th), .int (nI n), .ref m1, .ref m2, .ref m3, .ref m4, .ref m5, .ref m6, .int (bI true), .int (bI lg), .int (bI td), .int (nI ld), .int (pI lt), .ref m7, .int (nI gr), .int (nI mv), .ref m8, .ref m9, .ref m10, .ref m11, .ref m12, .ref m13, .int (nI la), .ref m14, .ref m15])), (m1, .inl (E 0, 12, .inl (aN T))), (m2, .inl (E 0, 12, .inl (aN U))), (m3, .inl (E 0, 4096, .inl (aN (rkH T n HI)))), (m4, .inl (E 2, 4096, .inl (aN (rkK2 T U n KD HE AV)))), (m5, .inl (E 3, 4096, .inl (aB (va_up V2 x false)))), (m6, .inl (E 3, 4096, .inl (aB (rkA1 T U n HE AV)))), (m7, .inl (E 0, 12, .inl (aN MR)))]) C 5 rfl (by have := p12_le hn; have := Nat.one_le_two_pow (n := n); omega) (by decide) (aB_up _ _ _) rfl d_Mo_reckon_255 ?_
                      refine g_iinc (lv' := [(2, .int (nI (x + 1))), (0, .ref mo), (1, .int (nI (2 ^ n - 1)))]) C d_Mo_reckon_256 2 rfl (nI_1 _) (by decide) rfl ?_
                      refine g_goto (tgt := 244) C d_Mo_reckon_259 (by decide) ?_
                      refine g_perm [1, 2, 0] rfl ?_
                      exact ih244 (x + 1) (va_up V2 x false) (by omega) (by rw [hV2]; exact ovB_s _ (fun _ => false) x) (by omega)
                refine g_perm [1, 2, 0] rfl ?_
                exact loop244 (2 ^ n - 1 + 1 - 0 + 1) 0 (rkE1 T U n HE) (Nat.zero_le _) ((ovB_0 _ _).symm) (Nat.lt_succ_self _)
              · skip
                refine g_aload_n C d_Mo_reckon_212 rfl 0 rfl ?_
                refine g_get C lay_Mo 0 rfl rfl 6 (by decide) m_640 rfl d_Mo_reckon_213 ?_
                refine g_iload_n C d_Mo_reckon_216 rfl 2 rfl ?_
                refine g_zaldN C 5 rfl (by have := p12_le hn; have := Nat.one_le_two_pow (n := n); omega) (by decide) d_Mo_reckon_217 ?_
                refine g_top (show (aB (rkE1 T U n HE)) x = bI ((rkE1 T U n HE) x) from rfl) ?_
                refine g_if_eqB (tgt := 236) C d_Mo_reckon_218 (by decide) (fun b12 => ?_) (fun b12 => ?_)
                · skip
                  refine g_iinc (lv' := [(2, .int (nI (x + 1))), (0, .ref mo), (1, .int (nI (2 ^ n - 1)))]) C d_Mo_reckon_236 2 rfl (nI_1 _) (by decide) rfl ?_
                  refine g_goto (tgt := 207) C d_Mo_reckon_239 (by decide) ?_
                  refine g_perm [1, 2, 0] rfl ?_
                  exact ih207 (x + 1) V (by omega) (by first | exact kst_y hV (by rw [b12, b13]; rfl) | exact kst_n hV (by rw [b12, b13]; rfl) | exact kst_n hV (by rw [b12]; rfl)) (by omega)
                · skip
                  refine g_aload_n C d_Mo_reckon_221 rfl 0 rfl ?_
                  refine g_get C lay_Mo 0 rfl rfl 7 (by decide) m_641 rfl d_Mo_reckon_222 ?_
                  refine g_iload_n C d_Mo_reckon_225 rfl 2 rfl ?_
                  refine g_zaldN C 6 rfl (by have := p12_le hn; have := Nat.one_le_two_pow (n := n); omega) (by decide) d_Mo_reckon_226 ?_
                  refine g_top (show (aB (rkA1 T U n HE AV)) x = bI ((rkA1 T U n HE AV) x) from rfl) ?_
                  refine g_if_neB (tgt := 236) C d_Mo_reckon_227 (by decide) (fun b13 => ?_) (fun b13 => ?_)
                  · skip
                    refine g_iinc (lv' := [(2, .int (nI (x + 1))), (0, .ref mo), (1, .int (nI (2 ^ n - 1)))]) C d_Mo_reckon_236 2 rfl (nI_1 _) (by decide) rfl ?_
                    refine g_goto (tgt := 207) C d_Mo_reckon_239 (by decide) ?_
                    refine g_perm [1, 2, 0] rfl ?_
                    exact ih207 (x + 1) V (by omega) (by first | exact kst_y hV (by rw [b12, b13]; rfl) | exact kst_n hV (by rw [b12, b13]; rfl) | exact kst_n hV (by rw [b12]; rfl)) (by omega)
                  · skip
                    refine g_aload_n C d_Mo_reckon_230 rfl 0 rfl ?_
                    refine g_iload_n C d_Mo_reckon_231 rfl 2 rfl ?_
                    refine g_iconst (v := nI 1) C d_Mo_reckon_232 (by decide) ?_
                    refine g_vV (rest := []) (wr := [(m1, .inl (E 0, 12, .inl (aN T))), (m2, .inl (E 0, 12, .inl (aN U))), (m3, .inl (E 0, 4096, .inl (aN (rkH T n HI)))), (m5, .inl (E 3, 4096, .inl (aB (rkE1 T U n HE)))), (m6, .inl (E 3, 4096, .inl (aB (rkA1 T U n HE AV)))), (m7, .inl (E 0, 12, .inl (aN MR)))]) C (o_adds l D E mo m1 m2 m3 m4 m5 m6 m7 m8 m9 m10 m11 m12 m13 m14 m15 th n true lg td ld lt gr mv la V x 1 (by have := p12_le hn; have := Nat.one_le_two_pow (n := n); omega) (by decide) (by rw [hV]; exact kdU_lt (by decide) (rkK1_b hKD) _)) rd_Mo_adds m_771 m_773 m_27 rfl rfl (Nat.le_of_ble_eq_true rfl) (Nat.le_of_ble_eq_true rfl) (Nat.le_of_ble_eq_true rfl) (Nat.le_of_ble_eq_true rfl) rfl rfl (Nat.le_of_ble_eq_true rfl) d_Mo_reckon_233 [0, 4] [1, 2, 3, 5, 6, 7] rfl (by decide) rfl (by decide) (by decide) (fun _ _ => ?_)
                    refine g_cells (ws' := [(mo, .inr (7, [.int (nI th), .int (nI n), .ref m1, .ref m2, .ref m3, .ref m4, .ref m5, .ref m6, .int (bI true), .int (bI lg), .int (bI td), .int (nI ld), .int (pI lt), .ref m7, .int (nI gr), .int (nI mv), .ref m8, .ref m9, .ref m10, .ref m11, .ref m12, .ref m13, .int (nI la), .ref m14, .ref m15])), (m1, .inl (E 0, 12, .inl (aN T))), (m2, .inl (E 0, 12, .inl (aN U))), (m3, .inl (E 0, 4096, .inl (aN (rkH T n HI)))), (m4, .inl (E 2, 4096, .inl (aN (va_up V x (V x ||| 2 ^ 1))))), (m5, .inl (E 3, 4096, .inl (aB (rkE1 T U n HE)))), (m6, .inl (E 3, 4096, .inl (aB (rkA1 T U n HE AV)))), (m7, .inl (E 0, 12, .inl (aN MR)))]) [6, 0, 1, 2, 7, 3, 4, 5] (by decide) rfl ?_
                    refine g_iinc (lv' := [(2, .int (nI (x + 1))), (0, .ref mo), (1, .int (nI (2 ^ n - 1)))]) C d_Mo_reckon_236 2 rfl (nI_1 _) (by decide) rfl ?_
                    refine g_goto (tgt := 207) C d_Mo_reckon_239 (by decide) ?_
                    refine g_perm [1, 2, 0] rfl ?_
                    exact ih207 (x + 1) (va_up V x (V x ||| 2 ^ 1)) (by omega) (by first | exact kst_y hV (by rw [b12, b13]; rfl) | exact kst_n hV (by rw [b12, b13]; rfl) | exact kst_n hV (by rw [b12]; rfl)) (by omega)
          refine g_perm [1, 2, 0] rfl ?_
          exact loop207 (2 ^ n - 1 + 1 - 0 + 1) 0 (rkK1 T U n KD) (Nat.zero_le _) ((kdU_0 _ _ _).symm) (Nat.lt_succ_self _)
        · skip
          refine g_aload_n C d_Mo_reckon_29 rfl 0 rfl ?_
          refine g_get C lay_Mo 0 rfl rfl 4 (by decide) m_638 rfl d_Mo_reckon_30 ?_
          refine g_iload_n C d_Mo_reckon_33 rfl 2 rfl ?_
          refine g_iconst (v := nI 0) C d_Mo_reckon_34 (by decide) ?_
          refine g_iastN (f' := aN (va_up X1 x 0)) (ws' := [(mo, .inr (7, [.int (nI th), .int (nI n), .ref m1, .ref m2, .ref m3, .ref m4, .ref m5, .ref m6, .int (bI true), .int (bI lg), .int (bI td), .int (nI ld), .int (pI lt), .ref m7, .int (nI gr), .int (nI mv), .ref m8, .ref m9, .ref m10, .ref m11, .ref m12, .ref m13, .int (nI la), .ref m14, .ref m15])), (m1, .inl (E 0, 12, .inl (aN T))), (m2, .inl (E 0, 12, .inl (aN U))), (m3, .inl (E 0, 4096, .inl (aN (va_up X1 x 0)))), (m4, .inl (E 2, 4096, .inl (aN X2))), (m5, .inl (E 3, 4096, .inl (aB X3))), (m6, .inl (E 3, 4096, .inl (aB AV))), (m7, .inl (E 0, 12, .inl (aN MR)))]) C 3 rfl (by have := p12_le hn; have := Nat.one_le_two_pow (n := n); omega) (by decide) (aN_up _ _ _) rfl d_Mo_reckon_35 ?_
          refine g_iconst (v := nI 0) C d_Mo_reckon_36 (by decide) ?_
          refine g_istore_n (lv' := [(3, .int (nI 0)), (0, .ref mo), (1, .int (nI (2 ^ n - 1))), (2, .int (nI x))]) C d_Mo_reckon_37 rfl (by decide) rfl ?_
          have loop38 : ∀ (f : Nat) (a : Nat) (Y : Nat → Nat), (a ≤ n) → (Y = va_up X1 x (tgU T x a)) → n - a < f → GG p l e ({ frames := 2, cells := 0, slots := 0, locals := 46 } : Room) s m args below meth c (MQ below (va_Qv (fun _ : Unit => True) (BC D A (fun _ : Unit => [(mo, .inr (7, [.int (nI th), .int (nI n), .ref m1, .ref m2, .ref m3, .ref m4, .ref m5, .ref m6, .int (bI true), .int (bI lg), .int (bI td), .int (nI ld), .int (pI lt), .ref m7, .int (nI (qG kn T U n HI gr)), .int (nI mv), .ref m8, .ref m9, .ref m10, .ref m11, .ref m12, .ref m13, .int (nI la), .ref m14, .ref m15])), (m1, .inl (E 0, 12, .inl (aN T))), (m2, .inl (E 0, 12, .inl (aN U))), (m3, .inl (E 0, 4096, .inl (aN (qH kn T n HI)))), (m4, .inl (E 2, 4096, .inl (aN (qK kn T U n HI KD HE AV)))), (m5, .inl (E 3, 4096, .inl (aB (qE kn T U n HI HE)))), (m6, .inl (E 3, 4096, .inl (aB (qA kn T U n HI HE AV)))), (m7, .inl (E 0, 12, .inl (aN (qR kn T U n HI MR))))])) A) args s (({ frames := 2, cells := 0, slots := 0, locals := 46 } : Room)).cells (({ frames := 2, cells := 0, slots := 0, locals := 46 } : Room)).slots A) D A 4 0 0 38 [(0, .ref mo), (1, .int (nI (2 ^ n - 1))), (2, .int (nI x)), (3, .int (nI a))] [] [(mo, .inr (7, [.int (nI th), .int (nI n), .ref m1, .ref m2, .ref m3, .ref m4, .ref m5, .ref m6, .int (bI true), .int (bI lg), .int (bI td), .int (nI ld), .int (pI lt), .ref m7, .int (nI gr), .int (nI mv), .ref m8, .ref m9, .ref m10, .ref m11, .ref m12, .ref m13, .int (nI la), .ref m14, .ref m15])), (m1, .inl (E 0, 12, .inl (aN T))), (m2, .inl (E 0, 12, .inl (aN U))), (m3, .inl (E 0, 4096, .inl (aN Y))), (m4, .inl (E 2, 4096, .inl (aN X2))), (m5, .inl (E 3, 4096, .inl (aB X3))), (m6, .inl (E 3, 4096, .inl (aB AV))), (m7, .inl (E 0, 12, .inl (aN MR)))] := by
            intro f
            induction f with
            | zero => intro a Y ha hY hf; exact absurd hf (Nat.not_lt_zero _)
            | succ f ih =>
              intro a Y ha hY hf
              have ih38 := ih
              refine g_iload_n C d_Mo_reckon_38 rfl 3 rfl ?_
              refine g_aload_n C d_Mo_reckon_39 rfl 0 rfl ?_
              refine g_get C lay_Mo 0 rfl rfl 1 (by decide) m_635 rfl d_Mo_reckon_40 ?_
              refine g_icmp_geN (tgt := 89) C (by omega) (by omega) d_Mo_reckon_43 (by decide) (fun b2 => ?_) (fun b2 => ?_)
              · skip
                refine g_ws (ws' := [(mo, .inr (7, [.int (nI th), .int (nI n), .ref m1, .ref m2, .ref m3, .ref m4, .ref m5, .ref m6, .int (bI true), .int (bI lg), .int (bI td), .int (nI ld), .int (pI lt), .ref m7, .int (nI gr), .int (nI mv), .ref m8, .ref m9, .ref m10, .ref m11, .ref m12, .ref m13, .int (nI la), .ref m14, .ref m15])), (m1, .inl (E 0, 12, .inl (aN T))), (m2, .inl (E 0, 12, .inl (aN U))), (m3, .inl (E 0, 4096, .inl (aN (ovw HI (fun x => tgU T x n) (x + 1))))), (m4, .inl (E 2, 4096, .inl (aN X2))), (m5, .inl (E 3, 4096, .inl (aB X3))), (m6, .inl (E 3, 4096, .inl (aB AV))), (m7, .inl (E 0, 12, .inl (aN MR)))]) (by rw [hY, h1, show a = n by omega, ovw_s]) ?_
                refine g_aload_n C d_Mo_reckon_89 rfl 0 rfl ?_
                refine g_get C lay_Mo 0 rfl rfl 5 (by decide) m_639 rfl d_Mo_reckon_90 ?_
                refine g_iload_n C d_Mo_reckon_93 rfl 2 rfl ?_
                refine g_iconst (v := nI 0) C d_Mo_reckon_94 (by decide) ?_
                refine g_bastN (f' := aN (va_up X2 x 0)) (ws' := [(mo, .inr (7, [.int (nI th), .int (nI n), .ref m1, .ref m2, .ref m3, .ref m4, .ref m5, .ref m6, .int (bI true), .int (bI lg), .int (bI td), .int (nI ld), .int (pI lt), .ref m7, .int (nI gr), .int (nI mv), .ref m8, .ref m9, .ref m10, .ref m11, .ref m12, .ref m13, .int (nI la), .ref m14, .ref m15])), (m1, .inl (E 0, 12, .inl (aN T))), (m2, .inl (E 0, 12, .inl (aN U))), (m3, .inl (E 0, 4096, .inl (aN (ovw HI (fun x => tgU T x n) (x + 1))))), (m4, .inl (E 2, 4096, .inl (aN (va_up X2 x 0)))), (m5, .inl (E 3, 4096, .inl (aB X3))), (m6, .inl (E 3, 4096, .inl (aB AV))), (m7, .inl (E 0, 12, .inl (aN MR)))]) C 4 rfl (by have := p12_le hn; have := Nat.one_le_two_pow (n := n); omega) (by decide) (aN_upB _ _ (by omega)) rfl d_Mo_reckon_95 ?_
                refine g_aload_n C d_Mo_reckon_96 rfl 0 rfl ?_
                refine g_aload_n C d_Mo_reckon_97 rfl 0 rfl ?_
                refine g_get C lay_Mo 0 rfl rfl 4 (by decide) m_638 rfl d_Mo_reckon_98 ?_
                refine g_iload_n C d_Mo_reckon_101 rfl 2 rfl ?_
                refine g_ialdN C 3 rfl (by have := p12_le hn; have := Nat.one_le_two_pow (n := n); omega) (by decide) d_Mo_reckon_102 ?_
                refine g_top (show (aN (ovw HI (fun x => tgU T x n) (x + 1))) x = nI ((ovw HI (fun x => tgU T x n) (x + 1)) x) from rfl) ?_
                refine g_top (show nI ((ovw HI (fun x => tgU T x n) (x + 1)) x) = nI (tgU T x n) from congrArg nI (ovw_lt (Nat.lt_succ_self _))) ?_
                refine g_iV (rest := []) (wr := [(m1, .inl (E 0, 12, .inl (aN T))), (m3, .inl (E 0, 4096, .inl (aN (ovw HI (fun x => tgU T x n) (x + 1))))), (m4, .inl (E 2, 4096, .inl (aN (va_up X2 x 0)))), (m5, .inl (E 3, 4096, .inl (aB X3))), (m6, .inl (E 3, 4096, .inl (aB AV))), (m7, .inl (E 0, 12, .inl (aN MR)))]) C (o_defended l D E mo m1 m2 m3 m4 m5 m6 m7 m8 m9 m10 m11 m12 m13 m14 m15 th n true lg td ld lt gr mv la U (tgU T x n) hn hU) rd_Mo_defended m_763 m_765 m_25 rfl rfl (Nat.le_of_ble_eq_true rfl) (Nat.le_of_ble_eq_true rfl) (Nat.le_of_ble_eq_true rfl) (Nat.le_of_ble_eq_true rfl) rfl rfl (Nat.le_of_ble_eq_true rfl) d_Mo_reckon_103 [0, 2] [1, 3, 4, 5, 6, 7] rfl (by decide) rfl (by decide) (by decide) (fun r103 _ (hr103 : r103 = nI (dfM U (tgU T x n) n)) => ?_)
                subst hr103
                refine g_cells (ws' := [(mo, .inr (7, [.int (nI th), .int (nI n), .ref m1, .ref m2, .ref m3, .ref m4, .ref m5, .ref m6, .int (bI true), .int (bI lg), .int (bI td), .int (nI ld), .int (pI lt), .ref m7, .int (nI gr), .int (nI mv), .ref m8, .ref m9, .ref m10, .ref m11, .ref m12, .ref m13, .int (nI la), .ref m14, .ref m15])), (m1, .inl (E 0, 12, .inl (aN T))), (m2, .inl (E 0, 12, .inl (aN U))), (m3, .inl (E 0, 4096, .inl (aN (ovw HI (fun x => tgU T x n) (x + 1))))), (m4, .inl (E 2, 4096, .inl (aN (va_up X2 x 0)))), (m5, .inl (E 3, 4096, .inl (aB X3))), (m6, .inl (E 3, 4096, .inl (aB AV))), (m7, .inl (E 0, 12, .inl (aN MR)))]) [6, 0, 7, 1, 2, 3, 4, 5] (by decide) rfl ?_
                refine g_istore_n (lv' := [(3, .int (nI (dfM U (tgU T x n) n))), (0, .ref mo), (1, .int (nI (2 ^ n - 1))), (2, .int (nI x))]) C d_Mo_reckon_106 rfl (by decide) rfl ?_
                refine g_aload_n C d_Mo_reckon_107 rfl 1 rfl ?_
                refine g_get C lay_Mo 0 rfl rfl 6 (by decide) m_640 rfl d_Mo_reckon_108 ?_
                refine g_iload_n C d_Mo_reckon_111 rfl 3 rfl ?_
                refine g_aload_n C d_Mo_reckon_112 rfl 1 rfl ?_
                refine g_iload_n C d_Mo_reckon_113 rfl 3 rfl ?_
                refine g_iV (rest := [.int (nI x), .ref m5]) (wr := [(m1, .inl (E 0, 12, .inl (aN T))), (m2, .inl (E 0, 12, .inl (aN U))), (m4, .inl (E 2, 4096, .inl (aN (va_up X2 x 0)))), (m5, .inl (E 3, 4096, .inl (aB X3))), (m6, .inl (E 3, 4096, .inl (aB AV))), (m7, .inl (E 0, 12, .inl (aN MR)))]) C (o_isFreeSet l D E mo m1 m2 m3 m4 m5 m6 m7 m8 m9 m10 m11 m12 m13 m14 m15 th n true lg td ld lt gr mv la (ovw HI (fun x => tgU T x n) (x + 1)) x (by have := p12_le hn; have := Nat.one_le_two_pow (n := n); omega)) rd_Mo_isFreeSet m_767 m_769 m_26 rfl rfl (Nat.le_of_ble_eq_true rfl) (Nat.le_of_ble_eq_true rfl) (Nat.le_of_ble_eq_true rfl) (Nat.le_of_ble_eq_true rfl) rfl rfl (Nat.le_of_ble_eq_true rfl) d_Mo_reckon_114 [0, 3] [1, 2, 4, 5, 6, 7] rfl (by decide) rfl (by decide) (by decide) (fun r114 _ (hr114 : r114 = bI ((ovw HI (fun x => tgU T x n) (x + 1)) x &&& x == 0)) => ?_)
                subst hr114
                refine g_cells (ws' := [(mo, .inr (7, [.int (nI th), .int (nI n), .ref m1, .ref m2, .ref m3, .ref m4, .ref m5, .ref m6, .int (bI true), .int (bI lg), .int (bI td), .int (nI ld), .int (pI lt), .ref m7, .int (nI gr), .int (nI mv), .ref m8, .ref m9, .ref m10, .ref m11, .ref m12, .ref m13, .int (nI la), .ref m14, .ref m15])), (m1, .inl (E 0, 12, .inl (aN T))), (m2, .inl (E 0, 12, .inl (aN U))), (m3, .inl (E 0, 4096, .inl (aN (ovw HI (fun x => tgU T x n) (x + 1))))), (m4, .inl (E 2, 4096, .inl (aN (va_up X2 x 0)))), (m5, .inl (E 3, 4096, .inl (aB X3))), (m6, .inl (E 3, 4096, .inl (aB AV))), (m7, .inl (E 0, 12, .inl (aN MR)))]) [6, 0, 1, 7, 2, 3, 4, 5] (by decide) rfl ?_
                refine g_top (show bI ((ovw HI (fun x => tgU T x n) (x + 1)) x &&& x == 0) = bI (frB T n x) from congrArg bI (by rw [ovw_lt (Nat.lt_succ_self _)]; rfl)) ?_
                refine g_if_eqB (tgt := 132) C d_Mo_reckon_117 (by decide) (fun b4 => ?_) (fun b4 => ?_)
                · skip
                  refine g_iconst (v := nI 0) C d_Mo_reckon_132 (by decide) ?_
                  refine g_top (show nI 0 = bI false from rfl) ?_
                  refine g_zastN (f' := aB (va_up X3 x false)) (ws' := [(mo, .inr (7, [.int (nI th), .int (nI n), .ref m1, .ref m2, .ref m3, .ref m4, .ref m5, .ref m6, .int (bI true), .int (bI lg), .int (bI td), .int (nI ld), .int (pI lt), .ref m7, .int (nI gr), .int (nI mv), .ref m8, .ref m9, .ref m10, .ref m11, .ref m12, .ref m13, .int (nI la), .ref m14, .ref m15])), (m1, .inl (E 0, 12, .inl (aN T))), (m2, .inl (E 0, 12, .inl (aN U))), (m3, .inl (E 0, 4096, .inl (aN (ovw HI (fun x => tgU T x n) (x + 1))))), (m4, .inl (E 2, 4096, .inl (aN (va_up X2 x 0)))), (m5, .inl (E 3, 4096, .inl (aB (va_up X3 x false)))), (m6, .inl (E 3, 4096, .inl (aB AV))), (m7, .inl (E 0, 12, .inl (aN MR)))]) C 5 rfl (by have := p12_le hn; have := Nat.one_le_two_pow (n := n); omega) (by decide) (aB_up _ _ _) rfl d_Mo_reckon_133 ?_
                  refine g_aload_n C d_Mo_reckon_134 rfl 1 rfl ?_
                  refine g_get C lay_Mo 0 rfl rfl 6 (by decide) m_640 rfl d_Mo_reckon_135 ?_
                  refine g_iload_n C d_Mo_reckon_138 rfl 3 rfl ?_
                  refine g_zaldN C 5 rfl (by have := p12_le hn; have := Nat.one_le_two_pow (n := n); omega) (by decide) d_Mo_reckon_139 ?_
                  refine g_top (show (aB (va_up X3 x false)) x = bI ((va_up X3 x false) x) from rfl) ?_
                  refine g_top (show bI ((va_up X3 x false) x) = bI false from congrArg bI (up_at _ _ _)) ?_
                  refine g_if_eqB (tgt := 149) C d_Mo_reckon_140 (by decide) (fun _ => ?_) (fun h => absurd h (by decide))
                  refine g_aload_n C d_Mo_reckon_149 rfl 1 rfl ?_
                  refine g_get C lay_Mo 0 rfl rfl 6 (by decide) m_640 rfl d_Mo_reckon_150 ?_
                  refine g_iload_n C d_Mo_reckon_153 rfl 3 rfl ?_
                  refine g_zaldN C 5 rfl (by have := p12_le hn; have := Nat.one_le_two_pow (n := n); omega) (by decide) d_Mo_reckon_154 ?_
                  refine g_top (show (aB (va_up X3 x false)) x = bI ((va_up X3 x false) x) from rfl) ?_
                  refine g_top (show bI ((va_up X3 x false) x) = bI false from congrArg bI (up_at _ _ _)) ?_
                  refine g_if_eqB (tgt := 169) C d_Mo_reckon_155 (by decide) (fun _ => ?_) (fun h => absurd h (by decide))
                  refine g_aload_n C d_Mo_reckon_169 rfl 1 rfl ?_
                  refine g_iload_n C d_Mo_reckon_170 rfl 3 rfl ?_
                  refine g_iV (rest := []) (wr := [(m1, .inl (E 0, 12, .inl (aN T))), (m2, .inl (E 0, 12, .inl (aN U))), (m4, .inl (E 2, 4096, .inl (aN (va_up X2 x 0)))), (m5, .inl (E 3, 4096, .inl (aB (va_up X3 x false)))), (m6, .inl (E 3, 4096, .inl (aB AV))), (m7, .inl (E 0, 12, .inl (aN MR)))]) C (o_isFreeSet l D E mo m1 m2 m3 m4 m5 m6 m7 m8 m9 m10 m11 m12 m13 m14 m15 th n true lg td ld lt gr mv la (ovw HI (fun x => tgU T x n) (x + 1)) x (by have := p12_le hn; have := Nat.one_le_two_pow (n := n); omega)) rd_Mo_isFreeSet m_767 m_769 m_26 rfl rfl (Nat.le_of_ble_eq_true rfl) (Nat.le_of_ble_eq_true rfl) (Nat.le_of_ble_eq_true rfl) (Nat.le_of_ble_eq_true rfl) rfl rfl (Nat.le_of_ble_eq_true rfl) d_Mo_reckon_171 [0, 3] [1, 2, 4, 5, 6, 7] rfl (by decide) rfl (by decide) (by decide) (fun r171 _ (hr171 : r171 = bI ((ovw HI (fun x => tgU T x n) (x + 1)) x &&& x == 0)) => ?_)
                  subst hr171
                  refine g_cells (ws' := [(mo, .inr (7, [.int (nI th), .int (nI n), .ref m1, .ref m2, .ref m3, .ref m4, .ref m5, .ref m6, .int (bI true), .int (bI lg), .int (bI td), .int (nI ld), .int (pI lt), .ref m7, .int (nI gr), .int (nI mv), .ref m8, .ref m9, .ref m10, .ref m11, .ref m12, .ref m13, .int (nI la), .ref m14, .ref m15])), (m1, .inl (E 0, 12, .inl (aN T))), (m2, .inl (E 0, 12, .inl (aN U))), (m3, .inl (E 0, 4096, .inl (aN (ovw HI (fun x => tgU T x n) (x + 1))))), (m4, .inl (E 2, 4096, .inl (aN (va_up X2 x 0)))), (m5, .inl (E 3, 4096, .inl (aB (va_up X3 x false)))), (m6, .inl (E 3, 4096, .inl (aB AV))), (m7, .inl (E 0, 12, .inl (aN MR)))]) [6, 0, 1, 7, 2, 3, 4, 5] (by decide) rfl ?_
                  refine g_top (show bI ((ovw HI (fun x => tgU T x n) (x + 1)) x &&& x == 0) = bI (frB T n x) from congrArg bI (by rw [ovw_lt (Nat.lt_succ_self _)]; rfl)) ?_
                  refine g_if_eqB (tgt := 195) C d_Mo_reckon_174 (by decide) (fun b9 => ?_) (fun b9 => ?_)
                  · skip
                    refine g_iinc (lv' := [(2, .int (nI (x + 1))), (3, .int (nI (dfM U (tgU T x n) n))), (0, .ref mo), (1, .int (nI (2 ^ n - 1)))]) C d_Mo_reckon_195 3 rfl (nI_1 _) (by decide) rfl ?_
                    refine g_goto (tgt := 24) C d_Mo_reckon_198 (by decide) ?_
                    refine g_perm [2, 3, 0] rfl ?_
                    exact ih24 (x + 1) (ovw HI (fun x => tgU T x n) (x + 1)) (va_up X2 x 0) (va_up X3 x false) (by omega) (rfl) (by first | (exact absurd b9 (by rw [b4]; decide)) | ((try simp only [up_up, up_at]); rw [h2, ← ovw_s]; congr 1; (refine Eq.trans ?_ (kd2_eq (by first | exact adB_t b4 b5 | exact adB_f2 b5 | exact adB_f1 b4) (by first | exact beq_iff_eq.mpr b8 | exact beq_eq_false_iff_ne.mpr b8 | exact rfl) b9 (by first | exact beq_iff_eq.mpr b10 | exact beq_eq_false_iff_ne.mpr b10 | exact rfl)).symm; rfl))) (by rw [h3, ← ovB_s]; congr 1; first | exact (adB_t b4 b5).symm | exact (adB_f2 b5).symm | exact (adB_f1 b4).symm) (by omega)
                  · skip
                    refine g_iload_n C d_Mo_reckon_177 rfl 3 rfl ?_
                    refine g_aload_n C d_Mo_reckon_178 rfl 1 rfl ?_
                    refine g_get C lay_Mo 0 rfl rfl 4 (by decide) m_638 rfl d_Mo_reckon_179 ?_
                    refine g_iload_n C d_Mo_reckon_182 rfl 3 rfl ?_
                    refine g_ialdN C 3 rfl (by have := p12_le hn; have := Nat.one_le_two_pow (n := n); omega) (by decide) d_Mo_reckon_183 ?_
                    refine g_top (show (aN (ovw HI (fun x => tgU T x n) (x + 1))) x = nI ((ovw HI (fun x => tgU T x n) (x + 1)) x) from rfl) ?_
                    refine g_top (show nI ((ovw HI (fun x => tgU T x n) (x + 1)) x) = nI (tgU T x n) from congrArg nI (ovw_lt (Nat.lt_succ_self _))) ?_
                    refine g_iorN C d_Mo_reckon_184 ?_
                    refine g_iload_n C d_Mo_reckon_185 rfl 2 rfl ?_
                    refine g_icmp_neN (tgt := 195) C (or_lt (by have := p12_le hn; omega) (lt4 (tgU_lt hT _ _))) (ev_lt hn) d_Mo_reckon_186 (by decide) (fun b10 => ?_) (fun b10 => ?_)
                    · skip
                      refine g_iinc (lv' := [(2, .int (nI (x + 1))), (3, .int (nI (dfM U (tgU T x n) n))), (0, .ref mo), (1, .int (nI (2 ^ n - 1)))]) C d_Mo_reckon_195 3 rfl (nI_1 _) (by decide) rfl ?_
                      refine g_goto (tgt := 24) C d_Mo_reckon_198 (by decide) ?_
                      refine g_perm [2, 3, 0] rfl ?_
                      exact ih24 (x + 1) (ovw HI (fun x => tgU T x n) (x + 1)) (va_up X2 x 0) (va_up X3 x false) (by omega) (rfl) (by first | (exact absurd b9 (by rw [b4]; decide)) | ((try simp only [up_up, up_at]); rw [h2, ← ovw_s]; congr 1; (refine Eq.trans ?_ (kd2_eq (by first | exact adB_t b4 b5 | exact adB_f2 b5 | exact adB_f1 b4) (by first | exact beq_iff_eq.mpr b8 | exact beq_eq_false_iff_ne.mpr b8 | exact rfl) b9 (by first | exact beq_iff_eq.mpr b10 | exact beq_eq_false_iff_ne.mpr b10 | exact rfl)).symm; rfl))) (by rw [h3, ← ovB_s]; congr 1; first | exact (adB_t b4 b5).symm | exact (adB_f2 b5).symm | exact (adB_f1 b4).symm) (by omega)
                    · skip
                      refine g_aload_n C d_Mo_reckon_189 rfl 1 rfl ?_
                      refine g_iload_n C d_Mo_reckon_190 rfl 3 rfl ?_
                      refine g_iconst (v := nI 2) C d_Mo_reckon_191 (by decide) ?_
                      refine g_vV (rest := []) (wr := [(m1, .inl (E 0, 12, .inl (aN T))), (m2, .inl (E 0, 12, .inl (aN U))), (m3, .inl (E 0, 4096, .inl (aN (ovw HI (fun x => tgU T x n) (x + 1))))), (m5, .inl (E 3, 4096, .inl (aB (va_up X3 x false)))), (m6, .inl (E 3, 4096, .inl (aB AV))), (m7, .inl (E 0, 12, .inl (aN MR)))]) C (o_adds l D E mo m1 m2 m3 m4 m5 m6 m7 m8 m9 m10 m11 m12 m13 m14 m15 th n true lg td ld lt gr mv la (va_up X2 x 0) x 2 (by have := p12_le hn; have := Nat.one_le_two_pow (n := n); omega) (by decide) (by simp only [up_at]; decide)) rd_Mo_adds m_771 m_773 m_27 rfl rfl (Nat.le_of_ble_eq_true rfl) (Nat.le_of_ble_eq_true rfl) (Nat.le_of_ble_eq_true rfl) (Nat.le_of_ble_eq_true rfl) rfl rfl (Nat.le_of_ble_eq_true rfl) d_Mo_reckon_192 [0, 4] [1, 2, 3, 5, 6, 7] rfl (by decide) rfl (by decide) (by decide) (fun _ _ => ?_)
                      refine g_cells (ws' := [(mo, .inr (7, [.int (nI th), .int (nI n), .ref m1, .ref m2, .ref m3, .ref m4, .ref m5, .ref m6, .int (bI true), .int (bI lg), .int (bI td), .int (nI ld), .int (pI lt), .ref m7, .int (nI gr), .int (nI mv), .ref m8, .ref m9, .ref m10, .ref m11, .ref m12, .ref m13, .int (nI la), .ref m14, .ref m15])), (m1, .inl (E 0, 12, .inl (aN T))), (m2, .inl (E 0, 12, .inl (aN U))), (m3, .inl (E 0, 4096, .inl (aN (ovw HI (fun x => tgU T x n) (x + 1))))), (m4, .inl (E 2, 4096, .inl (aN (va_up (va_up X2 x 0) x ((va_up X2 x 0) x ||| 2 ^ 2))))), (m5, .inl (E 3, 4096, .inl (aB (va_up X3 x false)))), (m6, .inl (E 3, 4096, .inl (aB AV))), (m7, .inl (E 0, 12, .inl (aN MR)))]) [6, 0, 1, 2, 7, 3, 4, 5] (by decide) rfl ?_
                      refine g_iinc (lv' := [(2, .int (nI (x + 1))), (3, .int (nI (dfM U (tgU T x n) n))), (0, .ref mo), (1, .int (nI (2 ^ n - 1)))]) C d_Mo_reckon_195 3 rfl (nI_1 _) (by decide) rfl ?_
                      refine g_goto (tgt := 24) C d_Mo_reckon_198 (by decide) ?_
                      refine g_perm [2, 3, 0] rfl ?_
                      exact ih24 (x + 1) (ovw HI (fun x => tgU T x n) (x + 1)) (va_up (va_up X2 x 0) x ((va_up X2 x 0) x ||| 2 ^ 2)) (va_up X3 x false) (by omega) (rfl) (by first | (exact absurd b9 (by rw [b4]; decide)) | ((try simp only [up_up, up_at]); rw [h2, ← ovw_s]; congr 1; (refine Eq.trans ?_ (kd2_eq (by first | exact adB_t b4 b5 | exact adB_f2 b5 | exact adB_f1 b4) (by first | exact beq_iff_eq.mpr b8 | exact beq_eq_false_iff_ne.mpr b8 | exact rfl) b9 (by first | exact beq_iff_eq.mpr b10 | exact beq_eq_false_iff_ne.mpr b10 | exact rfl)).symm; rfl))) (by rw [h3, ← ovB_s]; congr 1; first | exact (adB_t b4 b5).symm | exact (adB_f2 b5).symm | exact (adB_f1 b4).symm) (by omega)
                · skip
                  refine g_iload_n C d_Mo_reckon_120 rfl 3 rfl ?_
                  refine g_iload_n C d_Mo_reckon_121 rfl 0 rfl ?_
                  refine g_iconst (v := (-1)) C d_Mo_reckon_122 (by decide) ?_
                  refine g_ixor C d_Mo_reckon_123 ?_
                  refine g_iandD C d_Mo_reckon_124 ?_
                  refine g_if_neN (tgt := 132) C (dif_lt (by have := p12_le hn; omega)) d_Mo_reckon_125 (by decide) (fun b5 => ?_) (fun b5 => ?_)
                  · skip
                    refine g_iconst (v := nI 0) C d_Mo_reckon_132 (by decide) ?_
                    refine g_top (show nI 0 = bI false from rfl) ?_
                    refine g_zastN (f' := aB (va_up X3 x false)) (ws' := [(mo, .inr (7, [.int (nI th), .int (nI n), .ref m1, .ref m2, .ref m3, .ref m4, .ref m5, .ref m6, .int (bI true), .int (bI lg), .int (bI td), .int (nI ld), .int (pI lt), .ref m7, .int (nI gr), .int (nI mv), .ref m8, .ref m9, .ref m10, .ref m11, .ref m12, .ref m13, .int (nI la), .ref m14, .ref m15])), (m1, .inl (E 0, 12, .inl (aN T))), (m2, .inl (E 0, 12, .inl (aN U))), (m3, .inl (E 0, 4096, .inl (aN (ovw HI (fun x => tgU T x n) (x + 1))))), (m4, .inl (E 2, 4096, .inl (aN (va_up X2 x 0)))), (m5, .inl (E 3, 4096, .inl (aB (va_up X3 x false)))), (m6, .inl (E 3, 4096, .inl (aB AV))), (m7, .inl (E 0, 12, .inl (aN MR)))]) C 5 rfl (by have := p12_le hn; have := Nat.one_le_two_pow (n := n); omega) (by decide) (aB_up _ _ _) rfl d_Mo_reckon_133 ?_
                    refine g_aload_n C d_Mo_reckon_134 rfl 1 rfl ?_
                    refine g_get C lay_Mo 0 rfl rfl 6 (by decide) m_640 rfl d_Mo_reckon_135 ?_
                    refine g_iload_n C d_Mo_reckon_138 rfl 3 rfl ?_
                    refine g_zaldN C 5 rfl (by have := p12_le hn; have := Nat.one_le_two_pow (n := n); omega) (by decide) d_Mo_reckon_139 ?_
                    refine g_top (show (aB (va_up X3 x false)) x = bI ((va_up X3 x false) x) from rfl) ?_
                    refine g_top (show bI ((va_up X3 x false) x) = bI false from congrArg bI (up_at _ _ _)) ?_
                    refine g_if_eqB (tgt := 149) C d_Mo_reckon_140 (by decide) (fun _ => ?_) (fun h => absurd h (by decide))
                    refine g_aload_n C d_Mo_reckon_149 rfl 1 rfl ?_
                    refine g_get C lay_Mo 0 rfl rfl 6 (by decide) m_640 rfl d_Mo_reckon_150 ?_
                    refine g_iload_n C d_Mo_reckon_153 rfl 3 rfl ?_
                    refine g_zaldN C 5 rfl (by have := p12_le hn; have := Nat.one_le_two_pow (n := n); omega) (by decide) d_Mo_reckon_154 ?_
                    refine g_top (show (aB (va_up X3 x false)) x = bI ((va_up X3 x false) x) from rfl) ?_
                    refine g_top (show bI ((va_up X3 x false) x) = bI false from congrArg bI (up_at _ _ _)) ?_
                    refine g_if_eqB (tgt := 169) C d_Mo_reckon_155 (by decide) (fun _ => ?_) (fun h => absurd h (by decide))
                    refine g_aload_n C d_Mo_reckon_169 rfl 1 rfl ?_
                    refine g_iload_n C d_Mo_reckon_170 rfl 3 rfl ?_
                    refine g_iV (rest := []) (wr := [(m1, .inl (E 0, 12, .inl (aN T))), (m2, .inl (E 0, 12, .inl (aN U))), (m4, .inl (E 2, 4096, .inl (aN (va_up X2 x 0)))), (m5, .inl (E 3, 4096, .inl (aB (va_up X3 x false)))), (m6, .inl (E 3, 4096, .inl (aB AV))), (m7, .inl (E 0, 12, .inl (aN MR)))]) C (o_isFreeSet l D E mo m1 m2 m3 m4 m5 m6 m7 m8 m9 m10 m11 m12 m13 m14 m15 th n true lg td ld lt gr mv la (ovw HI (fun x => tgU T x n) (x + 1)) x (by have := p12_le hn; have := Nat.one_le_two_pow (n := n); omega)) rd_Mo_isFreeSet m_767 m_769 m_26 rfl rfl (Nat.le_of_ble_eq_true rfl) (Nat.le_of_ble_eq_true rfl) (Nat.le_of_ble_eq_true rfl) (Nat.le_of_ble_eq_true rfl) rfl rfl (Nat.le_of_ble_eq_true rfl) d_Mo_reckon_171 [0, 3] [1, 2, 4, 5, 6, 7] rfl (by decide) rfl (by decide) (by decide) (fun r171 _ (hr171 : r171 = bI ((ovw HI (fun x => tgU T x n) (x + 1)) x &&& x == 0)) => ?_)
                    subst hr171
                    refine g_cells (ws' := [(mo, .inr (7, [.int (nI th), .int (nI n), .ref m1, .ref m2, .ref m3, .ref m4, .ref m5, .ref m6, .int (bI true), .int (bI lg), .int (bI td), .int (nI ld), .int (pI lt), .ref m7, .int (nI gr), .int (nI mv), .ref m8, .ref m9, .ref m10, .ref m11, .ref m12, .ref m13, .int (nI la), .ref m14, .ref m15])), (m1, .inl (E 0, 12, .inl (aN T))), (m2, .inl (E 0, 12, .inl (aN U))), (m3, .inl (E 0, 4096, .inl (aN (ovw HI (fun x => tgU T x n) (x + 1))))), (m4, .inl (E 2, 4096, .inl (aN (va_up X2 x 0)))), (m5, .inl (E 3, 4096, .inl (aB (va_up X3 x false)))), (m6, .inl (E 3, 4096, .inl (aB AV))), (m7, .inl (E 0, 12, .inl (aN MR)))]) [6, 0, 1, 7, 2, 3, 4, 5] (by decide) rfl ?_
                    refine g_top (show bI ((ovw HI (fun x => tgU T x n) (x + 1)) x &&& x == 0) = bI (frB T n x) from congrArg bI (by rw [ovw_lt (Nat.lt_succ_self _)]; rfl)) ?_
                    refine g_if_eqB (tgt := 195) C d_Mo_reckon_174 (by decide) (fun b9 => ?_) (fun b9 => ?_)
                    · skip
                      refine g_iinc (lv' := [(2, .int (nI (x + 1))), (3, .int (nI (dfM U (tgU T x n) n))), (0, .ref mo), (1, .int (nI (2 ^ n - 1)))]) C d_Mo_reckon_195 3 rfl (nI_1 _) (by decide) rfl ?_
                      refine g_goto (tgt := 24) C d_Mo_reckon_198 (by decide) ?_
                      refine g_perm [2, 3, 0] rfl ?_
                      exact ih24 (x + 1) (ovw HI (fun x => tgU T x n) (x + 1)) (va_up X2 x 0) (va_up X3 x false) (by omega) (rfl) (by first | (exact absurd b9 (by rw [b4]; decide)) | ((try simp only [up_up, up_at]); rw [h2, ← ovw_s]; congr 1; (refine Eq.trans ?_ (kd2_eq (by first | exact adB_t b4 b5 | exact adB_f2 b5 | exact adB_f1 b4) (by first | exact beq_iff_eq.mpr b8 | exact beq_eq_false_iff_ne.mpr b8 | exact rfl) b9 (by first | exact beq_iff_eq.mpr b10 | exact beq_eq_false_iff_ne.mpr b10 | exact rfl)).symm; rfl))) (by rw [h3, ← ovB_s]; congr 1; first | exact (adB_t b4 b5).symm | exact (adB_f2 b5).symm | exact (adB_f1 b4).symm) (by omega)
                    · skip
                      refine g_iload_n C d_Mo_reckon_177 rfl 3 rfl ?_
                      refine g_aload_n C d_Mo_reckon_178 rfl 1 rfl ?_
                      refine g_get C lay_Mo 0 rfl rfl 4 (by decide) m_638 rfl d_Mo_reckon_179 ?_
                      refine g_iload_n C d_Mo_reckon_182 rfl 3 rfl ?_
                      refine g_ialdN C 3 rfl (by have := p12_le hn; have := Nat.one_le_two_pow (n := n); omega) (by decide) d_Mo_reckon_183 ?_
                      refine g_top (show (aN (ovw HI (fun x => tgU T x n) (x + 1))) x = nI ((ovw HI (fun x => tgU T x n) (x + 1)) x) from rfl) ?_
                      refine g_top (show nI ((ovw HI (fun x => tgU T x n) (x + 1)) x) = nI (tgU T x n) from congrArg nI (ovw_lt (Nat.lt_succ_self _))) ?_
                      refine g_iorN C d_Mo_reckon_184 ?_
                      refine g_iload_n C d_Mo_reckon_185 rfl 2 rfl ?_
                      refine g_icmp_neN (tgt := 195) C (or_lt (by have := p12_le hn; omega) (lt4 (tgU_lt hT _ _))) (ev_lt hn) d_Mo_reckon_186 (by decide) (fun b10 => ?_) (fun b10 => ?_)
                      · skip
                        refine g_iinc (lv' := [(2, .int (nI (x + 1))), (3, .int (nI (dfM U (tgU T x n) n))), (0, .ref mo), (1, .int (nI (2 ^ n - 1)))]) C d_Mo_reckon_195 3 rfl (nI_1 _) (by decide) rfl ?_
                        refine g_goto (tgt := 24) C d_Mo_reckon_198 (by decide) ?_
                        refine g_perm [2, 3, 0] rfl ?_
                        exact ih24 (x + 1) (ovw HI (fun x => tgU T x n) (x + 1)) (va_up X2 x 0) (va_up X3 x false) (by omega) (rfl) (by first | (exact absurd b9 (by rw [b4]; decide)) | ((try simp only [up_up, up_at]); rw [h2, ← ovw_s]; congr 1; (refine Eq.trans ?_ (kd2_eq (by first | exact adB_t b4 b5 | exact adB_f2 b5 | exact adB_f1 b4) (by first | exact beq_iff_eq.mpr b8 | exact beq_eq_false_iff_ne.mpr b8 | exact rfl) b9 (by first | exact beq_iff_eq.mpr b10 | exact beq_eq_false_iff_ne.mpr b10 | exact rfl)).symm; rfl))) (by rw [h3, ← ovB_s]; congr 1; first | exact (adB_t b4 b5).symm | exact (adB_f2 b5).symm | exact (adB_f1 b4).symm) (by omega)
                      · skip
                        refine g_aload_n C d_Mo_reckon_189 rfl 1 rfl ?_
                        refine g_iload_n C d_Mo_reckon_190 rfl 3 rfl ?_
                        refine g_iconst (v := nI 2) C d_Mo_reckon_191 (by decide) ?_
                        refine g_vV (rest := []) (wr := [(m1, .inl (E 0, 12, .inl (aN T))), (m2, .inl (E 0, 12, .inl (aN U))), (m3, .inl (E 0, 4096, .inl (aN (ovw HI (fun x => tgU T x n) (x + 1))))), (m5, .inl (E 3, 4096, .inl (aB (va_up X3 x false)))), (m6, .inl (E 3, 4096, .inl (aB AV))), (m7, .inl (E 0, 12, .inl (aN MR)))]) C (o_adds l D E mo m1 m2 m3 m4 m5 m6 m7 m8 m9 m10 m11 m12 m13 m14 m15 th n true lg td ld lt gr mv la (va_up X2 x 0) x 2 (by have := p12_le hn; have := Nat.one_le_two_pow (n := n); omega) (by decide) (by simp only [up_at]; decide)) rd_Mo_adds m_771 m_773 m_27 rfl rfl (Nat.le_of_ble_eq_true rfl) (Nat.le_of_ble_eq_true rfl) (Nat.le_of_ble_eq_true rfl) (Nat.le_of_ble_eq_true rfl) rfl rfl (Nat.le_of_ble_eq_true rfl) d_Mo_reckon_192 [0, 4] [1, 2, 3, 5, 6, 7] rfl (by decide) rfl (by decide) (by decide) (fun _ _ => ?_)
                        refine g_cells (ws' := [(mo, .inr (7, [.int (nI th), .int (nI n), .ref m1, .ref m2, .ref m3, .ref m4, .ref m5, .ref m6, .int (bI true), .int (bI lg), .int (bI td), .int (nI ld), .int (pI lt), .ref m7, .int (nI gr), .int (nI mv), .ref m8, .ref m9, .ref m10, .ref m11, .ref m12, .ref m13, .int (nI la), .ref m14, .ref m15])), (m1, .inl (E 0, 12, .inl (aN T))), (m2, .inl (E 0, 12, .inl (aN U))), (m3, .inl (E 0, 4096, .inl (aN (ovw HI (fun x => tgU T x n) (x + 1))))), (m4, .inl (E 2, 4096, .inl (aN (va_up (va_up X2 x 0) x ((va_up X2 x 0) x ||| 2 ^ 2))))), (m5, .inl (E 3, 4096, .inl (aB (va_up X3 x false)))), (m6, .inl (E 3, 4096, .inl (aB AV))), (m7, .inl (E 0, 12, .inl (aN MR)))]) [6, 0, 1, 2, 7, 3, 4, 5] (by decide) rfl ?_
                        refine g_iinc (lv' := [(2, .int (nI (x + 1))), (3, .int (nI (dfM U (tgU T x n) n))), (0, .ref mo), (1, .int (nI (2 ^ n - 1)))]) C d_Mo_reckon_195 3 rfl (nI_1 _) (by decide) rfl ?_
                        refine g_goto (tgt := 24) C d_Mo_reckon_198 (by decide) ?_
                        refine g_perm [2, 3, 0] rfl ?_
                        exact ih24 (x + 1) (ovw HI (fun x => tgU T x n) (x + 1)) (va_up (va_up X2 x 0) x ((va_up X2 x 0) x ||| 2 ^ 2)) (va_up X3 x false) (by omega) (rfl) (by first | (exact absurd b9 (by rw [b4]; decide)) | ((try simp only [up_up, up_at]); rw [h2, ← ovw_s]; congr 1; (refine Eq.trans ?_ (kd2_eq (by first | exact adB_t b4 b5 | exact adB_f2 b5 | exact adB_f1 b4) (by first | exact beq_iff_eq.mpr b8 | exact beq_eq_false_iff_ne.mpr b8 | exact rfl) b9 (by first | exact beq_iff_eq.mpr b10 | exact beq_eq_false_iff_ne.mpr b10 | exact rfl)).symm; rfl))) (by rw [h3, ← ovB_s]; congr 1; first | exact (adB_t b4 b5).symm | exact (adB_f2 b5).symm | exact (adB_f1 b4).symm) (by omega)
                  · skip
                    refine g_iconst (v := nI 1) C d_Mo_reckon_128 (by decide) ?_
                    refine g_goto (tgt := 133) C d_Mo_reckon_129 (by decide) ?_
                    refine g_top (show nI 1 = bI true from rfl) ?_
                    refine g_zastN (f' := aB (va_up X3 x true)) (ws' := [(mo, .inr (7, [.int (nI th), .int (nI n), .ref m1, .ref m2, .ref m3, .ref m4, .ref m5, .ref m6, .int (bI true), .int (bI lg), .int (bI td), .int (nI ld), .int (pI lt), .ref m7, .int (nI gr), .int (nI mv), .ref m8, .ref m9, .ref m10, .ref m11, .ref m12, .ref m13, .int (nI la), .ref m14, .ref m15])), (m1, .inl (E 0, 12, .inl (aN T))), (m2, .inl (E 0, 12, .inl (aN U))), (m3, .inl (E 0, 4096, .inl (aN (ovw HI (fun x => tgU T x n) (x + 1))))), (m4, .inl (E 2, 4096, .inl (aN (va_up X2 x 0)))), (m5, .inl (E 3, 4096, .inl (aB (va_up X3 x true)))), (m6, .inl (E 3, 4096, .inl (aB AV))), (m7, .inl (E 0, 12, .inl (aN MR)))]) C 5 rfl (by have := p12_le hn; have := Nat.one_le_two_pow (n := n); omega) (by decide) (aB_up _ _ _) rfl d_Mo_reckon_133 ?_
                    refine g_aload_n C d_Mo_reckon_134 rfl 1 rfl ?_
                    refine g_get C lay_Mo 0 rfl rfl 6 (by decide) m_640 rfl d_Mo_reckon_135 ?_
                    refine g_iload_n C d_Mo_reckon_138 rfl 3 rfl ?_
                    refine g_zaldN C 5 rfl (by have := p12_le hn; have := Nat.one_le_two_pow (n := n); omega) (by decide) d_Mo_reckon_139 ?_
                    refine g_top (show (aB (va_up X3 x true)) x = bI ((va_up X3 x true) x) from rfl) ?_
                    refine g_top (show bI ((va_up X3 x true) x) = bI true from congrArg bI (up_at _ _ _)) ?_
                    refine g_if_eqB (tgt := 149) C d_Mo_reckon_140 (by decide) (fun h => absurd h (by decide)) (fun _ => ?_)
                    refine g_aload_n C d_Mo_reckon_143 rfl 1 rfl ?_
                    refine g_iload_n C d_Mo_reckon_144 rfl 3 rfl ?_
                    refine g_iconst (v := nI 4) C d_Mo_reckon_145 (by decide) ?_
                    refine g_vV (rest := []) (wr := [(m1, .inl (E 0, 12, .inl (aN T))), (m2, .inl (E 0, 12, .inl (aN U))), (m3, .inl (E 0, 4096, .inl (aN (ovw HI (fun x => tgU T x n) (x + 1))))), (m5, .inl (E 3, 4096, .inl (aB (va_up X3 x true)))), (m6, .inl (E 3, 4096, .inl (aB AV))), (m7, .inl (E 0, 12, .inl (aN MR)))]) C (o_adds l D E mo m1 m2 m3 m4 m5 m6 m7 m8 m9 m10 m11 m12 m13 m14 m15 th n true lg td ld lt gr mv la (va_up X2 x 0) x 4 (by have := p12_le hn; have := Nat.one_le_two_pow (n := n); omega) (by decide) (by simp only [up_at]; decide)) rd_Mo_adds m_771 m_773 m_27 rfl rfl (Nat.le_of_ble_eq_true rfl) (Nat.le_of_ble_eq_true rfl) (Nat.le_of_ble_eq_true rfl) (Nat.le_of_ble_eq_true rfl) rfl rfl (Nat.le_of_ble_eq_true rfl) d_Mo_reckon_146 [0, 4] [1, 2, 3, 5, 6, 7] rfl (by decide) rfl (by decide) (by decide) (fun _ _ => ?_)
                    refine g_cells (ws' := [(mo, .inr (7, [.int (nI th), .int (nI n), .ref m1, .ref m2, .ref m3, .ref m4, .ref m5, .ref m6, .int (bI true), .int (bI lg), .int (bI td), .int (nI ld), .int (pI lt), .ref m7, .int (nI gr), .int (nI mv), .ref m8, .ref m9, .ref m10, .ref m11, .ref m12, .ref m13, .int (nI la), .ref m14, .ref m15])), (m1, .inl (E 0, 12, .inl (aN T))), (m2, .inl (E 0, 12, .inl (aN U))), (m3, .inl (E 0, 4096, .inl (aN (ovw HI (fun x => tgU T x n) (x + 1))))), (m4, .inl (E 2, 4096, .inl (aN (va_up (va_up X2 x 0) x ((va_up X2 x 0) x ||| 2 ^ 4))))), (m5, .inl (E 3, 4096, .inl (aB (va_up X3 x true)))), (m6, .inl (E 3, 4096, .inl (aB AV))), (m7, .inl (E 0, 12, .inl (aN MR)))]) [6, 0, 1, 2, 7, 3, 4, 5] (by decide) rfl ?_
                    refine g_aload_n C d_Mo_reckon_149 rfl 1 rfl ?_
                    refine g_get C lay_Mo 0 rfl rfl 6 (by decide) m_640 rfl d_Mo_reckon_150 ?_
                    refine g_iload_n C d_Mo_reckon_153 rfl 3 rfl ?_
                    refine g_zaldN C 5 rfl (by have := p12_le hn; have := Nat.one_le_two_pow (n := n); omega) (by decide) d_Mo_reckon_154 ?_
                    refine g_top (show (aB (va_up X3 x true)) x = bI ((va_up X3 x true) x) from rfl) ?_
                    refine g_top (show bI ((va_up X3 x true) x) = bI true from congrArg bI (up_at _ _ _)) ?_
                    refine g_if_eqB (tgt := 169) C d_Mo_reckon_155 (by decide) (fun h => absurd h (by decide)) (fun _ => ?_)
                    refine g_iload_n C d_Mo_reckon_158 rfl 0 rfl ?_
                    refine g_iload_n C d_Mo_reckon_159 rfl 3 rfl ?_
                    refine g_icmp_neN (tgt := 169) C (lt4 (dfM_lt (by omega))) (by have := p12_le hn; omega) d_Mo_reckon_160 (by decide) (fun b8 => ?_) (fun b8 => ?_)
                    · skip
                      refine g_aload_n C d_Mo_reckon_169 rfl 1 rfl ?_
                      refine g_iload_n C d_Mo_reckon_170 rfl 3 rfl ?_
                      refine g_iV (rest := []) (wr := [(m1, .inl (E 0, 12, .inl (aN T))), (m2, .inl (E 0, 12, .inl (aN U))), (m4, .inl (E 2, 4096, .inl (aN (va_up (va_up X2 x 0) x ((va_up X2 x 0) x ||| 2 ^ 4))))), (m5, .inl (E 3, 4096, .inl (aB (va_up X3 x true)))), (m6, .inl (E 3, 4096, .inl (aB AV))), (m7, .inl (E 0, 12, .inl (aN MR)))]) C (o_isFreeSet l D E mo m1 m2 m3 m4 m5 m6 m7 m8 m9 m10 m11 m12 m13 m14 m15 th n true lg td ld lt gr mv la (ovw HI (fun x => tgU T x n) (x + 1)) x (by have := p12_le hn; have := Nat.one_le_two_pow (n := n); omega)) rd_Mo_isFreeSet m_767 m_769 m_26 rfl rfl (Nat.le_of_ble_eq_true rfl) (Nat.le_of_ble_eq_true rfl) (Nat.le_of_ble_eq_true rfl) (Nat.le_of_ble_eq_true rfl) rfl rfl (Nat.le_of_ble_eq_true rfl) d_Mo_reckon_171 [0, 3] [1, 2, 4, 5, 6, 7] rfl (by decide) rfl (by decide) (by decide) (fun r171 _ (hr171 : r171 = bI ((ovw HI (fun x => tgU T x n) (x + 1)) x &&& x == 0)) => ?_)
                      subst hr171
                      refine g_cells (ws' := [(mo, .inr (7, [.int (nI th), .int (nI n), .ref m1, .ref m2, .ref m3, .ref m4, .ref m5, .ref m6, .int (bI true), .int (bI lg), .int (bI td), .int (nI ld), .int (pI lt), .ref m7, .int (nI gr), .int (nI mv), .ref m8, .ref m9, .ref m10, .ref m11, .ref m12, .ref m13, .int (nI la), .ref m14, .ref m15])), (m1, .inl (E 0, 12, .inl (aN T))), (m2, .inl (E 0, 12, .inl (aN U))), (m3, .inl (E 0, 4096, .inl (aN (ovw HI (fun x => tgU T x n) (x + 1))))), (m4, .inl (E 2, 4096, .inl (aN (va_up (va_up X2 x 0) x ((va_up X2 x 0) x ||| 2 ^ 4))))), (m5, .inl (E 3, 4096, .inl (aB (va_up X3 x true)))), (m6, .inl (E 3, 4096, .inl (aB AV))), (m7, .inl (E 0, 12, .inl (aN MR)))]) [6, 0, 1, 7, 2, 3, 4, 5] (by decide) rfl ?_
                      refine g_top (show bI ((ovw HI (fun x => tgU T x n) (x + 1)) x &&& x == 0) = bI (frB T n x) from congrArg bI (by rw [ovw_lt (Nat.lt_succ_self _)]; rfl)) ?_
                      refine g_if_eqB (tgt := 195) C d_Mo_reckon_174 (by decide) (fun b9 => ?_) (fun b9 => ?_)
                      · skip
                        refine g_iinc (lv' := [(2, .int (nI (x + 1))), (3, .int (nI (dfM U (tgU T x n) n))), (0, .ref mo), (1, .int (nI (2 ^ n - 1)))]) C d_Mo_reckon_195 3 rfl (nI_1 _) (by decide) rfl ?_
                        refine g_goto (tgt := 24) C d_Mo_reckon_198 (by decide) ?_
                        refine g_perm [2, 3, 0] rfl ?_
                        exact ih24 (x + 1) (ovw HI (fun x => tgU T x n) (x + 1)) (va_up (va_up X2 x 0) x ((va_up X2 x 0) x ||| 2 ^ 4)) (va_up X3 x true) (by omega) (rfl) (by first | (exact absurd b9 (by rw [b4]; decide)) | ((try simp only [up_up, up_at]); rw [h2, ← ovw_s]; congr 1; (refine Eq.trans ?_ (kd2_eq (by first | exact adB_t b4 b5 | exact adB_f2 b5 | exact adB_f1 b4) (by first | exact beq_iff_eq.mpr b8 | exact beq_eq_false_iff_ne.mpr b8 | exact rfl) b9 (by first | exact beq_iff_eq.mpr b10 | exact beq_eq_false_iff_ne.mpr b10 | exact rfl)).symm; rfl))) (by rw [h3, ← ovB_s]; congr 1; first | exact (adB_t b4 b5).symm | exact (adB_f2 b5).symm | exact (adB_f1 b4).symm) (by omega)
                      · skip
                        refine g_iload_n C d_Mo_reckon_177 rfl 3 rfl ?_
                        refine g_aload_n C d_Mo_reckon_178 rfl 1 rfl ?_
                        refine g_get C lay_Mo 0 rfl rfl 4 (by decide) m_638 rfl d_Mo_reckon_179 ?_
                        refine g_iload_n C d_Mo_reckon_182 rfl 3 rfl ?_
                        refine g_ialdN C 3 rfl (by have := p12_le hn; have := Nat.one_le_two_pow (n := n); omega) (by decide) d_Mo_reckon_183 ?_
                        refine g_top (show (aN (ovw HI (fun x => tgU T x n) (x + 1))) x = nI ((ovw HI (fun x => tgU T x n) (x + 1)) x) from rfl) ?_
                        refine g_top (show nI ((ovw HI (fun x => tgU T x n) (x + 1)) x) = nI (tgU T x n) from congrArg nI (ovw_lt (Nat.lt_succ_self _))) ?_
                        refine g_iorN C d_Mo_reckon_184 ?_
                        refine g_iload_n C d_Mo_reckon_185 rfl 2 rfl ?_
                        refine g_icmp_neN (tgt := 195) C (or_lt (by have := p12_le hn; omega) (lt4 (tgU_lt hT _ _))) (ev_lt hn) d_Mo_reckon_186 (by decide) (fun b10 => ?_) (fun b10 => ?_)
                        · skip
                          refine g_iinc (lv' := [(2, .int (nI (x + 1))), (3, .int (nI (dfM U (tgU T x n) n))), (0, .ref mo), (1, .int (nI (2 ^ n - 1)))]) C d_Mo_reckon_195 3 rfl (nI_1 _) (by decide) rfl ?_
                          refine g_goto (tgt := 24) C d_Mo_reckon_198 (by decide) ?_
                          refine g_perm [2, 3, 0] rfl ?_
                          exact ih24 (x + 1) (ovw HI (fun x => tgU T x n) (x + 1)) (va_up (va_up X2 x 0) x ((va_up X2 x 0) x ||| 2 ^ 4)) (va_up X3 x true) (by omega) (rfl) (by first | (exact absurd b9 (by rw [b4]; decide)) | ((try simp only [up_up, up_at]); rw [h2, ← ovw_s]; congr 1; (refine Eq.trans ?_ (kd2_eq (by first | exact adB_t b4 b5 | exact adB_f2 b5 | exact adB_f1 b4) (by first | exact beq_iff_eq.mpr b8 | exact beq_eq_false_iff_ne.mpr b8 | exact rfl) b9 (by first | exact beq_iff_eq.mpr b10 | exact beq_eq_false_iff_ne.mpr b10 | exact rfl)).symm; rfl))) (by rw [h3, ← ovB_s]; congr 1; first | exact (adB_t b4 b5).symm | exact (adB_f2 b5).symm | exact (adB_f1 b4).symm) (by omega)
                        · skip
                          refine g_aload_n C d_Mo_reckon_189 rfl 1 rfl ?_
                          refine g_iload_n C d_Mo_reckon_190 rfl 3 rfl ?_
                          refine g_iconst (v := nI 2) C d_Mo_reckon_191 (by decide) ?_
                          refine g_vV (rest := []) (wr := [(m1, .inl (E 0, 12, .inl (aN T))), (m2, .inl (E 0, 12, .inl (aN U))), (m3, .inl (E 0, 4096, .inl (aN (ovw HI (fun x => tgU T x n) (x + 1))))), (m5, .inl (E 3, 4096, .inl (aB (va_up X3 x true)))), (m6, .inl (E 3, 4096, .inl (aB AV))), (m7, .inl (E 0, 12, .inl (aN MR)))]) C (o_adds l D E mo m1 m2 m3 m4 m5 m6 m7 m8 m9 m10 m11 m12 m13 m14 m15 th n true lg td ld lt gr mv la (va_up (va_up X2 x 0) x ((va_up X2 x 0) x ||| 2 ^ 4)) x 2 (by have := p12_le hn; have := Nat.one_le_two_pow (n := n); omega) (by decide) (by simp only [up_at]; decide)) rd_Mo_adds m_771 m_773 m_27 rfl rfl (Nat.le_of_ble_eq_true rfl) (Nat.le_of_ble_eq_true rfl) (Nat.le_of_ble_eq_true rfl) (Nat.le_of_ble_eq_true rfl) rfl rfl (Nat.le_of_ble_eq_true rfl) d_Mo_reckon_192 [0, 4] [1, 2, 3, 5, 6, 7] rfl (by decide) rfl (by decide) (by decide) (fun _ _ => ?_)
                          refine g_cells (ws' := [(mo, .inr (7, [.int (nI th), .int (nI n), .ref m1, .ref m2, .ref m3, .ref m4, .ref m5, .ref m6, .int (bI true), .int (bI lg), .int (bI td), .int (nI ld), .int (pI lt), .ref m7, .int (nI gr), .int (nI mv), .ref m8, .ref m9, .ref m10, .ref m11, .ref m12, .ref m13, .int (nI la), .ref m14, .ref m15])), (m1, .inl (E 0, 12, .inl (aN T))), (m2, .inl (E 0, 12, .inl (aN U))), (m3, .inl (E 0, 4096, .inl (aN (ovw HI (fun x => tgU T x n) (x + 1))))), (m4, .inl (E 2, 4096, .inl (aN (va_up (va_up (va_up X2 x 0) x ((va_up X2 x 0) x ||| 2 ^ 4)) x ((va_up (va_up X2 x 0) x ((va_up X2 x 0) x ||| 2 ^ 4)) x ||| 2 ^ 2))))), (m5, .inl (E 3, 4096, .inl (aB (va_up X3 x true)))), (m6, .inl (E 3, 4096, .inl (aB AV))), (m7, .inl (E 0, 12, .inl (aN MR)))]) [6, 0, 1, 2, 7, 3, 4, 5] (by decide) rfl ?_
                          refine g_iinc (lv' := [(2, .int (nI (x + 1))), (3, .int (nI (dfM U (tgU T x n) n))), (0, .ref mo), (1, .int (nI (2 ^ n - 1)))]) C d_Mo_reckon_195 3 rfl (nI_1 _) (by decide) rfl ?_
                          refine g_goto (tgt := 24) C d_Mo_reckon_198 (by decide) ?_
                          refine g_perm [2, 3, 0] rfl ?_
                          exact ih24 (x + 1) (ovw HI (fun x => tgU T x n) (x + 1)) (va_up (va_up (va_up X2 x 0) x ((va_up X2 x 0) x ||| 2 ^ 4)) x ((va_up (va_up X2 x 0) x ((va_up X2 x 0) x ||| 2 ^ 4)) x ||| 2 ^ 2)) (va_up X3 x true) (by omega) (rfl) (by first | (exact absurd b9 (by rw [b4]; decide)) | ((try simp only [up_up, up_at]); rw [h2, ← ovw_s]; congr 1; (refine Eq.trans ?_ (kd2_eq (by first | exact adB_t b4 b5 | exact adB_f2 b5 | exact adB_f1 b4) (by first | exact beq_iff_eq.mpr b8 | exact beq_eq_false_iff_ne.mpr b8 | exact rfl) b9 (by first | exact beq_iff_eq.mpr b10 | exact beq_eq_false_iff_ne.mpr b10 | exact rfl)).symm; rfl))) (by rw [h3, ← ovB_s]; congr 1; first | exact (adB_t b4 b5).symm | exact (adB_f2 b5).symm | exact (adB_f1 b4).symm) (by omega)
                    · skip
                      refine g_aload_n C d_Mo_reckon_163 rfl 1 rfl ?_
                      refine g_iload_n C d_Mo_reckon_164 rfl 3 rfl ?_
                      refine g_iconst (v := nI 0) C d_Mo_reckon_165 (by decide) ?_
                      refine g_vV (rest := []) (wr := [(m1, .inl (E 0, 12, .inl (aN T))), (m2, .inl (E 0, 12, .inl (aN U))), (m3, .inl (E 0, 4096, .inl (aN (ovw HI (fun x => tgU T x n) (x + 1))))), (m5, .inl (E 3, 4096, .inl (aB (va_up X3 x true)))), (m6, .inl (E 3, 4096, .inl (aB AV))), (m7, .inl (E 0, 12, .inl (aN MR)))]) C (o_adds l D E mo m1 m2 m3 m4 m5 m6 m7 m8 m9 m10 m11 m12 m13 m14 m15 th n true lg td ld lt gr mv la (va_up (va_up X2 x 0) x ((va_up X2 x 0) x ||| 2 ^ 4)) x 0 (by have := p12_le hn; have := Nat.one_le_two_pow (n := n); omega) (by decide) (by simp only [up_at]; decide)) rd_Mo_adds m_771 m_773 m_27 rfl rfl (Nat.le_of_ble_eq_true rfl) (Nat.le_of_ble_eq_true rfl) (Nat.le_of_ble_eq_true rfl) (Nat.le_of_ble_eq_true rfl) rfl rfl (Nat.le_of_ble_eq_true rfl) d_Mo_reckon_166 [0, 4] [1, 2, 3, 5, 6, 7] rfl (by decide) rfl (by decide) (by decide) (fun _ _ => ?_)
                      refine g_cells (ws' := [(mo, .inr (7, [.int (nI th), .int (nI n), .ref m1, .ref m2, .ref m3, .ref m4, .ref m5, .ref m6, .int (bI true), .int (bI lg), .int (bI td), .int (nI ld), .int (pI lt), .ref m7, .int (nI gr), .int (nI mv), .ref m8, .ref m9, .ref m10, .ref m11, .ref m12, .ref m13, .int (nI la), .ref m14, .ref m15])), (m1, .inl (E 0, 12, .inl (aN T))), (m2, .inl (E 0, 12, .inl (aN U))), (m3, .inl (E 0, 4096, .inl (aN (ovw HI (fun x => tgU T x n) (x + 1))))), (m4, .inl (E 2, 4096, .inl (aN (va_up (va_up (va_up X2 x 0) x ((va_up X2 x 0) x ||| 2 ^ 4)) x ((va_up (va_up X2 x 0) x ((va_up X2 x 0) x ||| 2 ^ 4)) x ||| 2 ^ 0))))), (m5, .inl (E 3, 4096, .inl (aB (va_up X3 x true)))), (m6, .inl (E 3, 4096, .inl (aB AV))), (m7, .inl (E 0, 12, .inl (aN MR)))]) [6, 0, 1, 2, 7, 3, 4, 5] (by decide) rfl ?_
                      refine g_aload_n C d_Mo_reckon_169 rfl 1 rfl ?_
                      refine g_iload_n C d_Mo_reckon_170 rfl 3 rfl ?_
                      refine g_iV (rest := []) (wr := [(m1, .inl (E 0, 12, .inl (aN T))), (m2, .inl (E 0, 12, .inl (aN U))), (m4, .inl (E 2, 4096, .inl (aN (va_up (va_up (va_up X2 x 0) x ((va_up X2 x 0) x ||| 2 ^ 4)) x ((va_up (va_up X2 x 0) x ((va_up X2 x 0) x ||| 2 ^ 4)) x ||| 2 ^ 0))))), (m5, .inl (E 3, 4096, .inl (aB (va_up X3 x true)))), (m6, .inl (E 3, 4096, .inl (aB AV))), (m7, .inl (E 0, 12, .inl (aN MR)))]) C (o_isFreeSet l D E mo m1 m2 m3 m4 m5 m6 m7 m8 m9 m10 m11 m12 m13 m14 m15 th n true lg td ld lt gr mv la (ovw HI (fun x => tgU T x n) (x + 1)) x (by have := p12_le hn; have := Nat.one_le_two_pow (n := n); omega)) rd_Mo_isFreeSet m_767 m_769 m_26 rfl rfl (Nat.le_of_ble_eq_true rfl) (Nat.le_of_ble_eq_true rfl) (Nat.le_of_ble_eq_true rfl) (Nat.le_of_ble_eq_true rfl) rfl rfl (Nat.le_of_ble_eq_true rfl) d_Mo_reckon_171 [0, 3] [1, 2, 4, 5, 6, 7] rfl (by decide) rfl (by decide) (by decide) (fun r171 _ (hr171 : r171 = bI ((ovw HI (fun x => tgU T x n) (x + 1)) x &&& x == 0)) => ?_)
                      subst hr171
                      refine g_cells (ws' := [(mo, .inr (7, [.int (nI th), .int (nI n), .ref m1, .ref m2, .ref m3, .ref m4, .ref m5, .ref m6, .int (bI true), .int (bI lg), .int (bI td), .int (nI ld), .int (pI lt), .ref m7, .int (nI gr), .int (nI mv), .ref m8, .ref m9, .ref m10, .ref m11, .ref m12, .ref m13, .int (nI la), .ref m14, .ref m15])), (m1, .inl (E 0, 12, .inl (aN T))), (m2, .inl (E 0, 12, .inl (aN U))), (m3, .inl (E 0, 4096, .inl (aN (ovw HI (fun x => tgU T x n) (x + 1))))), (m4, .inl (E 2, 4096, .inl (aN (va_up (va_up (va_up X2 x 0) x ((va_up X2 x 0) x ||| 2 ^ 4)) x ((va_up (va_up X2 x 0) x ((va_up X2 x 0) x ||| 2 ^ 4)) x ||| 2 ^ 0))))), (m5, .inl (E 3, 4096, .inl (aB (va_up X3 x true)))), (m6, .inl (E 3, 4096, .inl (aB AV))), (m7, .inl (E 0, 12, .inl (aN MR)))]) [6, 0, 1, 7, 2, 3, 4, 5] (by decide) rfl ?_
                      refine g_top (show bI ((ovw HI (fun x => tgU T x n) (x + 1)) x &&& x == 0) = bI (frB T n x) from congrArg bI (by rw [ovw_lt (Nat.lt_succ_self _)]; rfl)) ?_
                      refine g_if_eqB (tgt := 195) C d_Mo_reckon_174 (by decide) (fun b9 => ?_) (fun b9 => ?_)
                      · skip
                        refine g_iinc (lv' := [(2, .int (nI (x + 1))), (3, .int (nI (dfM U (tgU T x n) n))), (0, .ref mo), (1, .int (nI (2 ^ n - 1)))]) C d_Mo_reckon_195 3 rfl (nI_1 _) (by decide) rfl ?_
                        refine g_goto (tgt := 24) C d_Mo_reckon_198 (by decide) ?_
                        refine g_perm [2, 3, 0] rfl ?_
                        exact ih24 (x + 1) (ovw HI (fun x => tgU T x n) (x + 1)) (va_up (va_up (va_up X2 x 0) x ((va_up X2 x 0) x ||| 2 ^ 4)) x ((va_up (va_up X2 x 0) x ((va_up X2 x 0) x ||| 2 ^ 4)) x ||| 2 ^ 0)) (va_up X3 x true) (by omega) (rfl) (by first | (exact absurd b9 (by rw [b4]; decide)) | ((try simp only [up_up, up_at]); rw [h2, ← ovw_s]; congr 1; (refine Eq.trans ?_ (kd2_eq (by first | exact adB_t b4 b5 | exact adB_f2 b5 | exact adB_f1 b4) (by first | exact beq_iff_eq.mpr b8 | exact beq_eq_false_iff_ne.mpr b8 | exact rfl) b9 (by first | exact beq_iff_eq.mpr b10 | exact beq_eq_false_iff_ne.mpr b10 | exact rfl)).symm; rfl))) (by rw [h3, ← ovB_s]; congr 1; first | exact (adB_t b4 b5).symm | exact (adB_f2 b5).symm | exact (adB_f1 b4).symm) (by omega)
                      · skip
                        refine g_iload_n C d_Mo_reckon_177 rfl 3 rfl ?_
                        refine g_aload_n C d_Mo_reckon_178 rfl 1 rfl ?_
                        refine g_get C lay_Mo 0 rfl rfl 4 (by decide) m_638 rfl d_Mo_reckon_179 ?_
                        refine g_iload_n C d_Mo_reckon_182 rfl 3 rfl ?_
                        refine g_ialdN C 3 rfl (by have := p12_le hn; have := Nat.one_le_two_pow (n := n); omega) (by decide) d_Mo_reckon_183 ?_
                        refine g_top (show (aN (ovw HI (fun x => tgU T x n) (x + 1))) x = nI ((ovw HI (fun x => tgU T x n) (x + 1)) x) from rfl) ?_
                        refine g_top (show nI ((ovw HI (fun x => tgU T x n) (x + 1)) x) = nI (tgU T x n) from congrArg nI (ovw_lt (Nat.lt_succ_self _))) ?_
                        refine g_iorN C d_Mo_reckon_184 ?_
                        refine g_iload_n C d_Mo_reckon_185 rfl 2 rfl ?_
                        refine g_icmp_neN (tgt := 195) C (or_lt (by have := p12_le hn; omega) (lt4 (tgU_lt hT _ _))) (ev_lt hn) d_Mo_reckon_186 (by decide) (fun b10 => ?_) (fun b10 => ?_)
                        · skip
                          refine g_iinc (lv' := [(2, .int (nI (x + 1))), (3, .int (nI (dfM U (tgU T x n) n))), (0, .ref mo), (1, .int (nI (2 ^ n - 1)))]) C d_Mo_reckon_195 3 rfl (nI_1 _) (by decide) rfl ?_
                          refine g_goto (tgt := 24) C d_Mo_reckon_198 (by decide) ?_
                          refine g_perm [2, 3, 0] rfl ?_
                          exact ih24 (x + 1) (ovw HI (fun x => tgU T x n) (x + 1)) (va_up (va_up (va_up X2 x 0) x ((va_up X2 x 0) x ||| 2 ^ 4)) x ((va_up (va_up X2 x 0) x ((va_up X2 x 0) x ||| 2 ^ 4)) x ||| 2 ^ 0)) (va_up X3 x true) (by omega) (rfl) (by first | (exact absurd b9 (by rw [b4]; decide)) | ((try simp only [up_up, up_at]); rw [h2, ← ovw_s]; congr 1; (refine Eq.trans ?_ (kd2_eq (by first | exact adB_t b4 b5 | exact adB_f2 b5 | exact adB_f1 b4) (by first | exact beq_iff_eq.mpr b8 | exact beq_eq_false_iff_ne.mpr b8 | exact rfl) b9 (by first | exact beq_iff_eq.mpr b10 | exact beq_eq_false_iff_ne.mpr b10 | exact rfl)).symm; rfl))) (by rw [h3, ← ovB_s]; congr 1; first | exact (adB_t b4 b5).symm | exact (adB_f2 b5).symm | exact (adB_f1 b4).symm) (by omega)
                        · skip
                          refine g_aload_n C d_Mo_reckon_189 rfl 1 rfl ?_
                          refine g_iload_n C d_Mo_reckon_190 rfl 3 rfl ?_
                          refine g_iconst (v := nI 2) C d_Mo_reckon_191 (by decide) ?_
                          refine g_vV (rest := []) (wr := [(m1, .inl (E 0, 12, .inl (aN T))), (m2, .inl (E 0, 12, .inl (aN U))), (m3, .inl (E 0, 4096, .inl (aN (ovw HI (fun x => tgU T x n) (x + 1))))), (m5, .inl (E 3, 4096, .inl (aB (va_up X3 x true)))), (m6, .inl (E 3, 4096, .inl (aB AV))), (m7, .inl (E 0, 12, .inl (aN MR)))]) C (o_adds l D E mo m1 m2 m3 m4 m5 m6 m7 m8 m9 m10 m11 m12 m13 m14 m15 th n true lg td ld lt gr mv la (va_up (va_up (va_up X2 x 0) x ((va_up X2 x 0) x ||| 2 ^ 4)) x ((va_up (va_up X2 x 0) x ((va_up X2 x 0) x ||| 2 ^ 4)) x ||| 2 ^ 0)) x 2 (by have := p12_le hn; have := Nat.one_le_two_pow (n := n); omega) (by decide) (by simp only [up_at]; decide)) rd_Mo_adds m_771 m_773 m_27 rfl rfl (Nat.le_of_ble_eq_true rfl) (Nat.le_of_ble_eq_true rfl) (Nat.le_of_ble_eq_true rfl) (Nat.le_of_ble_eq_true rfl) rfl rfl (Nat.le_of_ble_eq_true rfl) d_Mo_reckon_192 [0, 4] [1, 2, 3, 5, 6, 7] rfl (by decide) rfl (by decide) (by decide) (fun _ _ => ?_)
                          refine g_cells (ws' := [(mo, .inr (7, [.int (nI th), .int (nI n), .ref m1, .ref m2, .ref m3, .ref m4, .ref m5, .ref m6, .int (bI true), .int (bI lg), .int (bI td), .int (nI ld), .int (pI lt), .ref m7, .int (nI gr), .int (nI mv), .ref m8, .ref m9, .ref m10, .ref m11, .ref m12, .ref m13, .int (nI la), .ref m14, .ref m15])), (m1, .inl (E 0, 12, .inl (aN T))), (m2, .inl (E 0, 12, .inl (aN U))), (m3, .inl (E 0, 4096, .inl (aN (ovw HI (fun x => tgU T x n) (x + 1))))), (m4, .inl (E 2, 4096, .inl (aN (va_up (va_up (va_up (va_up X2 x 0) x ((va_up X2 x 0) x ||| 2 ^ 4)) x ((va_up (va_up X2 x 0) x ((va_up X2 x 0) x ||| 2 ^ 4)) x ||| 2 ^ 0)) x ((va_up (va_up (va_up X2 x 0) x ((va_up X2 x 0) x ||| 2 ^ 4)) x ((va_up (va_up X2 x 0) x ((va_up X2 x 0) x ||| 2 ^ 4)) x ||| 2 ^ 0)) x ||| 2 ^ 2))))), (m5, .inl (E 3, 4096, .inl (aB (va_up X3 x true)))), (m6, .inl (E 3, 4096, .inl (aB AV))), (m7, .inl (E 0, 12, .inl (aN MR)))]) [6, 0, 1, 2, 7, 3, 4, 5] (by decide) rfl ?_
                          refine g_iinc (lv' := [(2, .int (nI (x + 1))), (3, .int (nI (dfM U (tgU T x n) n))), (0, .ref mo), (1, .int (nI (2 ^ n - 1)))]) C d_Mo_reckon_195 3 rfl (nI_1 _) (by decide) rfl ?_
                          refine g_goto (tgt := 24) C d_Mo_reckon_198 (by decide) ?_
                          refine g_perm [2, 3, 0] rfl ?_
                          exact ih24 (x + 1) (ovw HI (fun x => tgU T x n) (x + 1)) (va_up (va_up (va_up (va_up X2 x 0) x ((va_up X2 x 0) x ||| 2 ^ 4)) x ((va_up (va_up X2 x 0) x ((va_up X2 x 0) x ||| 2 ^ 4)) x ||| 2 ^ 0)) x ((va_up (va_up (va_up X2 x 0) x ((va_up X2 x 0) x ||| 2 ^ 4)) x ((va_up (va_up X2 x 0) x ((va_up X2 x 0) x ||| 2 ^ 4)) x ||| 2 ^ 0)) x ||| 2 ^ 2)) (va_up X3 x true) (by omega) (rfl) (by first | (exact absurd b9 (by rw [b4]; decide)) | ((try simp only [up_up, up_at]); rw [h2, ← ovw_s]; congr 1; (refine Eq.trans ?_ (kd2_eq (by first | exact adB_t b4 b5 | exact adB_f2 b5 | exact adB_f1 b4) (by first | exact beq_iff_eq.mpr b8 | exact beq_eq_false_iff_ne.mpr b8 | exact rfl) b9 (by first | exact beq_iff_eq.mpr b10 | exact beq_eq_false_iff_ne.mpr b10 | exact rfl)).symm; rfl))) (by rw [h3, ← ovB_s]; congr 1; first | exact (adB_t b4 b5).symm | exact (adB_f2 b5).symm | exact (adB_f1 b4).symm) (by omega)
              · skip
                refine g_aload_n C d_Mo_reckon_46 rfl 0 rfl ?_
                refine g_get C lay_Mo 0 rfl rfl 4 (by decide) m_638 rfl d_Mo_reckon_47 ?_
                refine g_iload_n C d_Mo_reckon_50 rfl 2 rfl ?_
                refine g_iload_n C d_Mo_reckon_51 rfl 2 rfl ?_
                refine g_iload_n C d_Mo_reckon_52 rfl 3 rfl ?_
                refine g_ishrN C (by have := p12_le hn; omega) (by omega) d_Mo_reckon_53 ?_
                refine g_iconst (v := nI 1) C d_Mo_reckon_54 (by decide) ?_
                refine g_iandB C d_Mo_reckon_55 ?_
                refine g_iconst (v := nI 1) C d_Mo_reckon_56 (by decide) ?_
                refine g_top (show nI 1 = bI true from rfl) ?_
                refine g_icmp_neB (tgt := 76) C d_Mo_reckon_57 (by decide) (fun b3 => ?_) (fun b3 => ?_)
                · skip
                  refine g_aload_n C d_Mo_reckon_76 rfl 0 rfl ?_
                  refine g_get C lay_Mo 0 rfl rfl 4 (by decide) m_638 rfl d_Mo_reckon_77 ?_
                  refine g_iload_n C d_Mo_reckon_80 rfl 2 rfl ?_
                  refine g_ialdN C 3 rfl (by have := p12_le hn; have := Nat.one_le_two_pow (n := n); omega) (by decide) d_Mo_reckon_81 ?_
                  refine g_top (show (aN Y) x = nI (Y x) from rfl) ?_
                  refine g_iastN (f' := aN (va_up Y x (Y x))) (ws' := [(mo, .inr (7, [.int (nI th), .int (nI n), .ref m1, .ref m2, .ref m3, .ref m4, .ref m5, .ref m6, .int (bI true), .int (bI lg), .int (bI td), .int (nI ld), .int (pI lt), .ref m7, .int (nI gr), .int (nI mv), .ref m8, .ref m9, .ref m10, .ref m11, .ref m12, .ref m13, .int (nI la), .ref m14, .ref m15])), (m1, .inl (E 0, 12, .inl (aN T))), (m2, .inl (E 0, 12, .inl (aN U))), (m3, .inl (E 0, 4096, .inl (aN (va_up Y x (Y x))))), (m4, .inl (E 2, 4096, .inl (aN X2))), (m5, .inl (E 3, 4096, .inl (aB X3))), (m6, .inl (E 3, 4096, .inl (aB AV))), (m7, .inl (E 0, 12, .inl (aN MR)))]) C 3 rfl (by have := p12_le hn; have := Nat.one_le_two_pow (n := n); omega) (by decide) (aN_up _ _ _) rfl d_Mo_reckon_82 ?_
                  refine g_iinc (lv' := [(3, .int (nI (a + 1))), (0, .ref mo), (1, .int (nI (2 ^ n - 1))), (2, .int (nI x))]) C d_Mo_reckon_83 3 rfl (nI_1 _) (by decide) rfl ?_
                  refine g_goto (tgt := 38) C d_Mo_reckon_86 (by decide) ?_
                  refine g_perm [1, 2, 3, 0] rfl ?_
                  exact ih38 (a + 1) (va_up Y x (Y x)) (by omega) (ht_st hY (by first | (rw [if_pos b3]; done) | (rw [if_neg b3]; done))) (by omega)
                · skip
                  refine g_aload_n C d_Mo_reckon_60 rfl 0 rfl ?_
                  refine g_get C lay_Mo 0 rfl rfl 4 (by decide) m_638 rfl d_Mo_reckon_61 ?_
                  refine g_iload_n C d_Mo_reckon_64 rfl 2 rfl ?_
                  refine g_ialdN C 3 rfl (by have := p12_le hn; have := Nat.one_le_two_pow (n := n); omega) (by decide) d_Mo_reckon_65 ?_
                  refine g_top (show (aN Y) x = nI (Y x) from rfl) ?_
                  refine g_aload_n C d_Mo_reckon_66 rfl 0 rfl ?_
                  refine g_get C lay_Mo 0 rfl rfl 2 (by decide) m_636 rfl d_Mo_reckon_67 ?_
                  refine g_iload_n C d_Mo_reckon_70 rfl 3 rfl ?_
                  refine g_ialdN C 1 rfl (by omega) (by decide) d_Mo_reckon_71 ?_
                  refine g_top (show (aN T) a = nI (T a) from rfl) ?_
                  refine g_iorN C d_Mo_reckon_72 ?_
                  refine g_goto (tgt := 82) C d_Mo_reckon_73 (by decide) ?_
                  refine g_iastN (f' := aN (va_up Y x ((Y x) ||| (T a)))) (ws' := [(mo, .inr (7, [.int (nI th), .int (nI n), .ref m1, .ref m2, .ref m3, .ref m4, .ref m5, .ref m6, .int (bI true), .int (bI lg), .int (bI td), .int (nI ld), .int (pI lt), .ref m7, .int (nI gr), .int (nI mv), .ref m8, .ref m9, .ref m10, .ref m11, .ref m12, .ref m13, .int (nI la), .ref m14, .ref m15])), (m1, .inl (E 0, 12, .inl (aN T))), (m2, .inl (E 0, 12, .inl (aN U))), (m3, .inl (E 0, 4096, .inl (aN (va_up Y x ((Y x) ||| (T a)))))), (m4, .inl (E 2, 4096, .inl (aN X2))), (m5, .inl (E 3, 4096, .inl (aB X3))), (m6, .inl (E 3, 4096, .inl (aB AV))), (m7, .inl (E 0, 12, .inl (aN MR)))]) C 3 rfl (by have := p12_le hn; have := Nat.one_le_two_pow (n := n); omega) (by decide) (aN_up _ _ _) rfl d_Mo_reckon_82 ?_
                  refine g_iinc (lv' := [(3, .int (nI (a + 1))), (0, .ref mo), (1, .int (nI (2 ^ n - 1))), (2, .int (nI x))]) C d_Mo_reckon_83 3 rfl (nI_1 _) (by decide) rfl ?_
                  refine g_goto (tgt := 38) C d_Mo_reckon_86 (by decide) ?_
                  refine g_perm [1, 2, 3, 0] rfl ?_
                  exact ih38 (a + 1) (va_up Y x ((Y x) ||| (T a))) (by omega) (ht_st hY (by first | (rw [if_pos b3]; done) | (rw [if_neg b3]; done))) (by omega)
          refine g_perm [1, 2, 3, 0] rfl ?_
          exact loop38 (n - 0 + 1) 0 (va_up X1 x 0) (Nat.zero_le _) (rfl) (Nat.lt_succ_self _)
    refine g_perm [2, 1, 0] rfl ?_
    exact loop24 (2 ^ n - 1 + 1 - 0 + 1) 0 HI KD HE (Nat.zero_le _) ((ovw_0 _ _).symm) ((ovw_0 _ _).symm) ((ovB_0 _ _).symm) (Nat.lt_succ_self _)
  · skip
    exact g_vret C hrt hlk () (trivial) (by subst b0; rfl) d_Mo_reckon_7
