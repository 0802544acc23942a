set_option maxHeartbeats 4000000 in
set_option maxRecDepth 100000 in
theorem c_Tk_defFull (l : Launch) (D : va_G) (E : Nat → ClassId) (v : Nat) (va : Nat) (vb : Nat) (vc : Nat) (Sa : Nat → Nat) (An : Nat → Int32) (Sd : Nat → Nat) (z : Nat) (tl : Bool) (h : Nat) (t : Nat) (u : Nat) (n : Nat) (T : Nat → Nat) (U : Nat → Nat) (q : Nat) (qa : Nat) (R : Nat → Nat) (al : Nat) (a : Nat) (y : Int32) (dp : Nat) (hz : z = 500) (hdp : dp ≤ 12) : MV l D E y_Talk_defend (.code y_Talk_defend k_Talk_defend 10 none) ({ frames := 1, cells := 0, slots := 0, locals := 23 } : Room) [.ref v, .int (nI a), .int y, .ref h, .ref q, .int (nI dp)] [(v, .inr (5, [.ref va, .ref vb, .ref vc, .int (nI z), .int (bI tl)])), (va, .inl (E 0, 500, .inl (aN Sa))), (vb, .inl (E 0, 500, .inl An)), (vc, .inl (E 0, 500, .inl (aN Sd))), (h, .inr (6, [.ref t, .ref u, .int (nI n)])), (t, .inl (E 0, 12, .inl (aN T))), (u, .inl (E 0, 12, .inl (aN U))), (q, .inr (1, [.ref qa, .int (nI al)])), (qa, .inl (E 0, 12, .inl (aN R)))] (fun _ : Unit => True) (fun _ : Unit => [(v, .inr (5, [.ref va, .ref vb, .ref vc, .int (nI z), .int (bI true)])), (va, .inl (E 0, 500, .inl (aN Sa))), (vb, .inl (E 0, 500, .inl An)), (vc, .inl (E 0, 500, .inl (aN Sd))), (h, .inr (6, [.ref t, .ref u, .int (nI n)])), (t, .inl (E 0, 12, .inl (aN T))), (u, .inl (E 0, 12, .inl (aN U))), (q, .inr (1, [.ref qa, .int (nI al)])), (qa, .inl (E 0, 12, .inl (aN R)))]) := by
  refine MV.of (by decide) (Nat.le_of_ble_eq_true rfl) ?_
  intro p e s m args below meth c A C hrt hlk hnm
  refine g_lv (lv' := [(0, .ref v), (1, .int (nI a)), (2, .int y), (3, .ref h), (4, .ref q), (5, .int (nI dp))]) rfl ?_
  refine g_aload_n C d_Talk_defend_0 rfl 0 rfl ?_
  refine g_iload_n C d_Talk_defend_1 rfl 1 rfl ?_
  refine g_iload_n C d_Talk_defend_2 rfl 2 rfl ?_
  refine g_iconst (v := nI 0) C d_Talk_defend_3 (by decide) ?_
  refine g_iV (rest := []) (wr := [(h, .inr (6, [.ref t, .ref u, .int (nI n)])), (t, .inl (E 0, 12, .inl (aN T))), (u, .inl (E 0, 12, .inl (aN U))), (q, .inr (1, [.ref qa, .int (nI al)])), (qa, .inl (E 0, 12, .inl (aN R)))]) C (c_Tk_sayFull l D E v va vb vc Sa An Sd z tl a y 0 (by omega)) rd_Talk_say m_614 m_616 m_19 rfl rfl (Nat.le_of_ble_eq_true rfl) (Nat.le_of_ble_eq_true rfl) (Nat.le_of_ble_eq_true rfl) (Nat.le_of_ble_eq_true rfl) rfl rfl (Nat.le_of_ble_eq_true rfl) d_Talk_defend_4 [0, 1, 2, 3] [4, 5, 6, 7, 8] rfl (by decide) rfl (by decide) (by decide) (fun r4 _ (hr4 : r4 = (-1)) => ?_)
  subst hr4
  refine g_cells (ws' := [(v, .inr (5, [.ref va, .ref vb, .ref vc, .int (nI z), .int (bI true)])), (va, .inl (E 0, 500, .inl (aN Sa))), (vb, .inl (E 0, 500, .inl An)), (vc, .inl (E 0, 500, .inl (aN Sd))), (h, .inr (6, [.ref t, .ref u, .int (nI n)])), (t, .inl (E 0, 12, .inl (aN T))), (u, .inl (E 0, 12, .inl (aN U))), (q, .inr (1, [.ref qa, .int (nI al)])), (qa, .inl (E 0, 12, .inl (aN R)))]) [5, 6, 7, 8, 0, 1, 2, 3, 4] (by decide) rfl ?_
  refine g_istore (lv' := [(6, .int (-1)), (0, .ref v), (1, .int (nI a)), (2, .int y), (3, .ref h), (4, .ref q), (5, .int (nI dp))]) C d_Talk_defend_7 (by decide) rfl ?_
  refine g_iload C d_Talk_defend_9 6 rfl ?_
  refine g_bipush (v := nI 12) C d_Talk_defend_11 (by decide) ?_
  refine g_icmp_leN (tgt := 21) C (by omega) (by decide) d_Talk_defend_13 (by decide) (fun b0 => ?_) (fun b0 => ?_)
  · skip
    refine g_iconst (v := nI 0) C d_Talk_defend_21 (by decide) ?_
    refine g_istore (lv' := [(7, .int (nI 0)), (6, .int (-1)), (0, .ref v), (1, .int (nI a)), (2, .int y), (3, .ref h), (4, .ref q), (5, .int (nI dp))]) C d_Talk_defend_22 (by decide) rfl ?_
    have loop24 : ∀ (f : Nat) (i : Nat), (i = 0) → 1 < f → GG p l e ({ frames := 1, cells := 0, slots := 0, locals := 23 } : Room) s m args below meth c (MQ below (va_Qv (fun _ : Unit => True) (BC D A (fun _ : Unit => [(v, .inr (5, [.ref va, .ref vb, .ref vc, .int (nI z), .int (bI true)])), (va, .inl (E 0, 500, .inl (aN Sa))), (vb, .inl (E 0, 500, .inl An)), (vc, .inl (E 0, 500, .inl (aN Sd))), (h, .inr (6, [.ref t, .ref u, .int (nI n)])), (t, .inl (E 0, 12, .inl (aN T))), (u, .inl (E 0, 12, .inl (aN U))), (q, .inr (1, [.ref qa, .int (nI al)])), (qa, .inl (E 0, 12, .inl (aN R)))])) A) args s (({ frames := 1, cells := 0, slots := 0, locals := 23 } : Room)).cells (({ frames := 1, cells := 0, slots := 0, locals := 23 } : Room)).slots A) D A 10 0 0 24 [(0, .ref v), (7, .int (nI i))] [] [(v, .inr (5, [.ref va, .ref vb, .ref vc, .int (nI z), .int (bI true)])), (va, .inl (E 0, 500, .inl (aN Sa))), (vb, .inl (E 0, 500, .inl An)), (vc, .inl (E 0, 500, .inl (aN Sd))), (h, .inr (6, [.ref t, .ref u, .int (nI n)])), (t, .inl (E 0, 12, .inl (aN T))), (u, .inl (E 0, 12, .inl (aN U))), (q, .inr (1, [.ref qa, .int (nI al)])), (qa, .inl (E 0, 12, .inl (aN R)))] := by
      intro f
      induction f with
      | zero => intro i hi hf; exact absurd hf (Nat.not_lt_zero _)
      | succ f ih =>
        intro i hi hf
        have ih24 := ih
        refine g_iload C d_Talk_defend_24 1 rfl ?_
        refine g_bipush (v := nI 12) C d_Talk_defend_26 (by decide) ?_
        refine g_icmp_geN (tgt := 96) C (by omega) (by decide) d_Talk_defend_28 (by decide) (fun b1 => ?_) (fun b1 => ?_)
        · skip
          exact absurd b1 (by omega)
        · skip
          refine g_aload_n C d_Talk_defend_31 rfl 0 rfl ?_
          refine g_get C lay_Talk 0 rfl rfl 4 (by decide) m_143 rfl d_Talk_defend_32 ?_
          refine g_if_neB (tgt := 96) C d_Talk_defend_35 (by decide) (fun _ => ?_) (fun h => absurd h (by decide))
          exact g_vret C hrt hlk () (trivial) rfl d_Talk_defend_96
    refine g_perm [2, 0] rfl ?_
    exact loop24 (1 + 1) 0 (rfl) (Nat.lt_succ_self _)
  · skip
    exact absurd b0 (by omega)

set_option maxHeartbeats 4000000 in
set_option maxRecDepth 100000 in
theorem c_Tk_defend (l : Launch) (D : va_G) (E : Nat → ClassId) : ∀ (fu : Nat) (v : Nat) (va : Nat) (vb : Nat) (vc : Nat) (Sa : Nat → Nat) (An : Nat → Int32) (Sd : Nat → Nat) (z : Nat) (h : Nat) (t : Nat) (u : Nat) (n : Nat) (T : Nat → Nat) (U : Nat → Nat) (q : Nat) (qa : Nat) (R : Nat → Nat) (al : Nat) (a : Nat) (y : Int32) (dp : Nat), (n ≤ 12) → (∀ a, U a < 4096) → (∀ a, R a < 4096) → (al < 4096) → (DG U R al n) → (a < n) → (0 < R a) → (R a ≤ fu) → (dp + R a ≤ 13) → (z < 500) → MV l D E y_Talk_defend (.code y_Talk_defend k_Talk_defend 10 none) (rmD fu) [.ref v, .int (nI a), .int y, .ref h, .ref q, .int (nI dp)] [(v, .inr (5, [.ref va, .ref vb, .ref vc, .int (nI z), .int (bI false)])), (va, .inl (E 0, 500, .inl (aN Sa))), (vb, .inl (E 0, 500, .inl An)), (vc, .inl (E 0, 500, .inl (aN Sd))), (h, .inr (6, [.ref t, .ref u, .int (nI n)])), (t, .inl (E 0, 12, .inl (aN T))), (u, .inl (E 0, 12, .inl (aN U))), (q, .inr (1, [.ref qa, .int (nI al)])), (qa, .inl (E 0, 12, .inl (aN R)))] (fun (uu : (Nat → Nat) × (Nat → Int32) × (Nat → Nat) × Nat × Bool) => match uu with | (Sa2, An2, Sd2, z2, tl2) => (z + (mvs U (eaF U R al) fu a y z).length ≤ 500 → WR (mvs U (eaF U R al) fu a y z) Sa An Sd z Sa2 An2 Sd2 z2 ∧ tl2 = false) ∧ (500 < z + (mvs U (eaF U R al) fu a y z).length → tl2 = true) ∧ (z2 ≤ 500)) (fun (uu : (Nat → Nat) × (Nat → Int32) × (Nat → Nat) × Nat × Bool) => match uu with | (Sa2, An2, Sd2, z2, tl2) => [(v, .inr (5, [.ref va, .ref vb, .ref vc, .int (nI z2), .int (bI tl2)])), (va, .inl (E 0, 500, .inl (aN Sa2))), (vb, .inl (E 0, 500, .inl An2)), (vc, .inl (E 0, 500, .inl (aN Sd2))), (h, .inr (6, [.ref t, .ref u, .int (nI n)])), (t, .inl (E 0, 12, .inl (aN T))), (u, .inl (E 0, 12, .inl (aN U))), (q, .inr (1, [.ref qa, .int (nI al)])), (qa, .inl (E 0, 12, .inl (aN R)))]) := by
  intro fu
  induction fu with
  | zero => intro v va vb vc Sa An Sd z h t u n T U q qa R al a y dp hn hU hR hal hG ha hra hrf hdp hz; exact absurd hrf (by omega)
  | succ fu ihd =>
    intro v va vb vc Sa An Sd z h t u n T U q qa R al a y dp hn hU hR hal hG ha hra hrf hdp hz
    refine MV.of (by decide) (Nat.le_of_ble_eq_true rfl) ?_
    intro p e s m args below meth c A C hrt hlk hnm
    refine g_lv (lv' := [(0, .ref v), (1, .int (nI a)), (2, .int y), (3, .ref h), (4, .ref q), (5, .int (nI dp))]) rfl ?_
    refine g_aload_n C d_Talk_defend_0 rfl 0 rfl ?_
    refine g_iload_n C d_Talk_defend_1 rfl 1 rfl ?_
    refine g_iload_n C d_Talk_defend_2 rfl 2 rfl ?_
    refine g_iconst (v := nI 0) C d_Talk_defend_3 (by decide) ?_
    refine g_iV (rest := []) (wr := [(h, .inr (6, [.ref t, .ref u, .int (nI n)])), (t, .inl (E 0, 12, .inl (aN T))), (u, .inl (E 0, 12, .inl (aN U))), (q, .inr (1, [.ref qa, .int (nI al)])), (qa, .inl (E 0, 12, .inl (aN R)))]) C (c_Tk_say l D E v va vb vc Sa An Sd z false a y 0 hz) rd_Talk_say m_614 m_616 m_19 rfl rfl (by first | (simp only [rmD]; omega) | (simp only [rmD]; done) | (simp [rmD]; done)) (by first | (simp only [rmD]; omega) | (simp only [rmD]; done) | (simp [rmD]; done)) (by first | (simp only [rmD]; omega) | (simp only [rmD]; done) | (simp [rmD]; done)) (by first | (simp only [rmD]; omega) | (simp only [rmD]; done) | (simp [rmD]; done)) rfl rfl (Nat.le_of_ble_eq_true rfl) d_Talk_defend_4 [0, 1, 2, 3] [4, 5, 6, 7, 8] rfl (by decide) rfl (by decide) (by decide) (fun r4 _ (hr4 : r4 = nI z) => ?_)
    subst hr4
    refine g_cells (ws' := [(v, .inr (5, [.ref va, .ref vb, .ref vc, .int (nI (z + 1)), .int (bI false)])), (va, .inl (E 0, 500, .inl (aN (va_up Sa z a)))), (vb, .inl (E 0, 500, .inl (upd An z y))), (vc, .inl (E 0, 500, .inl (aN (va_up Sd z 0)))), (h, .inr (6, [.ref t, .ref u, .int (nI n)])), (t, .inl (E 0, 12, .inl (aN T))), (u, .inl (E 0, 12, .inl (aN U))), (q, .inr (1, [.ref qa, .int (nI al)])), (qa, .inl (E 0, 12, .inl (aN R)))]) [5, 6, 7, 8, 0, 1, 2, 3, 4] (by decide) rfl ?_
    refine g_istore (lv' := [(6, .int (nI z)), (0, .ref v), (1, .int (nI a)), (2, .int y), (3, .ref h), (4, .ref q), (5, .int (nI dp))]) C d_Talk_defend_7 (by decide) rfl ?_
    refine g_iload C d_Talk_defend_9 6 rfl ?_
    refine g_bipush (v := nI 12) C d_Talk_defend_11 (by decide) ?_
    refine g_icmp_leN (tgt := 21) C (by omega) (by decide) d_Talk_defend_13 (by decide) (fun b0 => ?_) (fun b0 => ?_)
    · skip
      refine g_iconst (v := nI 0) C d_Talk_defend_21 (by decide) ?_
      refine g_istore (lv' := [(7, .int (nI 0)), (6, .int (nI z)), (0, .ref v), (1, .int (nI a)), (2, .int y), (3, .ref h), (4, .ref q), (5, .int (nI dp))]) C d_Talk_defend_22 (by decide) rfl ?_
      have loop24 : ∀ (f : Nat) (i : Nat) (S1 : Nat → Nat) (A1 : Nat → Int32) (D1 : Nat → Nat) (z1 : Nat) (tv : Bool), (i ≤ 12) → (z1 ≤ 500) → (tv = false → WR ((a, y, 0) :: kidL U (fun b p x => mvs U (eaF U R al) fu (eaF U R al b) p x) a z i) Sa An Sd z S1 A1 D1 z1) → (tv = true → 500 < z + (mvs U (eaF U R al) (fu + 1) a y z).length) → 12 - i < f → GG p l e (rmD (fu + 1)) s m args below meth c (MQ below (va_Qv (fun (uu : (Nat → Nat) × (Nat → Int32) × (Nat → Nat) × Nat × Bool) => match uu with | (Sa2, An2, Sd2, z2, tl2) => (z + (mvs U (eaF U R al) (fu + 1) a y z).length ≤ 500 → WR (mvs U (eaF U R al) (fu + 1) a y z) Sa An Sd z Sa2 An2 Sd2 z2 ∧ tl2 = false) ∧ (500 < z + (mvs U (eaF U R al) (fu + 1) a y z).length → tl2 = true) ∧ (z2 ≤ 500)) (BC D A (fun (uu : (Nat → Nat) × (Nat → Int32) × (Nat → Nat) × Nat × Bool) => match uu with | (Sa2, An2, Sd2, z2, tl2) => [(v, .inr (5, [.ref va, .ref vb, .ref vc, .int (nI z2), .int (bI tl2)])), (va, .inl (E 0, 500, .inl (aN Sa2))), (vb, .inl (E 0, 500, .inl An2)), (vc, .inl (E 0, 500, .inl (aN Sd2))), (h, .inr (6, [.ref t, .ref u, .int (nI n)])), (t, .inl (E 0, 12, .inl (aN T))), (u, .inl (E 0, 12, .inl (aN U))), (q, .inr (1, [.ref qa, .int (nI al)])), (qa, .inl (E 0, 12, .inl (aN R)))])) A) args s ((rmD (fu + 1))).cells ((rmD (fu + 1))).slots A) D A 10 0 0 24 [(0, .ref v), (1, .int (nI a)), (2, .int y), (3, .ref h), (4, .ref q), (5, .int (nI dp)), (6, .int (nI z)), (7, .int (nI i))] [] [(v, .inr (5, [.ref va, .ref vb, .ref vc, .int (nI z1), .int (bI tv)])), (va, .inl (E 0, 500, .inl (aN S1))), (vb, .inl (E 0, 500, .inl A1)), (vc, .inl (E 0, 500, .inl (aN D1))), (h, .inr (6, [.ref t, .ref u, .int (nI n)])), (t, .inl (E 0, 12, .inl (aN T))), (u, .inl (E 0, 12, .inl (aN U))), (q, .inr (1, [.ref qa, .int (nI al)])), (qa, .inl (E 0, 12, .inl (aN R)))] := by
        intro f
        induction f with
        | zero => intro i S1 A1 D1 z1 tv hi hz1 hA hB hf; exact absurd hf (Nat.not_lt_zero _)
        | succ f ih =>
          intro i S1 A1 D1 z1 tv hi hz1 hA hB hf
          have ih24 := ih
          refine g_iload C d_Talk_defend_24 7 rfl ?_
          refine g_bipush (v := nI 12) C d_Talk_defend_26 (by decide) ?_
          refine g_icmp_geN (tgt := 96) C (by omega) (by decide) d_Talk_defend_28 (by decide) (fun b1 => ?_) (fun b1 => ?_)
          · skip
            first
            | exact g_vret C hrt hlk (S1, A1, D1, z1, tv) ⟨fun q => absurd (hB b2) (by omega), fun _ => b2, hz1⟩ rfl d_Talk_defend_96
            | exact g_vret C hrt hlk (S1, A1, D1, z1, tv) (end_k hA hB hz1 (show i = 12 by omega)) rfl d_Talk_defend_96
          · skip
            refine g_aload_n C d_Talk_defend_31 rfl 0 rfl ?_
            refine g_get C lay_Talk 0 rfl rfl 4 (by decide) m_143 rfl d_Talk_defend_32 ?_
            refine g_if_neB (tgt := 96) C d_Talk_defend_35 (by decide) (fun b2 => ?_) (fun b2 => ?_)
            · skip
              first
              | exact g_vret C hrt hlk (S1, A1, D1, z1, tv) ⟨fun q => absurd (hB b2) (by omega), fun _ => b2, hz1⟩ rfl d_Talk_defend_96
              | exact g_vret C hrt hlk (S1, A1, D1, z1, tv) (end_k hA hB hz1 (show i = 12 by omega)) rfl d_Talk_defend_96
            · skip
              refine g_iload C d_Talk_defend_38 7 rfl ?_
              refine g_aload_n C d_Talk_defend_40 rfl 3 rfl ?_
              refine g_iload_n C d_Talk_defend_41 rfl 1 rfl ?_
              refine g_iV (rest := [.int (nI i)]) (wr := [(v, .inr (5, [.ref va, .ref vb, .ref vc, .int (nI z1), .int (bI tv)])), (va, .inl (E 0, 500, .inl (aN S1))), (vb, .inl (E 0, 500, .inl A1)), (vc, .inl (E 0, 500, .inl (aN D1))), (q, .inr (1, [.ref qa, .int (nI al)])), (qa, .inl (E 0, 12, .inl (aN R)))]) C (c_Web_attackersOfOne l D E h t u n T U a hn (by omega)) rd_Web_attackersOfOne m_618 m_619 m_620 rfl rfl (by first | (simp only [rmD]; omega) | (simp only [rmD]; done) | (simp [rmD]; done)) (by first | (simp only [rmD]; omega) | (simp only [rmD]; done) | (simp [rmD]; done)) (by first | (simp only [rmD]; omega) | (simp only [rmD]; done) | (simp [rmD]; done)) (by first | (simp only [rmD]; omega) | (simp only [rmD]; done) | (simp [rmD]; done)) rfl rfl (Nat.le_of_ble_eq_true rfl) d_Talk_defend_42 [4, 5, 6] [0, 1, 2, 3, 7, 8] rfl (by decide) rfl (by decide) (by decide) (fun r42 _ (hr42 : r42 = nI (if a < n then U a else 0)) => ?_)
              subst hr42
              refine g_cells (ws' := [(v, .inr (5, [.ref va, .ref vb, .ref vc, .int (nI z1), .int (bI tv)])), (va, .inl (E 0, 500, .inl (aN S1))), (vb, .inl (E 0, 500, .inl A1)), (vc, .inl (E 0, 500, .inl (aN D1))), (h, .inr (6, [.ref t, .ref u, .int (nI n)])), (t, .inl (E 0, 12, .inl (aN T))), (u, .inl (E 0, 12, .inl (aN U))), (q, .inr (1, [.ref qa, .int (nI al)])), (qa, .inl (E 0, 12, .inl (aN R)))]) [0, 1, 2, 3, 6, 7, 8, 4, 5] (by decide) rfl ?_
              refine g_top (show nI (if a < n then U a else 0) = nI (U a) from by rw [if_pos ha]) ?_
              refine g_iSN (rest := []) (wr := [(v, .inr (5, [.ref va, .ref vb, .ref vc, .int (nI z1), .int (bI tv)])), (va, .inl (E 0, 500, .inl (aN S1))), (vb, .inl (E 0, 500, .inl A1)), (vc, .inl (E 0, 500, .inl (aN D1))), (h, .inr (6, [.ref t, .ref u, .int (nI n)])), (t, .inl (E 0, 12, .inl (aN T))), (u, .inl (E 0, 12, .inl (aN U))), (q, .inr (1, [.ref qa, .int (nI al)])), (qa, .inl (E 0, 12, .inl (aN R)))]) C (c_isIn l D E i (U a) (by omega) (lt4 (hU _))) rd_AB_isIn m_622 m_229 (by first | (simp only [rmD]; omega) | (simp only [rmD]; done) | (simp [rmD]; done)) (by first | (simp only [rmD]; omega) | (simp only [rmD]; done) | (simp [rmD]; done)) (by first | (simp only [rmD]; omega) | (simp only [rmD]; done) | (simp [rmD]; done)) (by first | (simp only [rmD]; omega) | (simp only [rmD]; done) | (simp [rmD]; done)) rfl rfl (Nat.le_of_ble_eq_true rfl) d_Talk_defend_45 [] [0, 1, 2, 3, 4, 5, 6, 7, 8] rfl (by decide) rfl (by decide) (by decide) (fun r45 _ (hr45 : r45 = bI ((U a).testBit i)) => ?_)
              subst hr45
              refine g_cells (ws' := [(v, .inr (5, [.ref va, .ref vb, .ref vc, .int (nI z1), .int (bI tv)])), (va, .inl (E 0, 500, .inl (aN S1))), (vb, .inl (E 0, 500, .inl A1)), (vc, .inl (E 0, 500, .inl (aN D1))), (h, .inr (6, [.ref t, .ref u, .int (nI n)])), (t, .inl (E 0, 12, .inl (aN T))), (u, .inl (E 0, 12, .inl (aN U))), (q, .inr (1, [.ref qa, .int (nI al)])), (qa, .inl (E 0, 12, .inl (aN R)))]) [0, 1, 2, 3, 4, 5, 6, 7, 8] (by decide) rfl ?_
              refine g_if_eqB (tgt := 90) C d_Talk_defend_48 (by decide) (fun b3 => ?_) (fun b3 => ?_)
              · skip
                refine g_iinc (lv' := [(7, .int (nI (i + 1))), (0, .ref v), (1, .int (nI a)), (2, .int y), (3, .ref h), (4, .ref q), (5, .int (nI dp)), (6, .int (nI z))]) C d_Talk_defend_90 7 rfl (nI_1 _) (by decide) rfl ?_
                refine g_goto (tgt := 24) C d_Talk_defend_93 (by decide) ?_
                refine g_perm [1, 2, 3, 4, 5, 6, 7, 0] rfl ?_
                exact ih24 (i + 1) S1 A1 D1 z1 tv (by omega) (hz1) (fun q => by rw [kidL_n b3]; exact hA q) (hB) (by omega)
              · skip
                obtain ⟨hbn, jj, hjj, hjn, hjr, hjl⟩ := hG a ha hra i b1 b3
                have hea : eaF U R al i = jj := by simp only [eaF, hjj]; rfl
                have hW := hA b2
                refine g_aload_n C d_Talk_defend_51 rfl 0 rfl ?_
                refine g_iload C d_Talk_defend_52 7 rfl ?_
                refine g_iload C d_Talk_defend_54 6 rfl ?_
                refine g_iconst (v := nI 1) C d_Talk_defend_56 (by decide) ?_
                by_cases hq : z1 < 500
                · skip
                  refine g_iV (rest := []) (wr := [(h, .inr (6, [.ref t, .ref u, .int (nI n)])), (t, .inl (E 0, 12, .inl (aN T))), (u, .inl (E 0, 12, .inl (aN U))), (q, .inr (1, [.ref qa, .int (nI al)])), (qa, .inl (E 0, 12, .inl (aN R)))]) C (c_Tk_say l D E v va vb vc S1 A1 D1 z1 tv i (nI z) 1 (by omega)) rd_Talk_say m_614 m_616 m_19 rfl rfl (by first | (simp only [rmD]; omega) | (simp only [rmD]; done) | (simp [rmD]; done)) (by first | (simp only [rmD]; omega) | (simp only [rmD]; done) | (simp [rmD]; done)) (by first | (simp only [rmD]; omega) | (simp only [rmD]; done) | (simp [rmD]; done)) (by first | (simp only [rmD]; omega) | (simp only [rmD]; done) | (simp [rmD]; done)) rfl rfl (Nat.le_of_ble_eq_true rfl) d_Talk_defend_57 [0, 1, 2, 3] [4, 5, 6, 7, 8] rfl (by decide) rfl (by decide) (by decide) (fun r57 _ (hr57 : r57 = nI z1) => ?_)
                  subst hr57
                  refine g_cells (ws' := [(v, .inr (5, [.ref va, .ref vb, .ref vc, .int (nI (z1 + 1)), .int (bI tv)])), (va, .inl (E 0, 500, .inl (aN (va_up S1 z1 i)))), (vb, .inl (E 0, 500, .inl (upd A1 z1 (nI z)))), (vc, .inl (E 0, 500, .inl (aN (va_up D1 z1 1)))), (h, .inr (6, [.ref t, .ref u, .int (nI n)])), (t, .inl (E 0, 12, .inl (aN T))), (u, .inl (E 0, 12, .inl (aN U))), (q, .inr (1, [.ref qa, .int (nI al)])), (qa, .inl (E 0, 12, .inl (aN R)))]) [5, 6, 7, 8, 0, 1, 2, 3, 4] (by decide) rfl ?_
                  refine g_istore (lv' := [(8, .int (nI z1)), (0, .ref v), (1, .int (nI a)), (2, .int y), (3, .ref h), (4, .ref q), (5, .int (nI dp)), (6, .int (nI z)), (7, .int (nI i))]) C d_Talk_defend_60 (by decide) rfl ?_
                  refine g_aload C d_Talk_defend_62 5 rfl ?_
                  refine g_aload_n C d_Talk_defend_64 rfl 4 rfl ?_
                  refine g_iload C d_Talk_defend_65 8 rfl ?_
                  refine g_iV (rest := [.ref q]) (wr := [(v, .inr (5, [.ref va, .ref vb, .ref vc, .int (nI (z1 + 1)), .int (bI tv)])), (va, .inl (E 0, 500, .inl (aN (va_up S1 z1 i)))), (vb, .inl (E 0, 500, .inl (upd A1 z1 (nI z)))), (vc, .inl (E 0, 500, .inl (aN (va_up D1 z1 1)))), (q, .inr (1, [.ref qa, .int (nI al)])), (qa, .inl (E 0, 12, .inl (aN R)))]) C (c_Web_attackersOfOne l D E h t u n T U i hn (by omega)) rd_Web_attackersOfOne m_618 m_619 m_620 rfl rfl (by first | (simp only [rmD]; omega) | (simp only [rmD]; done) | (simp [rmD]; done)) (by first | (simp only [rmD]; omega) | (simp only [rmD]; done) | (simp [rmD]; done)) (by first | (simp only [rmD]; omega) | (simp only [rmD]; done) | (simp [rmD]; done)) (by first | (simp only [rmD]; omega) | (simp only [rmD]; done) | (simp [rmD]; done)) rfl rfl (Nat.le_of_ble_eq_true rfl) d_Talk_defend_67 [4, 5, 6] [0, 1, 2, 3, 7, 8] rfl (by decide) rfl (by decide) (by decide) (fun r67 _ (hr67 : r67 = nI (if i < n then U i else 0)) => ?_)
                  subst hr67
                  refine g_cells (ws' := [(v, .inr (5, [.ref va, .ref vb, .ref vc, .int (nI (z1 + 1)), .int (bI tv)])), (va, .inl (E 0, 500, .inl (aN (va_up S1 z1 i)))), (vb, .inl (E 0, 500, .inl (upd A1 z1 (nI z)))), (vc, .inl (E 0, 500, .inl (aN (va_up D1 z1 1)))), (h, .inr (6, [.ref t, .ref u, .int (nI n)])), (t, .inl (E 0, 12, .inl (aN T))), (u, .inl (E 0, 12, .inl (aN U))), (q, .inr (1, [.ref qa, .int (nI al)])), (qa, .inl (E 0, 12, .inl (aN R)))]) [0, 1, 2, 3, 6, 7, 8, 4, 5] (by decide) rfl ?_
                  refine g_top (show nI (if i < n then U i else 0) = nI (U i) from by rw [if_pos hbn]) ?_
                  refine g_iV (rest := []) (wr := [(v, .inr (5, [.ref va, .ref vb, .ref vc, .int (nI (z1 + 1)), .int (bI tv)])), (va, .inl (E 0, 500, .inl (aN (va_up S1 z1 i)))), (vb, .inl (E 0, 500, .inl (upd A1 z1 (nI z)))), (vc, .inl (E 0, 500, .inl (aN (va_up D1 z1 1)))), (h, .inr (6, [.ref t, .ref u, .int (nI n)])), (t, .inl (E 0, 12, .inl (aN T))), (u, .inl (E 0, 12, .inl (aN U)))]) C (c_Gr_earliestIn l D E q qa R al (U i) (lt4 (hU _)) (lt4 hal) hR) rd_Grounds_earliestIn m_623 m_624 m_625 rfl rfl (by first | (simp only [rmD]; omega) | (simp only [rmD]; done) | (simp [rmD]; done)) (by first | (simp only [rmD]; omega) | (simp only [rmD]; done) | (simp [rmD]; done)) (by first | (simp only [rmD]; omega) | (simp only [rmD]; done) | (simp [rmD]; done)) (by first | (simp only [rmD]; omega) | (simp only [rmD]; done) | (simp [rmD]; done)) rfl rfl (Nat.le_of_ble_eq_true rfl) d_Talk_defend_70 [7, 8] [0, 1, 2, 3, 4, 5, 6] rfl (by decide) rfl (by decide) (by decide) (fun r70 _ (hr70 : r70 = oI (erl R ((U i) &&& al) 12)) => ?_)
                  subst hr70
                  refine g_cells (ws' := [(v, .inr (5, [.ref va, .ref vb, .ref vc, .int (nI (z1 + 1)), .int (bI tv)])), (va, .inl (E 0, 500, .inl (aN (va_up S1 z1 i)))), (vb, .inl (E 0, 500, .inl (upd A1 z1 (nI z)))), (vc, .inl (E 0, 500, .inl (aN (va_up D1 z1 1)))), (h, .inr (6, [.ref t, .ref u, .int (nI n)])), (t, .inl (E 0, 12, .inl (aN T))), (u, .inl (E 0, 12, .inl (aN U))), (q, .inr (1, [.ref qa, .int (nI al)])), (qa, .inl (E 0, 12, .inl (aN R)))]) [0, 1, 2, 3, 4, 5, 6, 7, 8] (by decide) rfl ?_
                  refine g_top (show oI (erl R ((U i) &&& al) 12) = nI jj from by rw [hjj]; rfl) ?_
                  refine g_istore (lv' := [(9, .int (nI jj)), (8, .int (nI z1)), (0, .ref v), (1, .int (nI a)), (2, .int y), (3, .ref h), (4, .ref q), (5, .int (nI dp)), (6, .int (nI z)), (7, .int (nI i))]) C d_Talk_defend_73 (by decide) rfl ?_
                  refine g_aload_n C d_Talk_defend_75 rfl 2 rfl ?_
                  refine g_iload C d_Talk_defend_76 0 rfl ?_
                  refine g_iload C d_Talk_defend_78 1 rfl ?_
                  refine g_aload_n C d_Talk_defend_80 rfl 5 rfl ?_
                  refine g_aload C d_Talk_defend_81 6 rfl ?_
                  refine g_iload C d_Talk_defend_83 7 rfl ?_
                  refine g_iconst (v := nI 1) C d_Talk_defend_85 (by decide) ?_
                  refine g_iaddN C d_Talk_defend_86 ?_
                  by_cases hq2 : z1 + 1 < 500
                  · skip
                    refine g_ws (ws' := [(v, .inr (5, [.ref va, .ref vb, .ref vc, .int (nI (z1 + 1)), .int (bI false)])), (va, .inl (E 0, 500, .inl (aN (va_up S1 z1 i)))), (vb, .inl (E 0, 500, .inl (upd A1 z1 (nI z)))), (vc, .inl (E 0, 500, .inl (aN (va_up D1 z1 1)))), (h, .inr (6, [.ref t, .ref u, .int (nI n)])), (t, .inl (E 0, 12, .inl (aN T))), (u, .inl (E 0, 12, .inl (aN U))), (q, .inr (1, [.ref qa, .int (nI al)])), (qa, .inl (E 0, 12, .inl (aN R)))]) (by rw [b2]) ?_
                    refine g_vV (rest := []) (wr := []) C (ihd v va vb vc (va_up S1 z1 i) (upd A1 z1 (nI z)) (va_up D1 z1 1) (z1 + 1) h t u n T U q qa R al jj (nI z1) (dp + 1) hn hU hR hal hG hjn hjr (by omega) (by omega) hq2) rd_Talk_defend m_610 m_612 m_18 rfl rfl (by first | (simp only [rmD]; omega) | (simp only [rmD]; done) | (simp [rmD]; done)) (by first | (simp only [rmD]; omega) | (simp only [rmD]; done) | (simp [rmD]; done)) (by first | (simp only [rmD]; omega) | (simp only [rmD]; done) | (simp [rmD]; done)) (by first | (simp only [rmD]; omega) | (simp only [rmD]; done) | (simp [rmD]; done)) rfl rfl (Nat.le_of_ble_eq_true rfl) d_Talk_defend_87 [0, 1, 2, 3, 4, 5, 6, 7, 8] [] rfl (by decide) rfl (by decide) (by decide) (fun u87 hu87 => ?_)
                    obtain ⟨Sa2_1, An2_2, Sd2_3, z2_4, tl2_5⟩ := u87
                    obtain ⟨hf87, ho87, hz287⟩ : ((z1 + 1) + (mvs U (eaF U R al) fu jj (nI z1) (z1 + 1)).length ≤ 500 → WR (mvs U (eaF U R al) fu jj (nI z1) (z1 + 1)) (va_up S1 z1 i) (upd A1 z1 (nI z)) (va_up D1 z1 1) (z1 + 1) Sa2_1 An2_2 Sd2_3 z2_4 ∧ tl2_5 = false) ∧ (500 < (z1 + 1) + (mvs U (eaF U R al) fu jj (nI z1) (z1 + 1)).length → tl2_5 = true) ∧ (z2_4 ≤ 500) := hu87
                    refine g_cells (ws' := [(v, .inr (5, [.ref va, .ref vb, .ref vc, .int (nI z2_4), .int (bI tl2_5)])), (va, .inl (E 0, 500, .inl (aN Sa2_1))), (vb, .inl (E 0, 500, .inl An2_2)), (vc, .inl (E 0, 500, .inl (aN Sd2_3))), (h, .inr (6, [.ref t, .ref u, .int (nI n)])), (t, .inl (E 0, 12, .inl (aN T))), (u, .inl (E 0, 12, .inl (aN U))), (q, .inr (1, [.ref qa, .int (nI al)])), (qa, .inl (E 0, 12, .inl (aN R)))]) [0, 1, 2, 3, 4, 5, 6, 7, 8] (by decide) rfl ?_
                    refine g_iinc (lv' := [(7, .int (nI (i + 1))), (9, .int (nI jj)), (8, .int (nI z1)), (0, .ref v), (1, .int (nI a)), (2, .int y), (3, .ref h), (4, .ref q), (5, .int (nI dp)), (6, .int (nI z))]) C d_Talk_defend_90 9 rfl (nI_1 _) (by decide) rfl ?_
                    refine g_goto (tgt := 24) C d_Talk_defend_93 (by decide) ?_
                    refine g_perm [3, 4, 5, 6, 7, 8, 9, 0] rfl ?_
                    exact ih24 (i + 1) Sa2_1 An2_2 Sd2_3 z2_4 tl2_5 (by omega) (hz287) (fun q => WR_k3 hW b3 hea hq2 hf87 ho87 q) (fun q => by subst q; exact ov_k3 hW b3 hea hi (by omega) hf87) (by omega)
                  · skip
                    refine g_vV (rest := []) (wr := []) C (c_Tk_defFull l D E v va vb vc (va_up S1 z1 i) (upd A1 z1 (nI z)) (va_up D1 z1 1) (z1 + 1) tv h t u n T U q qa R al jj (nI z1) (dp + 1) (by omega) (by omega)) rd_Talk_defend m_610 m_612 m_18 rfl rfl (by first | (simp only [rmD]; omega) | (simp only [rmD]; done) | (simp [rmD]; done)) (by first | (simp only [rmD]; omega) | (simp only [rmD]; done) | (simp [rmD]; done)) (by first | (simp only [rmD]; omega) | (simp only [rmD]; done) | (simp [rmD]; done)) (by first | (simp only [rmD]; omega) | (simp only [rmD]; done) | (simp [rmD]; done)) rfl rfl (Nat.le_of_ble_eq_true rfl) d_Talk_defend_87 [0, 1, 2, 3, 4, 5, 6, 7, 8] [] rfl (by decide) rfl (by decide) (by decide) (fun _ _ => ?_)
                    refine g_cells (ws' := [(v, .inr (5, [.ref va, .ref vb, .ref vc, .int (nI (z1 + 1)), .int (bI true)])), (va, .inl (E 0, 500, .inl (aN (va_up S1 z1 i)))), (vb, .inl (E 0, 500, .inl (upd A1 z1 (nI z)))), (vc, .inl (E 0, 500, .inl (aN (va_up D1 z1 1)))), (h, .inr (6, [.ref t, .ref u, .int (nI n)])), (t, .inl (E 0, 12, .inl (aN T))), (u, .inl (E 0, 12, .inl (aN U))), (q, .inr (1, [.ref qa, .int (nI al)])), (qa, .inl (E 0, 12, .inl (aN R)))]) [0, 1, 2, 3, 4, 5, 6, 7, 8] (by decide) rfl ?_
                    refine g_iinc (lv' := [(7, .int (nI (i + 1))), (9, .int (nI jj)), (8, .int (nI z1)), (0, .ref v), (1, .int (nI a)), (2, .int y), (3, .ref h), (4, .ref q), (5, .int (nI dp)), (6, .int (nI z))]) C d_Talk_defend_90 9 rfl (nI_1 _) (by decide) rfl ?_
                    refine g_goto (tgt := 24) C d_Talk_defend_93 (by decide) ?_
                    refine g_perm [3, 4, 5, 6, 7, 8, 9, 0] rfl ?_
                    exact ih24 (i + 1) (va_up S1 z1 i) (upd A1 z1 (nI z)) (va_up D1 z1 1) (z1 + 1) true (by omega) (by omega) (fun q => by cases q) (fun _ => ov_k2 hW b3 hi (by omega) (by omega) (by omega)) (by omega)
                · skip
                  refine g_iV (rest := []) (wr := [(h, .inr (6, [.ref t, .ref u, .int (nI n)])), (t, .inl (E 0, 12, .inl (aN T))), (u, .inl (E 0, 12, .inl (aN U))), (q, .inr (1, [.ref qa, .int (nI al)])), (qa, .inl (E 0, 12, .inl (aN R)))]) C (c_Tk_sayFull l D E v va vb vc S1 A1 D1 z1 tv i (nI z) 1 (by omega)) rd_Talk_say m_614 m_616 m_19 rfl rfl (by first | (simp only [rmD]; omega) | (simp only [rmD]; done) | (simp [rmD]; done)) (by first | (simp only [rmD]; omega) | (simp only [rmD]; done) | (simp [rmD]; done)) (by first | (simp only [rmD]; omega) | (simp only [rmD]; done) | (simp [rmD]; done)) (by first | (simp only [rmD]; omega) | (simp only [rmD]; done) | (simp [rmD]; done)) rfl rfl (Nat.le_of_ble_eq_true rfl) d_Talk_defend_57 [0, 1, 2, 3] [4, 5, 6, 7, 8] rfl (by decide) rfl (by decide) (by decide) (fun r57 _ (hr57 : r57 = (-1)) => ?_)
                  subst hr57
                  refine g_cells (ws' := [(v, .inr (5, [.ref va, .ref vb, .ref vc, .int (nI z1), .int (bI true)])), (va, .inl (E 0, 500, .inl (aN S1))), (vb, .inl (E 0, 500, .inl A1)), (vc, .inl (E 0, 500, .inl (aN D1))), (h, .inr (6, [.ref t, .ref u, .int (nI n)])), (t, .inl (E 0, 12, .inl (aN T))), (u, .inl (E 0, 12, .inl (aN U))), (q, .inr (1, [.ref qa, .int (nI al)])), (qa, .inl (E 0, 12, .inl (aN R)))]) [5, 6, 7, 8, 0, 1, 2, 3, 4] (by decide) rfl ?_
                  refine g_istore (lv' := [(8, .int (-1)), (0, .ref v), (1, .int (nI a)), (2, .int y), (3, .ref h), (4, .ref q), (5, .int (nI dp)), (6, .int (nI z)), (7, .int (nI i))]) C d_Talk_defend_60 (by decide) rfl ?_
                  refine g_aload C d_Talk_defend_62 5 rfl ?_
                  refine g_aload_n C d_Talk_defend_64 rfl 4 rfl ?_
                  refine g_iload C d_Talk_defend_65 8 rfl ?_
                  refine g_iV (rest := [.ref q]) (wr := [(v, .inr (5, [.ref va, .ref vb, .ref vc, .int (nI z1), .int (bI true)])), (va, .inl (E 0, 500, .inl (aN S1))), (vb, .inl (E 0, 500, .inl A1)), (vc, .inl (E 0, 500, .inl (aN D1))), (q, .inr (1, [.ref qa, .int (nI al)])), (qa, .inl (E 0, 12, .inl (aN R)))]) C (c_Web_attackersOfOne l D E h t u n T U i hn (by omega)) rd_Web_attackersOfOne m_618 m_619 m_620 rfl rfl (by first | (simp only [rmD]; omega) | (simp only [rmD]; done) | (simp [rmD]; done)) (by first | (simp only [rmD]; omega) | (simp only [rmD]; done) | (simp [rmD]; done)) (by first | (simp only [rmD]; omega) | (simp only [rmD]; done) | (simp [rmD]; done)) (by first | (simp only [rmD]; omega) | (simp only [rmD]; done) | (simp [rmD]; done)) rfl rfl (Nat.le_of_ble_eq_true rfl) d_Talk_defend_67 [4, 5, 6] [0, 1, 2, 3, 7, 8] rfl (by decide) rfl (by decide) (by decide) (fun r67 _ (hr67 : r67 = nI (if i < n then U i else 0)) => ?_)
                  subst hr67
                  refine g_cells (ws' := [(v, .inr (5, [.ref va, .ref vb, .ref vc, .int (nI z1), .int (bI true)])), (va, .inl (E 0, 500, .inl (aN S1))), (vb, .inl (E 0, 500, .inl A1)), (vc, .inl (E 0, 500, .inl (aN D1))), (h, .inr (6, [.ref t, .ref u, .int (nI n)])), (t, .inl (E 0, 12, .inl (aN T))), (u, .inl (E 0, 12, .inl (aN U))), (q, .inr (1, [.ref qa, .int (nI al)])), (qa, .inl (E 0, 12, .inl (aN R)))]) [0, 1, 2, 3, 6, 7, 8, 4, 5] (by decide) rfl ?_
                  refine g_top (show nI (if i < n then U i else 0) = nI (U i) from by rw [if_pos hbn]) ?_
                  refine g_iV (rest := []) (wr := [(v, .inr (5, [.ref va, .ref vb, .ref vc, .int (nI z1), .int (bI true)])), (va, .inl (E 0, 500, .inl (aN S1))), (vb, .inl (E 0, 500, .inl A1)), (vc, .inl (E 0, 500, .inl (aN D1))), (h, .inr (6, [.ref t, .ref u, .int (nI n)])), (t, .inl (E 0, 12, .inl (aN T))), (u, .inl (E 0, 12, .inl (aN U)))]) C (c_Gr_earliestIn l D E q qa R al (U i) (lt4 (hU _)) (lt4 hal) hR) rd_Grounds_earliestIn m_623 m_624 m_625 rfl rfl (by first | (simp only [rmD]; omega) | (simp only [rmD]; done) | (simp [rmD]; done)) (by first | (simp only [rmD]; omega) | (simp only [rmD]; done) | (simp [rmD]; done)) (by first | (simp only [rmD]; omega) | (simp only [rmD]; done) | (simp [rmD]; done)) (by first | (simp only [rmD]; omega) | (simp only [rmD]; done) | (simp [rmD]; done)) rfl rfl (Nat.le_of_ble_eq_true rfl) d_Talk_defend_70 [7, 8] [0, 1, 2, 3, 4, 5, 6] rfl (by decide) rfl (by decide) (by decide) (fun r70 _ (hr70 : r70 = oI (erl R ((U i) &&& al) 12)) => ?_)
                  subst hr70
                  refine g_cells (ws' := [(v, .inr (5, [.ref va, .ref vb, .ref vc, .int (nI z1), .int (bI true)])), (va, .inl (E 0, 500, .inl (aN S1))), (vb, .inl (E 0, 500, .inl A1)), (vc, .inl (E 0, 500, .inl (aN D1))), (h, .inr (6, [.ref t, .ref u, .int (nI n)])), (t, .inl (E 0, 12, .inl (aN T))), (u, .inl (E 0, 12, .inl (aN U))), (q, .inr (1, [.ref qa, .int (nI al)])), (qa, .inl (E 0, 12, .inl (aN R)))]) [0, 1, 2, 3, 4, 5, 6, 7, 8] (by decide) rfl ?_
                  refine g_top (show oI (erl R ((U i) &&& al) 12) = nI jj from by rw [hjj]; rfl) ?_
                  refine g_istore (lv' := [(9, .int (nI jj)), (8, .int (-1)), (0, .ref v), (1, .int (nI a)), (2, .int y), (3, .ref h), (4, .ref q), (5, .int (nI dp)), (6, .int (nI z)), (7, .int (nI i))]) C d_Talk_defend_73 (by decide) rfl ?_
                  refine g_aload_n C d_Talk_defend_75 rfl 2 rfl ?_
                  refine g_iload C d_Talk_defend_76 0 rfl ?_
                  refine g_iload C d_Talk_defend_78 1 rfl ?_
                  refine g_aload_n C d_Talk_defend_80 rfl 5 rfl ?_
                  refine g_aload C d_Talk_defend_81 6 rfl ?_
                  refine g_iload C d_Talk_defend_83 7 rfl ?_
                  refine g_iconst (v := nI 1) C d_Talk_defend_85 (by decide) ?_
                  refine g_iaddN C d_Talk_defend_86 ?_
                  refine g_vV (rest := []) (wr := []) C (c_Tk_defFull l D E v va vb vc S1 A1 D1 z1 true h t u n T U q qa R al jj (-1) (dp + 1) (by omega) (by omega)) rd_Talk_defend m_610 m_612 m_18 rfl rfl (by first | (simp only [rmD]; omega) | (simp only [rmD]; done) | (simp [rmD]; done)) (by first | (simp only [rmD]; omega) | (simp only [rmD]; done) | (simp [rmD]; done)) (by first | (simp only [rmD]; omega) | (simp only [rmD]; done) | (simp [rmD]; done)) (by first | (simp only [rmD]; omega) | (simp only [rmD]; done) | (simp [rmD]; done)) rfl rfl (Nat.le_of_ble_eq_true rfl) d_Talk_defend_87 [0, 1, 2, 3, 4, 5, 6, 7, 8] [] rfl (by decide) rfl (by decide) (by decide) (fun _ _ => ?_)
                  refine g_cells (ws' := [(v, .inr (5, [.ref va, .ref vb, .ref vc, .int (nI z1), .int (bI true)])), (va, .inl (E 0, 500, .inl (aN S1))), (vb, .inl (E 0, 500, .inl A1)), (vc, .inl (E 0, 500, .inl (aN D1))), (h, .inr (6, [.ref t, .ref u, .int (nI n)])), (t, .inl (E 0, 12, .inl (aN T))), (u, .inl (E 0, 12, .inl (aN U))), (q, .inr (1, [.ref qa, .int (nI al)])), (qa, .inl (E 0, 12, .inl (aN R)))]) [0, 1, 2, 3, 4, 5, 6, 7, 8] (by decide) rfl ?_
                  refine g_iinc (lv' := [(7, .int (nI (i + 1))), (9, .int (nI jj)), (8, .int (-1)), (0, .ref v), (1, .int (nI a)), (2, .int y), (3, .ref h), (4, .ref q), (5, .int (nI dp)), (6, .int (nI z))]) C d_Talk_defend_90 9 rfl (nI_1 _) (by decide) rfl ?_
                  refine g_goto (tgt := 24) C d_Talk_defend_93 (by decide) ?_
                  refine g_perm [3, 4, 5, 6, 7, 8, 9, 0] rfl ?_
                  exact ih24 (i + 1) S1 A1 D1 z1 true (by omega) (by omega) (fun q => by cases q) (fun _ => ov_k1 hW b3 hi (by omega) (by omega)) (by omega)
      refine g_perm [2, 3, 4, 5, 6, 7, 1, 0] rfl ?_
      exact loop24 (12 - 0 + 1) 0 (va_up Sa z a) (upd An z y) (va_up Sd z 0) (z + 1) false (Nat.zero_le _) (by omega) (fun _ => WR_1) (fun q => by cases q) (Nat.lt_succ_self _)
    · skip
      exact absurd b0 (by omega)
  