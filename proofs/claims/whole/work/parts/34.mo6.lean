set_option maxHeartbeats 4000000 in
set_option maxRecDepth 100000 in
theorem o_joint (l : Launch) (D : va_G) (E : Nat → ClassId) (mo : Nat) (m1 : Nat) (m2 : Nat) (m3 : Nat) (m4 : Nat) (m5 : Nat) (m6 : Nat) (m7 : Nat) (m8 : Nat) (m9 : Nat) (m10 : Nat) (m11 : Nat) (m12 : Nat) (m13 : Nat) (m14 : Nat) (m15 : Nat) (th : Nat) (n : Nat) (kn : Bool) (lg : Bool) (td : Bool) (ld : Nat) (lt : Nat) (gr : Nat) (mv : Nat) (la : Nat) (T : Nat → Nat) (U : Nat → Nat) (i : Nat) (j : Nat) (k : Nat) (hn : n ≤ 9) (hTn : ∀ a, T a < 2 ^ n) (hUn : ∀ a, U a < 2 ^ n) (hi : i < n) (hj : j < n) (hk : k < n) : MI l D E y_Mo_joint (.code y_Mo_joint k_Mo_joint 7 (some .int)) ({ frames := 2, cells := 0, slots := 0, locals := 43 } : Room) [.ref mo, .int (nI i), .int (nI j), .int (nI k)] [(mo, .inr (7, [.int (nI th), .int (nI n), .ref m1, .ref m2, .ref m3, .ref m4, .ref m5, .ref m6, .int (bI kn), .int (bI lg), .int (bI td), .int (nI ld), .int (pI lt), .ref m7, .int (nI gr), .int (nI mv), .ref m8, .ref m9, .ref m10, .ref m11, .ref m12, .ref m13, .int (nI la), .ref m14, .ref m15])), (m1, .inl (E 0, 12, .inl (aN T))), (m2, .inl (E 0, 12, .inl (aN U)))] (fun (r : Int32) (_ : Unit) => r = nI n) (fun _ : Unit => [(mo, .inr (7, [.int (nI 0), .int (nI (((n + 1) + 1) + 1)), .ref m1, .ref m2, .ref m3, .ref m4, .ref m5, .ref m6, .int (bI false), .int (bI false), .int (bI false), .int (nI ld), .int (pI lt), .ref m7, .int (nI gr), .int (nI mv), .ref m8, .ref m9, .ref m10, .ref m11, .ref m12, .ref m13, .int (nI la), .ref m14, .ref m15])), (m1, .inl (E 0, 12, .inl (aN (va_up (va_up (va_up (va_up (va_up (va_up (va_up (va_up T n 0) (n + 1) 0) ((n + 1) + 1) 0) i ((va_up (va_up (va_up T n 0) (n + 1) 0) ((n + 1) + 1) 0) i ^^^ 2 ^ n)) j ((va_up (va_up (va_up (va_up T n 0) (n + 1) 0) ((n + 1) + 1) 0) i ((va_up (va_up (va_up T n 0) (n + 1) 0) ((n + 1) + 1) 0) i ^^^ 2 ^ n)) j ^^^ 2 ^ (n + 1))) n ((va_up (va_up (va_up (va_up (va_up T n 0) (n + 1) 0) ((n + 1) + 1) 0) i ((va_up (va_up (va_up T n 0) (n + 1) 0) ((n + 1) + 1) 0) i ^^^ 2 ^ n)) j ((va_up (va_up (va_up (va_up T n 0) (n + 1) 0) ((n + 1) + 1) 0) i ((va_up (va_up (va_up T n 0) (n + 1) 0) ((n + 1) + 1) 0) i ^^^ 2 ^ n)) j ^^^ 2 ^ (n + 1))) n ^^^ 2 ^ ((n + 1) + 1))) (n + 1) ((va_up (va_up (va_up (va_up (va_up (va_up T n 0) (n + 1) 0) ((n + 1) + 1) 0) i ((va_up (va_up (va_up T n 0) (n + 1) 0) ((n + 1) + 1) 0) i ^^^ 2 ^ n)) j ((va_up (va_up (va_up (va_up T n 0) (n + 1) 0) ((n + 1) + 1) 0) i ((va_up (va_up (va_up T n 0) (n + 1) 0) ((n + 1) + 1) 0) i ^^^ 2 ^ n)) j ^^^ 2 ^ (n + 1))) n ((va_up (va_up (va_up (va_up (va_up T n 0) (n + 1) 0) ((n + 1) + 1) 0) i ((va_up (va_up (va_up T n 0) (n + 1) 0) ((n + 1) + 1) 0) i ^^^ 2 ^ n)) j ((va_up (va_up (va_up (va_up T n 0) (n + 1) 0) ((n + 1) + 1) 0) i ((va_up (va_up (va_up T n 0) (n + 1) 0) ((n + 1) + 1) 0) i ^^^ 2 ^ n)) j ^^^ 2 ^ (n + 1))) n ^^^ 2 ^ ((n + 1) + 1))) (n + 1) ^^^ 2 ^ ((n + 1) + 1))) ((n + 1) + 1) ((va_up (va_up (va_up (va_up (va_up (va_up (va_up T n 0) (n + 1) 0) ((n + 1) + 1) 0) i ((va_up (va_up (va_up T n 0) (n + 1) 0) ((n + 1) + 1) 0) i ^^^ 2 ^ n)) j ((va_up (va_up (va_up (va_up T n 0) (n + 1) 0) ((n + 1) + 1) 0) i ((va_up (va_up (va_up T n 0) (n + 1) 0) ((n + 1) + 1) 0) i ^^^ 2 ^ n)) j ^^^ 2 ^ (n + 1))) n ((va_up (va_up (va_up (va_up (va_up T n 0) (n + 1) 0) ((n + 1) + 1) 0) i ((va_up (va_up (va_up T n 0) (n + 1) 0) ((n + 1) + 1) 0) i ^^^ 2 ^ n)) j ((va_up (va_up (va_up (va_up T n 0) (n + 1) 0) ((n + 1) + 1) 0) i ((va_up (va_up (va_up T n 0) (n + 1) 0) ((n + 1) + 1) 0) i ^^^ 2 ^ n)) j ^^^ 2 ^ (n + 1))) n ^^^ 2 ^ ((n + 1) + 1))) (n + 1) ((va_up (va_up (va_up (va_up (va_up (va_up T n 0) (n + 1) 0) ((n + 1) + 1) 0) i ((va_up (va_up (va_up T n 0) (n + 1) 0) ((n + 1) + 1) 0) i ^^^ 2 ^ n)) j ((va_up (va_up (va_up (va_up T n 0) (n + 1) 0) ((n + 1) + 1) 0) i ((va_up (va_up (va_up T n 0) (n + 1) 0) ((n + 1) + 1) 0) i ^^^ 2 ^ n)) j ^^^ 2 ^ (n + 1))) n ((va_up (va_up (va_up (va_up (va_up T n 0) (n + 1) 0) ((n + 1) + 1) 0) i ((va_up (va_up (va_up T n 0) (n + 1) 0) ((n + 1) + 1) 0) i ^^^ 2 ^ n)) j ((va_up (va_up (va_up (va_up T n 0) (n + 1) 0) ((n + 1) + 1) 0) i ((va_up (va_up (va_up T n 0) (n + 1) 0) ((n + 1) + 1) 0) i ^^^ 2 ^ n)) j ^^^ 2 ^ (n + 1))) n ^^^ 2 ^ ((n + 1) + 1))) (n + 1) ^^^ 2 ^ ((n + 1) + 1))) ((n + 1) + 1) ^^^ 2 ^ k))))), (m2, .inl (E 0, 12, .inl (aN (va_up (va_up (va_up (va_up (va_up (va_up (va_up (va_up U n 0) (n + 1) 0) ((n + 1) + 1) 0) n ((va_up (va_up (va_up U n 0) (n + 1) 0) ((n + 1) + 1) 0) n ^^^ 2 ^ i)) (n + 1) ((va_up (va_up (va_up (va_up U n 0) (n + 1) 0) ((n + 1) + 1) 0) n ((va_up (va_up (va_up U n 0) (n + 1) 0) ((n + 1) + 1) 0) n ^^^ 2 ^ i)) (n + 1) ^^^ 2 ^ j)) ((n + 1) + 1) ((va_up (va_up (va_up (va_up (va_up U n 0) (n + 1) 0) ((n + 1) + 1) 0) n ((va_up (va_up (va_up U n 0) (n + 1) 0) ((n + 1) + 1) 0) n ^^^ 2 ^ i)) (n + 1) ((va_up (va_up (va_up (va_up U n 0) (n + 1) 0) ((n + 1) + 1) 0) n ((va_up (va_up (va_up U n 0) (n + 1) 0) ((n + 1) + 1) 0) n ^^^ 2 ^ i)) (n + 1) ^^^ 2 ^ j)) ((n + 1) + 1) ^^^ 2 ^ n)) ((n + 1) + 1) ((va_up (va_up (va_up (va_up (va_up (va_up U n 0) (n + 1) 0) ((n + 1) + 1) 0) n ((va_up (va_up (va_up U n 0) (n + 1) 0) ((n + 1) + 1) 0) n ^^^ 2 ^ i)) (n + 1) ((va_up (va_up (va_up (va_up U n 0) (n + 1) 0) ((n + 1) + 1) 0) n ((va_up (va_up (va_up U n 0) (n + 1) 0) ((n + 1) + 1) 0) n ^^^ 2 ^ i)) (n + 1) ^^^ 2 ^ j)) ((n + 1) + 1) ((va_up (va_up (va_up (va_up (va_up U n 0) (n + 1) 0) ((n + 1) + 1) 0) n ((va_up (va_up (va_up U n 0) (n + 1) 0) ((n + 1) + 1) 0) n ^^^ 2 ^ i)) (n + 1) ((va_up (va_up (va_up (va_up U n 0) (n + 1) 0) ((n + 1) + 1) 0) n ((va_up (va_up (va_up U n 0) (n + 1) 0) ((n + 1) + 1) 0) n ^^^ 2 ^ i)) (n + 1) ^^^ 2 ^ j)) ((n + 1) + 1) ^^^ 2 ^ n)) ((n + 1) + 1) ^^^ 2 ^ (n + 1))) k ((va_up (va_up (va_up (va_up (va_up (va_up (va_up U n 0) (n + 1) 0) ((n + 1) + 1) 0) n ((va_up (va_up (va_up U n 0) (n + 1) 0) ((n + 1) + 1) 0) n ^^^ 2 ^ i)) (n + 1) ((va_up (va_up (va_up (va_up U n 0) (n + 1) 0) ((n + 1) + 1) 0) n ((va_up (va_up (va_up U n 0) (n + 1) 0) ((n + 1) + 1) 0) n ^^^ 2 ^ i)) (n + 1) ^^^ 2 ^ j)) ((n + 1) + 1) ((va_up (va_up (va_up (va_up (va_up U n 0) (n + 1) 0) ((n + 1) + 1) 0) n ((va_up (va_up (va_up U n 0) (n + 1) 0) ((n + 1) + 1) 0) n ^^^ 2 ^ i)) (n + 1) ((va_up (va_up (va_up (va_up U n 0) (n + 1) 0) ((n + 1) + 1) 0) n ((va_up (va_up (va_up U n 0) (n + 1) 0) ((n + 1) + 1) 0) n ^^^ 2 ^ i)) (n + 1) ^^^ 2 ^ j)) ((n + 1) + 1) ^^^ 2 ^ n)) ((n + 1) + 1) ((va_up (va_up (va_up (va_up (va_up (va_up U n 0) (n + 1) 0) ((n + 1) + 1) 0) n ((va_up (va_up (va_up U n 0) (n + 1) 0) ((n + 1) + 1) 0) n ^^^ 2 ^ i)) (n + 1) ((va_up (va_up (va_up (va_up U n 0) (n + 1) 0) ((n + 1) + 1) 0) n ((va_up (va_up (va_up U n 0) (n + 1) 0) ((n + 1) + 1) 0) n ^^^ 2 ^ i)) (n + 1) ^^^ 2 ^ j)) ((n + 1) + 1) ((va_up (va_up (va_up (va_up (va_up U n 0) (n + 1) 0) ((n + 1) + 1) 0) n ((va_up (va_up (va_up U n 0) (n + 1) 0) ((n + 1) + 1) 0) n ^^^ 2 ^ i)) (n + 1) ((va_up (va_up (va_up (va_up U n 0) (n + 1) 0) ((n + 1) + 1) 0) n ((va_up (va_up (va_up U n 0) (n + 1) 0) ((n + 1) + 1) 0) n ^^^ 2 ^ i)) (n + 1) ^^^ 2 ^ j)) ((n + 1) + 1) ^^^ 2 ^ n)) ((n + 1) + 1) ^^^ 2 ^ (n + 1))) k ^^^ 2 ^ ((n + 1) + 1))))))]) := by
  refine MI.of (by decide) (Nat.le_of_ble_eq_true rfl) ?_
  intro p e s m args below meth c A C hrt hlk hnm
  refine g_lv (lv' := [(0, .ref mo), (1, .int (nI i)), (2, .int (nI j)), (3, .int (nI k))]) rfl ?_
  refine g_aload_n C d_Mo_joint_0 rfl 0 rfl ?_
  refine g_iconst (v := nI 0) C d_Mo_joint_1 (by decide) ?_
  refine g_put (ws' := [(mo, .inr (7, [.int (nI 0), .int (nI n), .ref m1, .ref m2, .ref m3, .ref m4, .ref m5, .ref m6, .int (bI kn), .int (bI lg), .int (bI td), .int (nI ld), .int (pI lt), .ref m7, .int (nI gr), .int (nI mv), .ref m8, .ref m9, .ref m10, .ref m11, .ref m12, .ref m13, .int (nI la), .ref m14, .ref m15])), (m1, .inl (E 0, 12, .inl (aN T))), (m2, .inl (E 0, 12, .inl (aN U)))]) C lay_Mo ty_Mo nm_Mo 0 rfl rfl 0 (by decide) m_634 rfl rfl rfl (Nat.le_of_ble_eq_true rfl) rfl d_Mo_joint_2 ?_
  refine g_aload_n C d_Mo_joint_5 rfl 0 rfl ?_
  refine g_iload_n C d_Mo_joint_6 rfl 1 rfl ?_
  refine g_iV (rest := []) (wr := [(m1, .inl (E 0, 12, .inl (aN T))), (m2, .inl (E 0, 12, .inl (aN U)))]) C (o_isArgument l D E mo m1 m2 m3 m4 m5 m6 m7 m8 m9 m10 m11 m12 m13 m14 m15 0 n kn lg td ld lt gr mv la (nI i) ) rd_Mo_isArgument m_731 m_733 m_22 rfl rfl (Nat.le_of_ble_eq_true rfl) (Nat.le_of_ble_eq_true rfl) (Nat.le_of_ble_eq_true rfl) (Nat.le_of_ble_eq_true rfl) rfl rfl (Nat.le_of_ble_eq_true rfl) d_Mo_joint_7 [0] [1, 2] rfl (by decide) rfl (by decide) (by decide) (fun r7 _ (hr7 : r7 = bI (inR (nI i) n)) => ?_)
  subst hr7
  refine g_cells (ws' := [(mo, .inr (7, [.int (nI 0), .int (nI n), .ref m1, .ref m2, .ref m3, .ref m4, .ref m5, .ref m6, .int (bI kn), .int (bI lg), .int (bI td), .int (nI ld), .int (pI lt), .ref m7, .int (nI gr), .int (nI mv), .ref m8, .ref m9, .ref m10, .ref m11, .ref m12, .ref m13, .int (nI la), .ref m14, .ref m15])), (m1, .inl (E 0, 12, .inl (aN T))), (m2, .inl (E 0, 12, .inl (aN U)))]) [2, 0, 1] (by decide) rfl ?_
  refine g_if_eqB (tgt := 38) C d_Mo_joint_10 (by decide) (fun b0 => ?_) (fun b0 => ?_)
  · skip
    rw [inR_nI (by omega) (by omega)] at b0; simp at b0; omega
  · skip
    refine g_aload_n C d_Mo_joint_13 rfl 0 rfl ?_
    refine g_iload_n C d_Mo_joint_14 rfl 2 rfl ?_
    refine g_iV (rest := []) (wr := [(m1, .inl (E 0, 12, .inl (aN T))), (m2, .inl (E 0, 12, .inl (aN U)))]) C (o_isArgument l D E mo m1 m2 m3 m4 m5 m6 m7 m8 m9 m10 m11 m12 m13 m14 m15 0 n kn lg td ld lt gr mv la (nI j) ) rd_Mo_isArgument m_731 m_733 m_22 rfl rfl (Nat.le_of_ble_eq_true rfl) (Nat.le_of_ble_eq_true rfl) (Nat.le_of_ble_eq_true rfl) (Nat.le_of_ble_eq_true rfl) rfl rfl (Nat.le_of_ble_eq_true rfl) d_Mo_joint_15 [0] [1, 2] rfl (by decide) rfl (by decide) (by decide) (fun r15 _ (hr15 : r15 = bI (inR (nI j) n)) => ?_)
    subst hr15
    refine g_cells (ws' := [(mo, .inr (7, [.int (nI 0), .int (nI n), .ref m1, .ref m2, .ref m3, .ref m4, .ref m5, .ref m6, .int (bI kn), .int (bI lg), .int (bI td), .int (nI ld), .int (pI lt), .ref m7, .int (nI gr), .int (nI mv), .ref m8, .ref m9, .ref m10, .ref m11, .ref m12, .ref m13, .int (nI la), .ref m14, .ref m15])), (m1, .inl (E 0, 12, .inl (aN T))), (m2, .inl (E 0, 12, .inl (aN U)))]) [2, 0, 1] (by decide) rfl ?_
    refine g_if_eqB (tgt := 38) C d_Mo_joint_18 (by decide) (fun b1 => ?_) (fun b1 => ?_)
    · skip
      rw [inR_nI (by omega) (by omega)] at b1; simp at b1; omega
    · skip
      refine g_aload_n C d_Mo_joint_21 rfl 0 rfl ?_
      refine g_iload_n C d_Mo_joint_22 rfl 3 rfl ?_
      refine g_iV (rest := []) (wr := [(m1, .inl (E 0, 12, .inl (aN T))), (m2, .inl (E 0, 12, .inl (aN U)))]) C (o_isArgument l D E mo m1 m2 m3 m4 m5 m6 m7 m8 m9 m10 m11 m12 m13 m14 m15 0 n kn lg td ld lt gr mv la (nI k) ) rd_Mo_isArgument m_731 m_733 m_22 rfl rfl (Nat.le_of_ble_eq_true rfl) (Nat.le_of_ble_eq_true rfl) (Nat.le_of_ble_eq_true rfl) (Nat.le_of_ble_eq_true rfl) rfl rfl (Nat.le_of_ble_eq_true rfl) d_Mo_joint_23 [0] [1, 2] rfl (by decide) rfl (by decide) (by decide) (fun r23 _ (hr23 : r23 = bI (inR (nI k) n)) => ?_)
      subst hr23
      refine g_cells (ws' := [(mo, .inr (7, [.int (nI 0), .int (nI n), .ref m1, .ref m2, .ref m3, .ref m4, .ref m5, .ref m6, .int (bI kn), .int (bI lg), .int (bI td), .int (nI ld), .int (pI lt), .ref m7, .int (nI gr), .int (nI mv), .ref m8, .ref m9, .ref m10, .ref m11, .ref m12, .ref m13, .int (nI la), .ref m14, .ref m15])), (m1, .inl (E 0, 12, .inl (aN T))), (m2, .inl (E 0, 12, .inl (aN U)))]) [2, 0, 1] (by decide) rfl ?_
      refine g_if_eqB (tgt := 38) C d_Mo_joint_26 (by decide) (fun b2 => ?_) (fun b2 => ?_)
      · skip
        rw [inR_nI (by omega) (by omega)] at b2; simp at b2; omega
      · skip
        refine g_aload_n C d_Mo_joint_29 rfl 0 rfl ?_
        refine g_get C lay_Mo 0 rfl rfl 1 (by decide) m_635 rfl d_Mo_joint_30 ?_
        refine g_bipush (v := nI 9) C d_Mo_joint_33 (by decide) ?_
        refine g_icmp_leN (tgt := 40) C (by omega) (by decide) d_Mo_joint_35 (by decide) (fun b3 => ?_) (fun b3 => ?_)
        · skip
          refine g_aload_n C d_Mo_joint_40 rfl 0 rfl ?_
          refine g_iV (rest := []) (wr := []) C (o_comes l D E mo m1 m2 m3 m4 m5 m6 m7 m8 m9 m10 m11 m12 m13 m14 m15 0 n kn lg td ld lt gr mv la T U (by omega)) rd_Mo_comes m_719 m_721 m_20 rfl rfl (Nat.le_of_ble_eq_true rfl) (Nat.le_of_ble_eq_true rfl) (Nat.le_of_ble_eq_true rfl) (Nat.le_of_ble_eq_true rfl) rfl rfl (Nat.le_of_ble_eq_true rfl) d_Mo_joint_41 [0, 1, 2] [] rfl (by decide) rfl (by decide) (by decide) (fun r41 _ (hr41 : r41 = nI n) => ?_)
          subst hr41
          refine g_cells (ws' := [(mo, .inr (7, [.int (nI 0), .int (nI (n + 1)), .ref m1, .ref m2, .ref m3, .ref m4, .ref m5, .ref m6, .int (bI false), .int (bI false), .int (bI false), .int (nI ld), .int (pI lt), .ref m7, .int (nI gr), .int (nI mv), .ref m8, .ref m9, .ref m10, .ref m11, .ref m12, .ref m13, .int (nI la), .ref m14, .ref m15])), (m1, .inl (E 0, 12, .inl (aN (va_up T n 0)))), (m2, .inl (E 0, 12, .inl (aN (va_up U n 0))))]) [0, 1, 2] (by decide) rfl ?_
          refine g_istore (lv' := [(4, .int (nI n)), (0, .ref mo), (1, .int (nI i)), (2, .int (nI j)), (3, .int (nI k))]) C d_Mo_joint_44 (by decide) rfl ?_
          refine g_aload_n C d_Mo_joint_46 rfl 1 rfl ?_
          refine g_iV (rest := []) (wr := []) C (o_comes l D E mo m1 m2 m3 m4 m5 m6 m7 m8 m9 m10 m11 m12 m13 m14 m15 0 (n + 1) false false false ld lt gr mv la (va_up T n 0) (va_up U n 0) (by omega)) rd_Mo_comes m_719 m_721 m_20 rfl rfl (Nat.le_of_ble_eq_true rfl) (Nat.le_of_ble_eq_true rfl) (Nat.le_of_ble_eq_true rfl) (Nat.le_of_ble_eq_true rfl) rfl rfl (Nat.le_of_ble_eq_true rfl) d_Mo_joint_47 [0, 1, 2] [] rfl (by decide) rfl (by decide) (by decide) (fun r47 _ (hr47 : r47 = nI (n + 1)) => ?_)
          subst hr47
          refine g_cells (ws' := [(mo, .inr (7, [.int (nI 0), .int (nI ((n + 1) + 1)), .ref m1, .ref m2, .ref m3, .ref m4, .ref m5, .ref m6, .int (bI false), .int (bI false), .int (bI false), .int (nI ld), .int (pI lt), .ref m7, .int (nI gr), .int (nI mv), .ref m8, .ref m9, .ref m10, .ref m11, .ref m12, .ref m13, .int (nI la), .ref m14, .ref m15])), (m1, .inl (E 0, 12, .inl (aN (va_up (va_up T n 0) (n + 1) 0)))), (m2, .inl (E 0, 12, .inl (aN (va_up (va_up U n 0) (n + 1) 0))))]) [0, 1, 2] (by decide) rfl ?_
          refine g_istore (lv' := [(5, .int (nI (n + 1))), (4, .int (nI n)), (0, .ref mo), (1, .int (nI i)), (2, .int (nI j)), (3, .int (nI k))]) C d_Mo_joint_50 (by decide) rfl ?_
          refine g_aload_n C d_Mo_joint_52 rfl 2 rfl ?_
          refine g_iV (rest := []) (wr := []) C (o_comes l D E mo m1 m2 m3 m4 m5 m6 m7 m8 m9 m10 m11 m12 m13 m14 m15 0 ((n + 1) + 1) false false false ld lt gr mv la (va_up (va_up T n 0) (n + 1) 0) (va_up (va_up U n 0) (n + 1) 0) (by omega)) rd_Mo_comes m_719 m_721 m_20 rfl rfl (Nat.le_of_ble_eq_true rfl) (Nat.le_of_ble_eq_true rfl) (Nat.le_of_ble_eq_true rfl) (Nat.le_of_ble_eq_true rfl) rfl rfl (Nat.le_of_ble_eq_true rfl) d_Mo_joint_53 [0, 1, 2] [] rfl (by decide) rfl (by decide) (by decide) (fun r53 _ (hr53 : r53 = nI ((n + 1) + 1)) => ?_)
          subst hr53
          refine g_cells (ws' := [(mo, .inr (7, [.int (nI 0), .int (nI (((n + 1) + 1) + 1)), .ref m1, .ref m2, .ref m3, .ref m4, .ref m5, .ref m6, .int (bI false), .int (bI false), .int (bI false), .int (nI ld), .int (pI lt), .ref m7, .int (nI gr), .int (nI mv), .ref m8, .ref m9, .ref m10, .ref m11, .ref m12, .ref m13, .int (nI la), .ref m14, .ref m15])), (m1, .inl (E 0, 12, .inl (aN (va_up (va_up (va_up T n 0) (n + 1) 0) ((n + 1) + 1) 0)))), (m2, .inl (E 0, 12, .inl (aN (va_up (va_up (va_up U n 0) (n + 1) 0) ((n + 1) + 1) 0))))]) [0, 1, 2] (by decide) rfl ?_
          refine g_istore (lv' := [(6, .int (nI ((n + 1) + 1))), (5, .int (nI (n + 1))), (4, .int (nI n)), (0, .ref mo), (1, .int (nI i)), (2, .int (nI j)), (3, .int (nI k))]) C d_Mo_joint_56 (by decide) rfl ?_
          refine g_aload_n C d_Mo_joint_58 rfl 3 rfl ?_
          refine g_iload_n C d_Mo_joint_59 rfl 4 rfl ?_
          refine g_iload C d_Mo_joint_60 2 rfl ?_
          refine g_iconst (v := nI 1) C d_Mo_joint_62 (by decide) ?_
          refine g_top (show nI 1 = bI true from rfl) ?_
          refine g_vV (rest := []) (wr := []) C (o_sets l D E mo m1 m2 m3 m4 m5 m6 m7 m8 m9 m10 m11 m12 m13 m14 m15 0 (((n + 1) + 1) + 1) false false false ld lt gr mv la (va_up (va_up (va_up T n 0) (n + 1) 0) ((n + 1) + 1) 0) (va_up (va_up (va_up U n 0) (n + 1) 0) ((n + 1) + 1) 0) i n true (by omega) (by omega) (by omega) (tb_lt (up0_lt (up0_lt (up0_lt hTn)) _)) (up0_lt (up0_lt (up0_lt (pw_mono (k := 12) hTn (by omega))))) (up0_lt (up0_lt (up0_lt (pw_mono (k := 12) hUn (by omega)))))) rd_Mo_sets m_735 m_737 m_23 rfl rfl (Nat.le_of_ble_eq_true rfl) (Nat.le_of_ble_eq_true rfl) (Nat.le_of_ble_eq_true rfl) (Nat.le_of_ble_eq_true rfl) rfl rfl (Nat.le_of_ble_eq_true rfl) d_Mo_joint_63 [0, 1, 2] [] rfl (by decide) rfl (by decide) (by decide) (fun _ _ => ?_)
          refine g_cells (ws' := [(mo, .inr (7, [.int (nI 0), .int (nI (((n + 1) + 1) + 1)), .ref m1, .ref m2, .ref m3, .ref m4, .ref m5, .ref m6, .int (bI false), .int (bI false), .int (bI false), .int (nI ld), .int (pI lt), .ref m7, .int (nI gr), .int (nI mv), .ref m8, .ref m9, .ref m10, .ref m11, .ref m12, .ref m13, .int (nI la), .ref m14, .ref m15])), (m1, .inl (E 0, 12, .inl (aN (va_up (va_up (va_up (va_up T n 0) (n + 1) 0) ((n + 1) + 1) 0) i ((va_up (va_up (va_up T n 0) (n + 1) 0) ((n + 1) + 1) 0) i ^^^ 2 ^ n))))), (m2, .inl (E 0, 12, .inl (aN (va_up (va_up (va_up (va_up U n 0) (n + 1) 0) ((n + 1) + 1) 0) n ((va_up (va_up (va_up U n 0) (n + 1) 0) ((n + 1) + 1) 0) n ^^^ 2 ^ i)))))]) [0, 1, 2] (by decide) rfl ?_
          refine g_aload_n C d_Mo_joint_66 rfl 3 rfl ?_
          refine g_iload_n C d_Mo_joint_67 rfl 5 rfl ?_
          refine g_iload C d_Mo_joint_68 1 rfl ?_
          refine g_iconst (v := nI 1) C d_Mo_joint_70 (by decide) ?_
          refine g_top (show nI 1 = bI true from rfl) ?_
          refine g_vV (rest := []) (wr := []) C (o_sets l D E mo m1 m2 m3 m4 m5 m6 m7 m8 m9 m10 m11 m12 m13 m14 m15 0 (((n + 1) + 1) + 1) false false false ld lt gr mv la (va_up (va_up (va_up (va_up T n 0) (n + 1) 0) ((n + 1) + 1) 0) i ((va_up (va_up (va_up T n 0) (n + 1) 0) ((n + 1) + 1) 0) i ^^^ 2 ^ n)) (va_up (va_up (va_up (va_up U n 0) (n + 1) 0) ((n + 1) + 1) 0) n ((va_up (va_up (va_up U n 0) (n + 1) 0) ((n + 1) + 1) 0) n ^^^ 2 ^ i)) j (n + 1) true (by omega) (by omega) (by omega) (tb_lt (upx_lt (pw_mono (up0_lt (up0_lt (up0_lt hTn))) (by omega)) (by omega) _)) (upx_lt (m := 12) (up0_lt (up0_lt (up0_lt (pw_mono (k := 12) hTn (by omega))))) (by omega)) (upx_lt (m := 12) (up0_lt (up0_lt (up0_lt (pw_mono (k := 12) hUn (by omega))))) (by omega))) rd_Mo_sets m_735 m_737 m_23 rfl rfl (Nat.le_of_ble_eq_true rfl) (Nat.le_of_ble_eq_true rfl) (Nat.le_of_ble_eq_true rfl) (Nat.le_of_ble_eq_true rfl) rfl rfl (Nat.le_of_ble_eq_true rfl) d_Mo_joint_71 [0, 1, 2] [] rfl (by decide) rfl (by decide) (by decide) (fun _ _ => ?_)
          refine g_cells (ws' := [(mo, .inr (7, [.int (nI 0), .int (nI (((n + 1) + 1) + 1)), .ref m1, .ref m2, .ref m3, .ref m4, .ref m5, .ref m6, .int (bI false), .int (bI false), .int (bI false), .int (nI ld), .int (pI lt), .ref m7, .int (nI gr), .int (nI mv), .ref m8, .ref m9, .ref m10, .ref m11, .ref m12, .ref m13, .int (nI la), .ref m14, .ref m15])), (m1, .inl (E 0, 12, .inl (aN (va_up (va_up (va_up (va_up (va_up T n 0) (n + 1) 0) ((n + 1) + 1) 0) i ((va_up (va_up (va_up T n 0) (n + 1) 0) ((n + 1) + 1) 0) i ^^^ 2 ^ n)) j ((va_up (va_up (va_up (va_up T n 0) (n + 1) 0) ((n + 1) + 1) 0) i ((va_up (va_up (va_up T n 0) (n + 1) 0) ((n + 1) + 1) 0) i ^^^ 2 ^ n)) j ^^^ 2 ^ (n + 1)))))), (m2, .inl (E 0, 12, .inl (aN (va_up (va_up (va_up (va_up (va_up U n 0) (n + 1) 0) ((n + 1) + 1) 0) n ((va_up (va_up (va_up U n 0) (n + 1) 0) ((n + 1) + 1) 0) n ^^^ 2 ^ i)) (n + 1) ((va_up (va_up (va_up (va_up U n 0) (n + 1) 0) ((n + 1) + 1) 0) n ((va_up (va_up (va_up U n 0) (n + 1) 0) ((n + 1) + 1) 0) n ^^^ 2 ^ i)) (n + 1) ^^^ 2 ^ j)))))]) [0, 1, 2] (by decide) rfl ?_
          refine g_aload_n C d_Mo_joint_74 rfl 3 rfl ?_
          refine g_iload C d_Mo_joint_75 2 rfl ?_
          refine g_iload C d_Mo_joint_77 0 rfl ?_
          refine g_iconst (v := nI 1) C d_Mo_joint_79 (by decide) ?_
          refine g_top (show nI 1 = bI true from rfl) ?_
          refine g_vV (rest := []) (wr := []) C (o_sets l D E mo m1 m2 m3 m4 m5 m6 m7 m8 m9 m10 m11 m12 m13 m14 m15 0 (((n + 1) + 1) + 1) false false false ld lt gr mv la (va_up (va_up (va_up (va_up (va_up T n 0) (n + 1) 0) ((n + 1) + 1) 0) i ((va_up (va_up (va_up T n 0) (n + 1) 0) ((n + 1) + 1) 0) i ^^^ 2 ^ n)) j ((va_up (va_up (va_up (va_up T n 0) (n + 1) 0) ((n + 1) + 1) 0) i ((va_up (va_up (va_up T n 0) (n + 1) 0) ((n + 1) + 1) 0) i ^^^ 2 ^ n)) j ^^^ 2 ^ (n + 1))) (va_up (va_up (va_up (va_up (va_up U n 0) (n + 1) 0) ((n + 1) + 1) 0) n ((va_up (va_up (va_up U n 0) (n + 1) 0) ((n + 1) + 1) 0) n ^^^ 2 ^ i)) (n + 1) ((va_up (va_up (va_up (va_up U n 0) (n + 1) 0) ((n + 1) + 1) 0) n ((va_up (va_up (va_up U n 0) (n + 1) 0) ((n + 1) + 1) 0) n ^^^ 2 ^ i)) (n + 1) ^^^ 2 ^ j)) n ((n + 1) + 1) true (by omega) (by omega) (by omega) (tb_lt (upx_lt (upx_lt (pw_mono (up0_lt (up0_lt (up0_lt hTn))) (by omega)) (by omega)) (by omega) _)) (upx_lt (m := 12) (upx_lt (m := 12) (up0_lt (up0_lt (up0_lt (pw_mono (k := 12) hTn (by omega))))) (by omega)) (by omega)) (upx_lt (m := 12) (upx_lt (m := 12) (up0_lt (up0_lt (up0_lt (pw_mono (k := 12) hUn (by omega))))) (by omega)) (by omega))) rd_Mo_sets m_735 m_737 m_23 rfl rfl (Nat.le_of_ble_eq_true rfl) (Nat.le_of_ble_eq_true rfl) (Nat.le_of_ble_eq_true rfl) (Nat.le_of_ble_eq_true rfl) rfl rfl (Nat.le_of_ble_eq_true rfl) d_Mo_joint_80 [0, 1, 2] [] rfl (by decide) rfl (by decide) (by decide) (fun _ _ => ?_)
          refine g_cells (ws' := [(mo, .inr (7, [.int (nI 0), .int (nI (((n + 1) + 1) + 1)), .ref m1, .ref m2, .ref m3, .ref m4, .ref m5, .ref m6, .int (bI false), .int (bI false), .int (bI false), .int (nI ld), .int (pI lt), .ref m7, .int (nI gr), .int (nI mv), .ref m8, .ref m9, .ref m10, .ref m11, .ref m12, .ref m13, .int (nI la), .ref m14, .ref m15])), (m1, .inl (E 0, 12, .inl (aN (va_up (va_up (va_up (va_up (va_up (va_up T n 0) (n + 1) 0) ((n + 1) + 1) 0) i ((va_up (va_up (va_up T n 0) (n + 1) 0) ((n + 1) + 1) 0) i ^^^ 2 ^ n)) j ((va_up (va_up (va_up (va_up T n 0) (n + 1) 0) ((n + 1) + 1) 0) i ((va_up (va_up (va_up T n 0) (n + 1) 0) ((n + 1) + 1) 0) i ^^^ 2 ^ n)) j ^^^ 2 ^ (n + 1))) n ((va_up (va_up (va_up (va_up (va_up T n 0) (n + 1) 0) ((n + 1) + 1) 0) i ((va_up (va_up (va_up T n 0) (n + 1) 0) ((n + 1) + 1) 0) i ^^^ 2 ^ n)) j ((va_up (va_up (va_up (va_up T n 0) (n + 1) 0) ((n + 1) + 1) 0) i ((va_up (va_up (va_up T n 0) (n + 1) 0) ((n + 1) + 1) 0) i ^^^ 2 ^ n)) j ^^^ 2 ^ (n + 1))) n ^^^ 2 ^ ((n + 1) + 1)))))), (m2, .inl (E 0, 12, .inl (aN (va_up (va_up (va_up (va_up (va_up (va_up U n 0) (n + 1) 0) ((n + 1) + 1) 0) n ((va_up (va_up (va_up U n 0) (n + 1) 0) ((n + 1) + 1) 0) n ^^^ 2 ^ i)) (n + 1) ((va_up (va_up (va_up (va_up U n 0) (n + 1) 0) ((n + 1) + 1) 0) n ((va_up (va_up (va_up U n 0) (n + 1) 0) ((n + 1) + 1) 0) n ^^^ 2 ^ i)) (n + 1) ^^^ 2 ^ j)) ((n + 1) + 1) ((va_up (va_up (va_up (va_up (va_up U n 0) (n + 1) 0) ((n + 1) + 1) 0) n ((va_up (va_up (va_up U n 0) (n + 1) 0) ((n + 1) + 1) 0) n ^^^ 2 ^ i)) (n + 1) ((va_up (va_up (va_up (va_up U n 0) (n + 1) 0) ((n + 1) + 1) 0) n ((va_up (va_up (va_up U n 0) (n + 1) 0) ((n + 1) + 1) 0) n ^^^ 2 ^ i)) (n + 1) ^^^ 2 ^ j)) ((n + 1) + 1) ^^^ 2 ^ n)))))]) [0, 1, 2] (by decide) rfl ?_
          refine g_aload_n C d_Mo_joint_83 rfl 3 rfl ?_
          refine g_iload C d_Mo_joint_84 1 rfl ?_
          refine g_iload C d_Mo_joint_86 0 rfl ?_
          refine g_iconst (v := nI 1) C d_Mo_joint_88 (by decide) ?_
          refine g_top (show nI 1 = bI true from rfl) ?_
          refine g_vV (rest := []) (wr := []) C (o_sets l D E mo m1 m2 m3 m4 m5 m6 m7 m8 m9 m10 m11 m12 m13 m14 m15 0 (((n + 1) + 1) + 1) false false false ld lt gr mv la (va_up (va_up (va_up (va_up (va_up (va_up T n 0) (n + 1) 0) ((n + 1) + 1) 0) i ((va_up (va_up (va_up T n 0) (n + 1) 0) ((n + 1) + 1) 0) i ^^^ 2 ^ n)) j ((va_up (va_up (va_up (va_up T n 0) (n + 1) 0) ((n + 1) + 1) 0) i ((va_up (va_up (va_up T n 0) (n + 1) 0) ((n + 1) + 1) 0) i ^^^ 2 ^ n)) j ^^^ 2 ^ (n + 1))) n ((va_up (va_up (va_up (va_up (va_up T n 0) (n + 1) 0) ((n + 1) + 1) 0) i ((va_up (va_up (va_up T n 0) (n + 1) 0) ((n + 1) + 1) 0) i ^^^ 2 ^ n)) j ((va_up (va_up (va_up (va_up T n 0) (n + 1) 0) ((n + 1) + 1) 0) i ((va_up (va_up (va_up T n 0) (n + 1) 0) ((n + 1) + 1) 0) i ^^^ 2 ^ n)) j ^^^ 2 ^ (n + 1))) n ^^^ 2 ^ ((n + 1) + 1))) (va_up (va_up (va_up (va_up (va_up (va_up U n 0) (n + 1) 0) ((n + 1) + 1) 0) n ((va_up (va_up (va_up U n 0) (n + 1) 0) ((n + 1) + 1) 0) n ^^^ 2 ^ i)) (n + 1) ((va_up (va_up (va_up (va_up U n 0) (n + 1) 0) ((n + 1) + 1) 0) n ((va_up (va_up (va_up U n 0) (n + 1) 0) ((n + 1) + 1) 0) n ^^^ 2 ^ i)) (n + 1) ^^^ 2 ^ j)) ((n + 1) + 1) ((va_up (va_up (va_up (va_up (va_up U n 0) (n + 1) 0) ((n + 1) + 1) 0) n ((va_up (va_up (va_up U n 0) (n + 1) 0) ((n + 1) + 1) 0) n ^^^ 2 ^ i)) (n + 1) ((va_up (va_up (va_up (va_up U n 0) (n + 1) 0) ((n + 1) + 1) 0) n ((va_up (va_up (va_up U n 0) (n + 1) 0) ((n + 1) + 1) 0) n ^^^ 2 ^ i)) (n + 1) ^^^ 2 ^ j)) ((n + 1) + 1) ^^^ 2 ^ n)) (n + 1) ((n + 1) + 1) true (by omega) (by omega) (by omega) (by rw [up_ne (by omega), up_ne (by omega), up_ne (by omega), up_ne (by omega), up_at]; exact z_bit _) (upx_lt (m := 12) (upx_lt (m := 12) (upx_lt (m := 12) (up0_lt (up0_lt (up0_lt (pw_mono (k := 12) hTn (by omega))))) (by omega)) (by omega)) (by omega)) (upx_lt (m := 12) (upx_lt (m := 12) (upx_lt (m := 12) (up0_lt (up0_lt (up0_lt (pw_mono (k := 12) hUn (by omega))))) (by omega)) (by omega)) (by omega))) rd_Mo_sets m_735 m_737 m_23 rfl rfl (Nat.le_of_ble_eq_true rfl) (Nat.le_of_ble_eq_true rfl) (Nat.le_of_ble_eq_true rfl) (Nat.le_of_ble_eq_true rfl) rfl rfl (Nat.le_of_ble_eq_true rfl) d_Mo_joint_89 [0, 1, 2] [] rfl (by decide) rfl (by decide) (by decide) (fun _ _ => ?_)
          refine g_cells (ws' := [(mo, .inr (7, [.int (nI 0), .int (nI (((n + 1) + 1) + 1)), .ref m1, .ref m2, .ref m3, .ref m4, .ref m5, .ref m6, .int (bI false), .int (bI false), .int (bI false), .int (nI ld), .int (pI lt), .ref m7, .int (nI gr), .int (nI mv), .ref m8, .ref m9, .ref m10, .ref m11, .ref m12, .ref m13, .int (nI la), .ref m14, .ref m15])), (m1, .inl (E 0, 12, .inl (aN (va_up (va_up (va_up (va_up (va_up (va_up (va_up T n 0) (n + 1) 0) ((n + 1) + 1) 0) i ((va_up (va_up (va_up T n 0) (n + 1) 0) ((n + 1) + 1) 0) i ^^^ 2 ^ n)) j ((va_up (va_up (va_up (va_up T n 0) (n + 1) 0) ((n + 1) + 1) 0) i ((va_up (va_up (va_up T n 0) (n + 1) 0) ((n + 1) + 1) 0) i ^^^ 2 ^ n)) j ^^^ 2 ^ (n + 1))) n ((va_up (va_up (va_up (va_up (va_up T n 0) (n + 1) 0) ((n + 1) + 1) 0) i ((va_up (va_up (va_up T n 0) (n + 1) 0) ((n + 1) + 1) 0) i ^^^ 2 ^ n)) j ((va_up (va_up (va_up (va_up T n 0) (n + 1) 0) ((n + 1) + 1) 0) i ((va_up (va_up (va_up T n 0) (n + 1) 0) ((n + 1) + 1) 0) i ^^^ 2 ^ n)) j ^^^ 2 ^ (n + 1))) n ^^^ 2 ^ ((n + 1) + 1))) (n + 1) ((va_up (va_up (va_up (va_up (va_up (va_up T n 0) (n + 1) 0) ((n + 1) + 1) 0) i ((va_up (va_up (va_up T n 0) (n + 1) 0) ((n + 1) + 1) 0) i ^^^ 2 ^ n)) j ((va_up (va_up (va_up (va_up T n 0) (n + 1) 0) ((n + 1) + 1) 0) i ((va_up (va_up (va_up T n 0) (n + 1) 0) ((n + 1) + 1) 0) i ^^^ 2 ^ n)) j ^^^ 2 ^ (n + 1))) n ((va_up (va_up (va_up (va_up (va_up T n 0) (n + 1) 0) ((n + 1) + 1) 0) i ((va_up (va_up (va_up T n 0) (n + 1) 0) ((n + 1) + 1) 0) i ^^^ 2 ^ n)) j ((va_up (va_up (va_up (va_up T n 0) (n + 1) 0) ((n + 1) + 1) 0) i ((va_up (va_up (va_up T n 0) (n + 1) 0) ((n + 1) + 1) 0) i ^^^ 2 ^ n)) j ^^^ 2 ^ (n + 1))) n ^^^ 2 ^ ((n + 1) + 1))) (n + 1) ^^^ 2 ^ ((n + 1) + 1)))))), (m2, .inl (E 0, 12, .inl (aN (va_up (va_up (va_up (va_up (va_up (va_up (va_up U n 0) (n + 1) 0) ((n + 1) + 1) 0) n ((va_up (va_up (va_up U n 0) (n + 1) 0) ((n + 1) + 1) 0) n ^^^ 2 ^ i)) (n + 1) ((va_up (va_up (va_up (va_up U n 0) (n + 1) 0) ((n + 1) + 1) 0) n ((va_up (va_up (va_up U n 0) (n + 1) 0) ((n + 1) + 1) 0) n ^^^ 2 ^ i)) (n + 1) ^^^ 2 ^ j)) ((n + 1) + 1) ((va_up (va_up (va_up (va_up (va_up U n 0) (n + 1) 0) ((n + 1) + 1) 0) n ((va_up (va_up (va_up U n 0) (n + 1) 0) ((n + 1) + 1) 0) n ^^^ 2 ^ i)) (n + 1) ((va_up (va_up (va_up (va_up U n 0) (n + 1) 0) ((n + 1) + 1) 0) n ((va_up (va_up (va_up U n 0) (n + 1) 0) ((n + 1) + 1) 0) n ^^^ 2 ^ i)) (n + 1) ^^^ 2 ^ j)) ((n + 1) + 1) ^^^ 2 ^ n)) ((n + 1) + 1) ((va_up (va_up (va_up (va_up (va_up (va_up U n 0) (n + 1) 0) ((n + 1) + 1) 0) n ((va_up (va_up (va_up U n 0) (n + 1) 0) ((n + 1) + 1) 0) n ^^^ 2 ^ i)) (n + 1) ((va_up (va_up (va_up (va_up U n 0) (n + 1) 0) ((n + 1) + 1) 0) n ((va_up (va_up (va_up U n 0) (n + 1) 0) ((n + 1) + 1) 0) n ^^^ 2 ^ i)) (n + 1) ^^^ 2 ^ j)) ((n + 1) + 1) ((va_up (va_up (va_up (va_up (va_up U n 0) (n + 1) 0) ((n + 1) + 1) 0) n ((va_up (va_up (va_up U n 0) (n + 1) 0) ((n + 1) + 1) 0) n ^^^ 2 ^ i)) (n + 1) ((va_up (va_up (va_up (va_up U n 0) (n + 1) 0) ((n + 1) + 1) 0) n ((va_up (va_up (va_up U n 0) (n + 1) 0) ((n + 1) + 1) 0) n ^^^ 2 ^ i)) (n + 1) ^^^ 2 ^ j)) ((n + 1) + 1) ^^^ 2 ^ n)) ((n + 1) + 1) ^^^ 2 ^ (n + 1))))))]) [0, 1, 2] (by decide) rfl ?_
          refine g_aload_n C d_Mo_joint_92 rfl 3 rfl ?_
          refine g_iload C d_Mo_joint_93 0 rfl ?_
          refine g_iload_n C d_Mo_joint_95 rfl 6 rfl ?_
          refine g_iconst (v := nI 1) C d_Mo_joint_96 (by decide) ?_
          refine g_top (show nI 1 = bI true from rfl) ?_
          refine g_vV (rest := []) (wr := []) C (o_sets l D E mo m1 m2 m3 m4 m5 m6 m7 m8 m9 m10 m11 m12 m13 m14 m15 0 (((n + 1) + 1) + 1) false false false ld lt gr mv la (va_up (va_up (va_up (va_up (va_up (va_up (va_up T n 0) (n + 1) 0) ((n + 1) + 1) 0) i ((va_up (va_up (va_up T n 0) (n + 1) 0) ((n + 1) + 1) 0) i ^^^ 2 ^ n)) j ((va_up (va_up (va_up (va_up T n 0) (n + 1) 0) ((n + 1) + 1) 0) i ((va_up (va_up (va_up T n 0) (n + 1) 0) ((n + 1) + 1) 0) i ^^^ 2 ^ n)) j ^^^ 2 ^ (n + 1))) n ((va_up (va_up (va_up (va_up (va_up T n 0) (n + 1) 0) ((n + 1) + 1) 0) i ((va_up (va_up (va_up T n 0) (n + 1) 0) ((n + 1) + 1) 0) i ^^^ 2 ^ n)) j ((va_up (va_up (va_up (va_up T n 0) (n + 1) 0) ((n + 1) + 1) 0) i ((va_up (va_up (va_up T n 0) (n + 1) 0) ((n + 1) + 1) 0) i ^^^ 2 ^ n)) j ^^^ 2 ^ (n + 1))) n ^^^ 2 ^ ((n + 1) + 1))) (n + 1) ((va_up (va_up (va_up (va_up (va_up (va_up T n 0) (n + 1) 0) ((n + 1) + 1) 0) i ((va_up (va_up (va_up T n 0) (n + 1) 0) ((n + 1) + 1) 0) i ^^^ 2 ^ n)) j ((va_up (va_up (va_up (va_up T n 0) (n + 1) 0) ((n + 1) + 1) 0) i ((va_up (va_up (va_up T n 0) (n + 1) 0) ((n + 1) + 1) 0) i ^^^ 2 ^ n)) j ^^^ 2 ^ (n + 1))) n ((va_up (va_up (va_up (va_up (va_up T n 0) (n + 1) 0) ((n + 1) + 1) 0) i ((va_up (va_up (va_up T n 0) (n + 1) 0) ((n + 1) + 1) 0) i ^^^ 2 ^ n)) j ((va_up (va_up (va_up (va_up T n 0) (n + 1) 0) ((n + 1) + 1) 0) i ((va_up (va_up (va_up T n 0) (n + 1) 0) ((n + 1) + 1) 0) i ^^^ 2 ^ n)) j ^^^ 2 ^ (n + 1))) n ^^^ 2 ^ ((n + 1) + 1))) (n + 1) ^^^ 2 ^ ((n + 1) + 1))) (va_up (va_up (va_up (va_up (va_up (va_up (va_up U n 0) (n + 1) 0) ((n + 1) + 1) 0) n ((va_up (va_up (va_up U n 0) (n + 1) 0) ((n + 1) + 1) 0) n ^^^ 2 ^ i)) (n + 1) ((va_up (va_up (va_up (va_up U n 0) (n + 1) 0) ((n + 1) + 1) 0) n ((va_up (va_up (va_up U n 0) (n + 1) 0) ((n + 1) + 1) 0) n ^^^ 2 ^ i)) (n + 1) ^^^ 2 ^ j)) ((n + 1) + 1) ((va_up (va_up (va_up (va_up (va_up U n 0) (n + 1) 0) ((n + 1) + 1) 0) n ((va_up (va_up (va_up U n 0) (n + 1) 0) ((n + 1) + 1) 0) n ^^^ 2 ^ i)) (n + 1) ((va_up (va_up (va_up (va_up U n 0) (n + 1) 0) ((n + 1) + 1) 0) n ((va_up (va_up (va_up U n 0) (n + 1) 0) ((n + 1) + 1) 0) n ^^^ 2 ^ i)) (n + 1) ^^^ 2 ^ j)) ((n + 1) + 1) ^^^ 2 ^ n)) ((n + 1) + 1) ((va_up (va_up (va_up (va_up (va_up (va_up U n 0) (n + 1) 0) ((n + 1) + 1) 0) n ((va_up (va_up (va_up U n 0) (n + 1) 0) ((n + 1) + 1) 0) n ^^^ 2 ^ i)) (n + 1) ((va_up (va_up (va_up (va_up U n 0) (n + 1) 0) ((n + 1) + 1) 0) n ((va_up (va_up (va_up U n 0) (n + 1) 0) ((n + 1) + 1) 0) n ^^^ 2 ^ i)) (n + 1) ^^^ 2 ^ j)) ((n + 1) + 1) ((va_up (va_up (va_up (va_up (va_up U n 0) (n + 1) 0) ((n + 1) + 1) 0) n ((va_up (va_up (va_up U n 0) (n + 1) 0) ((n + 1) + 1) 0) n ^^^ 2 ^ i)) (n + 1) ((va_up (va_up (va_up (va_up U n 0) (n + 1) 0) ((n + 1) + 1) 0) n ((va_up (va_up (va_up U n 0) (n + 1) 0) ((n + 1) + 1) 0) n ^^^ 2 ^ i)) (n + 1) ^^^ 2 ^ j)) ((n + 1) + 1) ^^^ 2 ^ n)) ((n + 1) + 1) ^^^ 2 ^ (n + 1))) ((n + 1) + 1) k true (by omega) (by omega) (by omega) (by rw [up_ne (by omega), up_ne (by omega), up_ne (by omega), up_ne (by omega), up_at]; exact z_bit _) (upx_lt (m := 12) (upx_lt (m := 12) (upx_lt (m := 12) (upx_lt (m := 12) (up0_lt (up0_lt (up0_lt (pw_mono (k := 12) hTn (by omega))))) (by omega)) (by omega)) (by omega)) (by omega)) (upx_lt (m := 12) (upx_lt (m := 12) (upx_lt (m := 12) (upx_lt (m := 12) (up0_lt (up0_lt (up0_lt (pw_mono (k := 12) hUn (by omega))))) (by omega)) (by omega)) (by omega)) (by omega))) rd_Mo_sets m_735 m_737 m_23 rfl rfl (Nat.le_of_ble_eq_true rfl) (Nat.le_of_ble_eq_true rfl) (Nat.le_of_ble_eq_true rfl) (Nat.le_of_ble_eq_true rfl) rfl rfl (Nat.le_of_ble_eq_true rfl) d_Mo_joint_97 [0, 1, 2] [] rfl (by decide) rfl (by decide) (by decide) (fun _ _ => ?_)
          refine g_cells (ws' := [(mo, .inr (7, [.int (nI 0), .int (nI (((n + 1) + 1) + 1)), .ref m1, .ref m2, .ref m3, .ref m4, .ref m5, .ref m6, .int (bI false), .int (bI false), .int (bI false), .int (nI ld), .int (pI lt), .ref m7, .int (nI gr), .int (nI mv), .ref m8, .ref m9, .ref m10, .ref m11, .ref m12, .ref m13, .int (nI la), .ref m14, .ref m15])), (m1, .inl (E 0, 12, .inl (aN (va_up (va_up (va_up (va_up (va_up (va_up (va_up (va_up T n 0) (n + 1) 0) ((n + 1) + 1) 0) i ((va_up (va_up (va_up T n 0) (n + 1) 0) ((n + 1) + 1) 0) i ^^^ 2 ^ n)) j ((va_up (va_up (va_up (va_up T n 0) (n + 1) 0) ((n + 1) + 1) 0) i ((va_up (va_up (va_up T n 0) (n + 1) 0) ((n + 1) + 1) 0) i ^^^ 2 ^ n)) j ^^^ 2 ^ (n + 1))) n ((va_up (va_up (va_up (va_up (va_up T n 0) (n + 1) 0) ((n + 1) + 1) 0) i ((va_up (va_up (va_up T n 0) (n + 1) 0) ((n + 1) + 1) 0) i ^^^ 2 ^ n)) j ((va_up (va_up (va_up (va_up T n 0) (n + 1) 0) ((n + 1) + 1) 0) i ((va_up (va_up (va_up T n 0) (n + 1) 0) ((n + 1) + 1) 0) i ^^^ 2 ^ n)) j ^^^ 2 ^ (n + 1))) n ^^^ 2 ^ ((n + 1) + 1))) (n + 1) ((va_up (va_up (va_up (va_up (va_up (va_up T n 0) (n + 1) 0) ((n + 1) + 1) 0) i ((va_up (va_up (va_up T n 0) (n + 1) 0) ((n + 1) + 1) 0) i ^^^ 2 ^ n)) j ((va_up (va_up (va_up (va_up T n 0) (n + 1) 0) ((n + 1) + 1) 0) i ((va_up (va_up (va_up T n 0) (n + 1) 0) ((n + 1) + 1) 0) i ^^^ 2 ^ n)) j ^^^ 2 ^ (n + 1))) n ((va_up (va_up (va_up (va_up (va_up T n 0) (n + 1) 0) ((n + 1) + 1) 0) i ((va_up (va_up (va_up T n 0) (n + 1) 0) ((n + 1) + 1) 0) i ^^^ 2 ^ n)) j ((va_up (va_up (va_up (va_up T n 0) (n + 1) 0) ((n + 1) + 1) 0) i ((va_up (va_up (va_up T n 0) (n + 1) 0) ((n + 1) + 1) 0) i ^^^ 2 ^ n)) j ^^^ 2 ^ (n + 1))) n ^^^ 2 ^ ((n + 1) + 1))) (n + 1) ^^^ 2 ^ ((n + 1) + 1))) ((n + 1) + 1) ((va_up (va_up (va_up (va_up (va_up (va_up (va_up T n 0) (n + 1) 0) ((n + 1) + 1) 0) i ((va_up (va_up (va_up T n 0) (n + 1) 0) ((n + 1) + 1) 0) i ^^^ 2 ^ n)) j ((va_up (va_up (va_up (va_up T n 0) (n + 1) 0) ((n + 1) + 1) 0) i ((va_up (va_up (va_up T n 0) (n + 1) 0) ((n + 1) + 1) 0) i ^^^ 2 ^ n)) j ^^^ 2 ^ (n + 1))) n ((va_up (va_up (va_up (va_up (va_up T n 0) (n + 1) 0) ((n + 1) + 1) 0) i ((va_up (va_up (va_up T n 0) (n + 1) 0) ((n + 1) + 1) 0) i ^^^ 2 ^ n)) j ((va_up (va_up (va_up (va_up T n 0) (n + 1) 0) ((n + 1) + 1) 0) i ((va_up (va_up (va_up T n 0) (n + 1) 0) ((n + 1) + 1) 0) i ^^^ 2 ^ n)) j ^^^ 2 ^ (n + 1))) n ^^^ 2 ^ ((n + 1) + 1))) (n + 1) ((va_up (va_up (va_up (va_up (va_up (va_up T n 0) (n + 1) 0) ((n + 1) + 1) 0) i ((va_up (va_up (va_up T n 0) (n + 1) 0) ((n + 1) + 1) 0) i ^^^ 2 ^ n)) j ((va_up (va_up (va_up (va_up T n 0) (n + 1) 0) ((n + 1) + 1) 0) i ((va_up (va_up (va_up T n 0) (n + 1) 0) ((n + 1) + 1) 0) i ^^^ 2 ^ n)) j ^^^ 2 ^ (n + 1))) n ((va_up (va_up (va_up (va_up (va_up T n 0) (n + 1) 0) ((n + 1) + 1) 0) i ((va_up (va_up (va_up T n 0) (n + 1) 0) ((n + 1) + 1) 0) i ^^^ 2 ^ n)) j ((va_up (va_up (va_up (va_up T n 0) (n + 1) 0) ((n + 1) + 1) 0) i ((va_up (va_up (va_up T n 0) (n + 1) 0) ((n + 1) + 1) 0) i ^^^ 2 ^ n)) j ^^^ 2 ^ (n + 1))) n ^^^ 2 ^ ((n + 1) + 1))) (n + 1) ^^^ 2 ^ ((n + 1) + 1))) ((n + 1) + 1) ^^^ 2 ^ k))))), (m2, .inl (E 0, 12, .inl (aN (va_up (va_up (va_up (va_up (va_up (va_up (va_up (va_up U n 0) (n + 1) 0) ((n + 1) + 1) 0) n ((va_up (va_up (va_up U n 0) (n + 1) 0) ((n + 1) + 1) 0) n ^^^ 2 ^ i)) (n + 1) ((va_up (va_up (va_up (va_up U n 0) (n + 1) 0) ((n + 1) + 1) 0) n ((va_up (va_up (va_up U n 0) (n + 1) 0) ((n + 1) + 1) 0) n ^^^ 2 ^ i)) (n + 1) ^^^ 2 ^ j)) ((n + 1) + 1) ((va_up (va_up (va_up (va_up (va_up U n 0) (n + 1) 0) ((n + 1) + 1) 0) n ((va_up (va_up (va_up U n 0) (n + 1) 0) ((n + 1) + 1) 0) n ^^^ 2 ^ i)) (n + 1) ((va_up (va_up (va_up (va_up U n 0) (n + 1) 0) ((n + 1) + 1) 0) n ((va_up (va_up (va_up U n 0) (n + 1) 0) ((n + 1) + 1) 0) n ^^^ 2 ^ i)) (n + 1) ^^^ 2 ^ j)) ((n + 1) + 1) ^^^ 2 ^ n)) ((n + 1) + 1) ((va_up (va_up (va_up (va_up (va_up (va_up U n 0) (n + 1) 0) ((n + 1) + 1) 0) n ((va_up (va_up (va_up U n 0) (n + 1) 0) ((n + 1) + 1) 0) n ^^^ 2 ^ i)) (n + 1) ((va_up (va_up (va_up (va_up U n 0) (n + 1) 0) ((n + 1) + 1) 0) n ((va_up (va_up (va_up U n 0) (n + 1) 0) ((n + 1) + 1) 0) n ^^^ 2 ^ i)) (n + 1) ^^^ 2 ^ j)) ((n + 1) + 1) ((va_up (va_up (va_up (va_up (va_up U n 0) (n + 1) 0) ((n + 1) + 1) 0) n ((va_up (va_up (va_up U n 0) (n + 1) 0) ((n + 1) + 1) 0) n ^^^ 2 ^ i)) (n + 1) ((va_up (va_up (va_up (va_up U n 0) (n + 1) 0) ((n + 1) + 1) 0) n ((va_up (va_up (va_up U n 0) (n + 1) 0) ((n + 1) + 1) 0) n ^^^ 2 ^ i)) (n + 1) ^^^ 2 ^ j)) ((n + 1) + 1) ^^^ 2 ^ n)) ((n + 1) + 1) ^^^ 2 ^ (n + 1))) k ((va_up (va_up (va_up (va_up (va_up (va_up (va_up U n 0) (n + 1) 0) ((n + 1) + 1) 0) n ((va_up (va_up (va_up U n 0) (n + 1) 0) ((n + 1) + 1) 0) n ^^^ 2 ^ i)) (n + 1) ((va_up (va_up (va_up (va_up U n 0) (n + 1) 0) ((n + 1) + 1) 0) n ((va_up (va_up (va_up U n 0) (n + 1) 0) ((n + 1) + 1) 0) n ^^^ 2 ^ i)) (n + 1) ^^^ 2 ^ j)) ((n + 1) + 1) ((va_up (va_up (va_up (va_up (va_up U n 0) (n + 1) 0) ((n + 1) + 1) 0) n ((va_up (va_up (va_up U n 0) (n + 1) 0) ((n + 1) + 1) 0) n ^^^ 2 ^ i)) (n + 1) ((va_up (va_up (va_up (va_up U n 0) (n + 1) 0) ((n + 1) + 1) 0) n ((va_up (va_up (va_up U n 0) (n + 1) 0) ((n + 1) + 1) 0) n ^^^ 2 ^ i)) (n + 1) ^^^ 2 ^ j)) ((n + 1) + 1) ^^^ 2 ^ n)) ((n + 1) + 1) ((va_up (va_up (va_up (va_up (va_up (va_up U n 0) (n + 1) 0) ((n + 1) + 1) 0) n ((va_up (va_up (va_up U n 0) (n + 1) 0) ((n + 1) + 1) 0) n ^^^ 2 ^ i)) (n + 1) ((va_up (va_up (va_up (va_up U n 0) (n + 1) 0) ((n + 1) + 1) 0) n ((va_up (va_up (va_up U n 0) (n + 1) 0) ((n + 1) + 1) 0) n ^^^ 2 ^ i)) (n + 1) ^^^ 2 ^ j)) ((n + 1) + 1) ((va_up (va_up (va_up (va_up (va_up U n 0) (n + 1) 0) ((n + 1) + 1) 0) n ((va_up (va_up (va_up U n 0) (n + 1) 0) ((n + 1) + 1) 0) n ^^^ 2 ^ i)) (n + 1) ((va_up (va_up (va_up (va_up U n 0) (n + 1) 0) ((n + 1) + 1) 0) n ((va_up (va_up (va_up U n 0) (n + 1) 0) ((n + 1) + 1) 0) n ^^^ 2 ^ i)) (n + 1) ^^^ 2 ^ j)) ((n + 1) + 1) ^^^ 2 ^ n)) ((n + 1) + 1) ^^^ 2 ^ (n + 1))) k ^^^ 2 ^ ((n + 1) + 1))))))]) [0, 1, 2] (by decide) rfl ?_
          refine g_iload C d_Mo_joint_100 2 rfl ?_
          exact g_iret C hrt hlk () (rfl) rfl d_Mo_joint_102
        · skip
          exact absurd b3 (by omega)

set_option maxHeartbeats 4000000 in
set_option maxRecDepth 100000 in
theorem o_jointBad (l : Launch) (D : va_G) (E : Nat → ClassId) (mo : Nat) (m1 : Nat) (m2 : Nat) (m3 : Nat) (m4 : Nat) (m5 : Nat) (m6 : Nat) (m7 : Nat) (m8 : Nat) (m9 : Nat) (m10 : Nat) (m11 : Nat) (m12 : Nat) (m13 : Nat) (m14 : Nat) (m15 : Nat) (th : Nat) (n : Nat) (kn : Bool) (lg : Bool) (td : Bool) (ld : Nat) (lt : Nat) (gr : Nat) (mv : Nat) (la : Nat) (T : Nat → Nat) (U : Nat → Nat) (x : Int32) (y : Int32) (f : Int32) (hn : n ≤ 12) (hb : (inR x n && inR y n && inR f n && decide (n ≤ 9)) = false) : MI l D E y_Mo_joint (.code y_Mo_joint k_Mo_joint 7 (some .int)) ({ frames := 1, cells := 0, slots := 0, locals := 21 } : Room) [.ref mo, .int x, .int y, .int f] [(mo, .inr (7, [.int (nI th), .int (nI n), .ref m1, .ref m2, .ref m3, .ref m4, .ref m5, .ref m6, .int (bI kn), .int (bI lg), .int (bI td), .int (nI ld), .int (pI lt), .ref m7, .int (nI gr), .int (nI mv), .ref m8, .ref m9, .ref m10, .ref m11, .ref m12, .ref m13, .int (nI la), .ref m14, .ref m15])), (m1, .inl (E 0, 12, .inl (aN T))), (m2, .inl (E 0, 12, .inl (aN U)))] (fun (r : Int32) (_ : Unit) => r = (-1)) (fun _ : Unit => [(mo, .inr (7, [.int (nI 0), .int (nI n), .ref m1, .ref m2, .ref m3, .ref m4, .ref m5, .ref m6, .int (bI kn), .int (bI lg), .int (bI td), .int (nI ld), .int (pI lt), .ref m7, .int (nI gr), .int (nI mv), .ref m8, .ref m9, .ref m10, .ref m11, .ref m12, .ref m13, .int (nI la), .ref m14, .ref m15])), (m1, .inl (E 0, 12, .inl (aN T))), (m2, .inl (E 0, 12, .inl (aN U)))]) := by
  refine MI.of (by decide) (Nat.le_of_ble_eq_true rfl) ?_
  intro p e s m args below meth c A C hrt hlk hnm
  refine g_lv (lv' := [(0, .ref mo), (1, .int x), (2, .int y), (3, .int f)]) rfl ?_
  refine g_aload_n C d_Mo_joint_0 rfl 0 rfl ?_
  refine g_iconst (v := nI 0) C d_Mo_joint_1 (by decide) ?_
  refine g_put (ws' := [(mo, .inr (7, [.int (nI 0), .int (nI n), .ref m1, .ref m2, .ref m3, .ref m4, .ref m5, .ref m6, .int (bI kn), .int (bI lg), .int (bI td), .int (nI ld), .int (pI lt), .ref m7, .int (nI gr), .int (nI mv), .ref m8, .ref m9, .ref m10, .ref m11, .ref m12, .ref m13, .int (nI la), .ref m14, .ref m15])), (m1, .inl (E 0, 12, .inl (aN T))), (m2, .inl (E 0, 12, .inl (aN U)))]) C lay_Mo ty_Mo nm_Mo 0 rfl rfl 0 (by decide) m_634 rfl rfl rfl (Nat.le_of_ble_eq_true rfl) rfl d_Mo_joint_2 ?_
  refine g_aload_n C d_Mo_joint_5 rfl 0 rfl ?_
  refine g_iload_n C d_Mo_joint_6 rfl 1 rfl ?_
  refine g_iV (rest := []) (wr := [(m1, .inl (E 0, 12, .inl (aN T))), (m2, .inl (E 0, 12, .inl (aN U)))]) C (o_isArgument l D E mo m1 m2 m3 m4 m5 m6 m7 m8 m9 m10 m11 m12 m13 m14 m15 0 n kn lg td ld lt gr mv la x ) rd_Mo_isArgument m_731 m_733 m_22 rfl rfl (Nat.le_of_ble_eq_true rfl) (Nat.le_of_ble_eq_true rfl) (Nat.le_of_ble_eq_true rfl) (Nat.le_of_ble_eq_true rfl) rfl rfl (Nat.le_of_ble_eq_true rfl) d_Mo_joint_7 [0] [1, 2] rfl (by decide) rfl (by decide) (by decide) (fun r7 _ (hr7 : r7 = bI (inR x n)) => ?_)
  subst hr7
  refine g_cells (ws' := [(mo, .inr (7, [.int (nI 0), .int (nI n), .ref m1, .ref m2, .ref m3, .ref m4, .ref m5, .ref m6, .int (bI kn), .int (bI lg), .int (bI td), .int (nI ld), .int (pI lt), .ref m7, .int (nI gr), .int (nI mv), .ref m8, .ref m9, .ref m10, .ref m11, .ref m12, .ref m13, .int (nI la), .ref m14, .ref m15])), (m1, .inl (E 0, 12, .inl (aN T))), (m2, .inl (E 0, 12, .inl (aN U)))]) [2, 0, 1] (by decide) rfl ?_
  refine g_if_eqB (tgt := 38) C d_Mo_joint_10 (by decide) (fun b0 => ?_) (fun b0 => ?_)
  · skip
    refine g_iconst (v := (-1)) C d_Mo_joint_38 (by decide) ?_
    exact g_iret C hrt hlk () (rfl) rfl d_Mo_joint_39
  · skip
    refine g_aload_n C d_Mo_joint_13 rfl 0 rfl ?_
    refine g_iload_n C d_Mo_joint_14 rfl 2 rfl ?_
    refine g_iV (rest := []) (wr := [(m1, .inl (E 0, 12, .inl (aN T))), (m2, .inl (E 0, 12, .inl (aN U)))]) C (o_isArgument l D E mo m1 m2 m3 m4 m5 m6 m7 m8 m9 m10 m11 m12 m13 m14 m15 0 n kn lg td ld lt gr mv la y ) rd_Mo_isArgument m_731 m_733 m_22 rfl rfl (Nat.le_of_ble_eq_true rfl) (Nat.le_of_ble_eq_true rfl) (Nat.le_of_ble_eq_true rfl) (Nat.le_of_ble_eq_true rfl) rfl rfl (Nat.le_of_ble_eq_true rfl) d_Mo_joint_15 [0] [1, 2] rfl (by decide) rfl (by decide) (by decide) (fun r15 _ (hr15 : r15 = bI (inR y n)) => ?_)
    subst hr15
    refine g_cells (ws' := [(mo, .inr (7, [.int (nI 0), .int (nI n), .ref m1, .ref m2, .ref m3, .ref m4, .ref m5, .ref m6, .int (bI kn), .int (bI lg), .int (bI td), .int (nI ld), .int (pI lt), .ref m7, .int (nI gr), .int (nI mv), .ref m8, .ref m9, .ref m10, .ref m11, .ref m12, .ref m13, .int (nI la), .ref m14, .ref m15])), (m1, .inl (E 0, 12, .inl (aN T))), (m2, .inl (E 0, 12, .inl (aN U)))]) [2, 0, 1] (by decide) rfl ?_
    refine g_if_eqB (tgt := 38) C d_Mo_joint_18 (by decide) (fun b1 => ?_) (fun b1 => ?_)
    · skip
      refine g_iconst (v := (-1)) C d_Mo_joint_38 (by decide) ?_
      exact g_iret C hrt hlk () (rfl) rfl d_Mo_joint_39
    · skip
      refine g_aload_n C d_Mo_joint_21 rfl 0 rfl ?_
      refine g_iload_n C d_Mo_joint_22 rfl 3 rfl ?_
      refine g_iV (rest := []) (wr := [(m1, .inl (E 0, 12, .inl (aN T))), (m2, .inl (E 0, 12, .inl (aN U)))]) C (o_isArgument l D E mo m1 m2 m3 m4 m5 m6 m7 m8 m9 m10 m11 m12 m13 m14 m15 0 n kn lg td ld lt gr mv la f ) rd_Mo_isArgument m_731 m_733 m_22 rfl rfl (Nat.le_of_ble_eq_true rfl) (Nat.le_of_ble_eq_true rfl) (Nat.le_of_ble_eq_true rfl) (Nat.le_of_ble_eq_true rfl) rfl rfl (Nat.le_of_ble_eq_true rfl) d_Mo_joint_23 [0] [1, 2] rfl (by decide) rfl (by decide) (by decide) (fun r23 _ (hr23 : r23 = bI (inR f n)) => ?_)
      subst hr23
      refine g_cells (ws' := [(mo, .inr (7, [.int (nI 0), .int (nI n), .ref m1, .ref m2, .ref m3, .ref m4, .ref m5, .ref m6, .int (bI kn), .int (bI lg), .int (bI td), .int (nI ld), .int (pI lt), .ref m7, .int (nI gr), .int (nI mv), .ref m8, .ref m9, .ref m10, .ref m11, .ref m12, .ref m13, .int (nI la), .ref m14, .ref m15])), (m1, .inl (E 0, 12, .inl (aN T))), (m2, .inl (E 0, 12, .inl (aN U)))]) [2, 0, 1] (by decide) rfl ?_
      refine g_if_eqB (tgt := 38) C d_Mo_joint_26 (by decide) (fun b2 => ?_) (fun b2 => ?_)
      · skip
        refine g_iconst (v := (-1)) C d_Mo_joint_38 (by decide) ?_
        exact g_iret C hrt hlk () (rfl) rfl d_Mo_joint_39
      · skip
        refine g_aload_n C d_Mo_joint_29 rfl 0 rfl ?_
        refine g_get C lay_Mo 0 rfl rfl 1 (by decide) m_635 rfl d_Mo_joint_30 ?_
        refine g_bipush (v := nI 9) C d_Mo_joint_33 (by decide) ?_
        refine g_icmp_leN (tgt := 40) C (by omega) (by decide) d_Mo_joint_35 (by decide) (fun b3 => ?_) (fun b3 => ?_)
        · skip
          rw [b0, b1, b2] at hb; simp at hb; omega
        · skip
          refine g_iconst (v := (-1)) C d_Mo_joint_38 (by decide) ?_
          exact g_iret C hrt hlk () (rfl) rfl d_Mo_joint_39

set_option maxHeartbeats 4000000 in
set_option maxRecDepth 100000 in
theorem o_support (l : Launch) (D : va_G) (E : Nat → ClassId) (mo : Nat) (m1 : Nat) (m2 : Nat) (m3 : Nat) (m4 : Nat) (m5 : Nat) (m6 : Nat) (m7 : Nat) (m8 : Nat) (m9 : Nat) (m10 : Nat) (m11 : Nat) (m12 : Nat) (m13 : Nat) (m14 : Nat) (m15 : Nat) (th : Nat) (n : Nat) (kn : Bool) (lg : Bool) (td : Bool) (ld : Nat) (lt : Nat) (gr : Nat) (mv : Nat) (la : Nat) (T : Nat → Nat) (U : Nat → Nat) (i : Nat) (j : Nat) (hn : n < 12) (hTn : ∀ a, T a < 2 ^ n) (hUn : ∀ a, U a < 2 ^ n) (hi : i < n) (hj : j < n) : MI l D E y_Mo_support (.code y_Mo_support k_Mo_support 4 (some .int)) ({ frames := 2, cells := 0, slots := 0, locals := 43 } : Room) [.ref mo, .int (nI i), .int (nI j)] [(mo, .inr (7, [.int (nI th), .int (nI n), .ref m1, .ref m2, .ref m3, .ref m4, .ref m5, .ref m6, .int (bI kn), .int (bI lg), .int (bI td), .int (nI ld), .int (pI lt), .ref m7, .int (nI gr), .int (nI mv), .ref m8, .ref m9, .ref m10, .ref m11, .ref m12, .ref m13, .int (nI la), .ref m14, .ref m15])), (m1, .inl (E 0, 12, .inl (aN T))), (m2, .inl (E 0, 12, .inl (aN U)))] (fun (r : Int32) (_ : Unit) => r = nI n) (fun _ : Unit => [(mo, .inr (7, [.int (nI 0), .int (nI (n + 1)), .ref m1, .ref m2, .ref m3, .ref m4, .ref m5, .ref m6, .int (bI false), .int (bI false), .int (bI false), .int (nI ld), .int (pI lt), .ref m7, .int (nI gr), .int (nI mv), .ref m8, .ref m9, .ref m10, .ref m11, .ref m12, .ref m13, .int (nI la), .ref m14, .ref m15])), (m1, .inl (E 0, 12, .inl (aN (va_up (va_up (va_up T n 0) i ((va_up T n 0) i ^^^ 2 ^ n)) n ((va_up (va_up T n 0) i ((va_up T n 0) i ^^^ 2 ^ n)) n ^^^ 2 ^ j))))), (m2, .inl (E 0, 12, .inl (aN (va_up (va_up (va_up U n 0) n ((va_up U n 0) n ^^^ 2 ^ i)) j ((va_up (va_up U n 0) n ((va_up U n 0) n ^^^ 2 ^ i)) j ^^^ 2 ^ n)))))]) := by
  refine MI.of (by decide) (Nat.le_of_ble_eq_true rfl) ?_
  intro p e s m args below meth c A C hrt hlk hnm
  refine g_lv (lv' := [(0, .ref mo), (1, .int (nI i)), (2, .int (nI j))]) rfl ?_
  refine g_aload_n C d_Mo_support_0 rfl 0 rfl ?_
  refine g_iconst (v := nI 0) C d_Mo_support_1 (by decide) ?_
  refine g_put (ws' := [(mo, .inr (7, [.int (nI 0), .int (nI n), .ref m1, .ref m2, .ref m3, .ref m4, .ref m5, .ref m6, .int (bI kn), .int (bI lg), .int (bI td), .int (nI ld), .int (pI lt), .ref m7, .int (nI gr), .int (nI mv), .ref m8, .ref m9, .ref m10, .ref m11, .ref m12, .ref m13, .int (nI la), .ref m14, .ref m15])), (m1, .inl (E 0, 12, .inl (aN T))), (m2, .inl (E 0, 12, .inl (aN U)))]) C lay_Mo ty_Mo nm_Mo 0 rfl rfl 0 (by decide) m_634 rfl rfl rfl (Nat.le_of_ble_eq_true rfl) rfl d_Mo_support_2 ?_
  refine g_aload_n C d_Mo_support_5 rfl 0 rfl ?_
  refine g_iload_n C d_Mo_support_6 rfl 1 rfl ?_
  refine g_iV (rest := []) (wr := [(m1, .inl (E 0, 12, .inl (aN T))), (m2, .inl (E 0, 12, .inl (aN U)))]) C (o_isArgument l D E mo m1 m2 m3 m4 m5 m6 m7 m8 m9 m10 m11 m12 m13 m14 m15 0 n kn lg td ld lt gr mv la (nI i) ) rd_Mo_isArgument m_731 m_733 m_22 rfl rfl (Nat.le_of_ble_eq_true rfl) (Nat.le_of_ble_eq_true rfl) (Nat.le_of_ble_eq_true rfl) (Nat.le_of_ble_eq_true rfl) rfl rfl (Nat.le_of_ble_eq_true rfl) d_Mo_support_7 [0] [1, 2] rfl (by decide) rfl (by decide) (by decide) (fun r7 _ (hr7 : r7 = bI (inR (nI i) n)) => ?_)
  subst hr7
  refine g_cells (ws' := [(mo, .inr (7, [.int (nI 0), .int (nI n), .ref m1, .ref m2, .ref m3, .ref m4, .ref m5, .ref m6, .int (bI kn), .int (bI lg), .int (bI td), .int (nI ld), .int (pI lt), .ref m7, .int (nI gr), .int (nI mv), .ref m8, .ref m9, .ref m10, .ref m11, .ref m12, .ref m13, .int (nI la), .ref m14, .ref m15])), (m1, .inl (E 0, 12, .inl (aN T))), (m2, .inl (E 0, 12, .inl (aN U)))]) [2, 0, 1] (by decide) rfl ?_
  refine g_if_eqB (tgt := 30) C d_Mo_support_10 (by decide) (fun b0 => ?_) (fun b0 => ?_)
  · skip
    rw [inR_nI (by omega) (by omega)] at b0; simp at b0; omega
  · skip
    refine g_aload_n C d_Mo_support_13 rfl 0 rfl ?_
    refine g_iload_n C d_Mo_support_14 rfl 2 rfl ?_
    refine g_iV (rest := []) (wr := [(m1, .inl (E 0, 12, .inl (aN T))), (m2, .inl (E 0, 12, .inl (aN U)))]) C (o_isArgument l D E mo m1 m2 m3 m4 m5 m6 m7 m8 m9 m10 m11 m12 m13 m14 m15 0 n kn lg td ld lt gr mv la (nI j) ) rd_Mo_isArgument m_731 m_733 m_22 rfl rfl (Nat.le_of_ble_eq_true rfl) (Nat.le_of_ble_eq_true rfl) (Nat.le_of_ble_eq_true rfl) (Nat.le_of_ble_eq_true rfl) rfl rfl (Nat.le_of_ble_eq_true rfl) d_Mo_support_15 [0] [1, 2] rfl (by decide) rfl (by decide) (by decide) (fun r15 _ (hr15 : r15 = bI (inR (nI j) n)) => ?_)
    subst hr15
    refine g_cells (ws' := [(mo, .inr (7, [.int (nI 0), .int (nI n), .ref m1, .ref m2, .ref m3, .ref m4, .ref m5, .ref m6, .int (bI kn), .int (bI lg), .int (bI td), .int (nI ld), .int (pI lt), .ref m7, .int (nI gr), .int (nI mv), .ref m8, .ref m9, .ref m10, .ref m11, .ref m12, .ref m13, .int (nI la), .ref m14, .ref m15])), (m1, .inl (E 0, 12, .inl (aN T))), (m2, .inl (E 0, 12, .inl (aN U)))]) [2, 0, 1] (by decide) rfl ?_
    refine g_if_eqB (tgt := 30) C d_Mo_support_18 (by decide) (fun b1 => ?_) (fun b1 => ?_)
    · skip
      rw [inR_nI (by omega) (by omega)] at b1; simp at b1; omega
    · skip
      refine g_aload_n C d_Mo_support_21 rfl 0 rfl ?_
      refine g_get C lay_Mo 0 rfl rfl 1 (by decide) m_635 rfl d_Mo_support_22 ?_
      refine g_bipush (v := nI 12) C d_Mo_support_25 (by decide) ?_
      refine g_icmp_neN (tgt := 32) C (by omega) (by decide) d_Mo_support_27 (by decide) (fun b2 => ?_) (fun b2 => ?_)
      · skip
        refine g_aload_n C d_Mo_support_32 rfl 0 rfl ?_
        refine g_iV (rest := []) (wr := []) C (o_comes l D E mo m1 m2 m3 m4 m5 m6 m7 m8 m9 m10 m11 m12 m13 m14 m15 0 n kn lg td ld lt gr mv la T U (by omega)) rd_Mo_comes m_719 m_721 m_20 rfl rfl (Nat.le_of_ble_eq_true rfl) (Nat.le_of_ble_eq_true rfl) (Nat.le_of_ble_eq_true rfl) (Nat.le_of_ble_eq_true rfl) rfl rfl (Nat.le_of_ble_eq_true rfl) d_Mo_support_33 [0, 1, 2] [] rfl (by decide) rfl (by decide) (by decide) (fun r33 _ (hr33 : r33 = nI n) => ?_)
        subst hr33
        refine g_cells (ws' := [(mo, .inr (7, [.int (nI 0), .int (nI (n + 1)), .ref m1, .ref m2, .ref m3, .ref m4, .ref m5, .ref m6, .int (bI false), .int (bI false), .int (bI false), .int (nI ld), .int (pI lt), .ref m7, .int (nI gr), .int (nI mv), .ref m8, .ref m9, .ref m10, .ref m11, .ref m12, .ref m13, .int (nI la), .ref m14, .ref m15])), (m1, .inl (E 0, 12, .inl (aN (va_up T n 0)))), (m2, .inl (E 0, 12, .inl (aN (va_up U n 0))))]) [0, 1, 2] (by decide) rfl ?_
        refine g_istore_n (lv' := [(3, .int (nI n)), (0, .ref mo), (1, .int (nI i)), (2, .int (nI j))]) C d_Mo_support_36 rfl (by decide) rfl ?_
        refine g_aload_n C d_Mo_support_37 rfl 1 rfl ?_
        refine g_iload_n C d_Mo_support_38 rfl 2 rfl ?_
        refine g_iload_n C d_Mo_support_39 rfl 0 rfl ?_
        refine g_iconst (v := nI 1) C d_Mo_support_40 (by decide) ?_
        refine g_top (show nI 1 = bI true from rfl) ?_
        refine g_vV (rest := []) (wr := []) C (o_sets l D E mo m1 m2 m3 m4 m5 m6 m7 m8 m9 m10 m11 m12 m13 m14 m15 0 (n + 1) false false false ld lt gr mv la (va_up T n 0) (va_up U n 0) i n true (by omega) (by omega) (by omega) (tb_lt (up0_lt hTn _)) (up0_lt (pw_mono (k := 12) hTn (by omega))) (up0_lt (pw_mono (k := 12) hUn (by omega)))) rd_Mo_sets m_735 m_737 m_23 rfl rfl (Nat.le_of_ble_eq_true rfl) (Nat.le_of_ble_eq_true rfl) (Nat.le_of_ble_eq_true rfl) (Nat.le_of_ble_eq_true rfl) rfl rfl (Nat.le_of_ble_eq_true rfl) d_Mo_support_41 [0, 1, 2] [] rfl (by decide) rfl (by decide) (by decide) (fun _ _ => ?_)
        refine g_cells (ws' := [(mo, .inr (7, [.int (nI 0), .int (nI (n + 1)), .ref m1, .ref m2, .ref m3, .ref m4, .ref m5, .ref m6, .int (bI false), .int (bI false), .int (bI false), .int (nI ld), .int (pI lt), .ref m7, .int (nI gr), .int (nI mv), .ref m8, .ref m9, .ref m10, .ref m11, .ref m12, .ref m13, .int (nI la), .ref m14, .ref m15])), (m1, .inl (E 0, 12, .inl (aN (va_up (va_up T n 0) i ((va_up T n 0) i ^^^ 2 ^ n))))), (m2, .inl (E 0, 12, .inl (aN (va_up (va_up U n 0) n ((va_up U n 0) n ^^^ 2 ^ i)))))]) [0, 1, 2] (by decide) rfl ?_
        refine g_aload_n C d_Mo_support_44 rfl 1 rfl ?_
        refine g_iload_n C d_Mo_support_45 rfl 0 rfl ?_
        refine g_iload_n C d_Mo_support_46 rfl 3 rfl ?_
        refine g_iconst (v := nI 1) C d_Mo_support_47 (by decide) ?_
        refine g_top (show nI 1 = bI true from rfl) ?_
        refine g_vV (rest := []) (wr := []) C (o_sets l D E mo m1 m2 m3 m4 m5 m6 m7 m8 m9 m10 m11 m12 m13 m14 m15 0 (n + 1) false false false ld lt gr mv la (va_up (va_up T n 0) i ((va_up T n 0) i ^^^ 2 ^ n)) (va_up (va_up U n 0) n ((va_up U n 0) n ^^^ 2 ^ i)) n j true (by omega) (by omega) (by omega) (by rw [up_ne (by omega), up_at]; exact z_bit _) (upx_lt (m := 12) (up0_lt (pw_mono (k := 12) hTn (by omega))) (by omega)) (upx_lt (m := 12) (up0_lt (pw_mono (k := 12) hUn (by omega))) (by omega))) rd_Mo_sets m_735 m_737 m_23 rfl rfl (Nat.le_of_ble_eq_true rfl) (Nat.le_of_ble_eq_true rfl) (Nat.le_of_ble_eq_true rfl) (Nat.le_of_ble_eq_true rfl) rfl rfl (Nat.le_of_ble_eq_true rfl) d_Mo_support_48 [0, 1, 2] [] rfl (by decide) rfl (by decide) (by decide) (fun _ _ => ?_)
        refine g_cells (ws' := [(mo, .inr (7, [.int (nI 0), .int (nI (n + 1)), .ref m1, .ref m2, .ref m3, .ref m4, .ref m5, .ref m6, .int (bI false), .int (bI false), .int (bI false), .int (nI ld), .int (pI lt), .ref m7, .int (nI gr), .int (nI mv), .ref m8, .ref m9, .ref m10, .ref m11, .ref m12, .ref m13, .int (nI la), .ref m14, .ref m15])), (m1, .inl (E 0, 12, .inl (aN (va_up (va_up (va_up T n 0) i ((va_up T n 0) i ^^^ 2 ^ n)) n ((va_up (va_up T n 0) i ((va_up T n 0) i ^^^ 2 ^ n)) n ^^^ 2 ^ j))))), (m2, .inl (E 0, 12, .inl (aN (va_up (va_up (va_up U n 0) n ((va_up U n 0) n ^^^ 2 ^ i)) j ((va_up (va_up U n 0) n ((va_up U n 0) n ^^^ 2 ^ i)) j ^^^ 2 ^ n)))))]) [0, 1, 2] (by decide) rfl ?_
        refine g_iload_n C d_Mo_support_51 rfl 0 rfl ?_
        exact g_iret C hrt hlk () (rfl) rfl d_Mo_support_52
      · skip
        exact absurd b2 (by omega)

set_option maxHeartbeats 4000000 in
set_option maxRecDepth 100000 in
theorem o_supportBad (l : Launch) (D : va_G) (E : Nat → ClassId) (mo : Nat) (m1 : Nat) (m2 : Nat) (m3 : Nat) (m4 : Nat) (m5 : Nat) (m6 : Nat) (m7 : Nat) (m8 : Nat) (m9 : Nat) (m10 : Nat) (m11 : Nat) (m12 : Nat) (m13 : Nat) (m14 : Nat) (m15 : Nat) (th : Nat) (n : Nat) (kn : Bool) (lg : Bool) (td : Bool) (ld : Nat) (lt : Nat) (gr : Nat) (mv : Nat) (la : Nat) (T : Nat → Nat) (U : Nat → Nat) (x : Int32) (y : Int32) (hn : n ≤ 12) (hb : (inR x n && inR y n && decide (n < 12)) = false) : MI l D E y_Mo_support (.code y_Mo_support k_Mo_support 4 (some .int)) ({ frames := 1, cells := 0, slots := 0, locals := 21 } : Room) [.ref mo, .int x, .int y] [(mo, .inr (7, [.int (nI th), .int (nI n), .ref m1, .ref m2, .ref m3, .ref m4, .ref m5, .ref m6, .int (bI kn), .int (bI lg), .int (bI td), .int (nI ld), .int (pI lt), .ref m7, .int (nI gr), .int (nI mv), .ref m8, .ref m9, .ref m10, .ref m11, .ref m12, .ref m13, .int (nI la), .ref m14, .ref m15])), (m1, .inl (E 0, 12, .inl (aN T))), (m2, .inl (E 0, 12, .inl (aN U)))] (fun (r : Int32) (_ : Unit) => r = (-1)) (fun _ : Unit => [(mo, .inr (7, [.int (nI 0), .int (nI n), .ref m1, .ref m2, .ref m3, .ref m4, .ref m5, .ref m6, .int (bI kn), .int (bI lg), .int (bI td), .int (nI ld), .int (pI lt), .ref m7, .int (nI gr), .int (nI mv), .ref m8, .ref m9, .ref m10, .ref m11, .ref m12, .ref m13, .int (nI la), .ref m14, .ref m15])), (m1, .inl (E 0, 12, .inl (aN T))), (m2, .inl (E 0, 12, .inl (aN U)))]) := by
  refine MI.of (by decide) (Nat.le_of_ble_eq_true rfl) ?_
  intro p e s m args below meth c A C hrt hlk hnm
  refine g_lv (lv' := [(0, .ref mo), (1, .int x), (2, .int y)]) rfl ?_
  refine g_aload_n C d_Mo_support_0 rfl 0 rfl ?_
  refine g_iconst (v := nI 0) C d_Mo_support_1 (by decide) ?_
  refine g_put (ws' := [(mo, .inr (7, [.int (nI 0), .int (nI n), .ref m1, .ref m2, .ref m3, .ref m4, .ref m5, .ref m6, .int (bI kn), .int (bI lg), .int (bI td), .int (nI ld), .int (pI lt), .ref m7, .int (nI gr), .int (nI mv), .ref m8, .ref m9, .ref m10, .ref m11, .ref m12, .ref m13, .int (nI la), .ref m14, .ref m15])), (m1, .inl (E 0, 12, .inl (aN T))), (m2, .inl (E 0, 12, .inl (aN U)))]) C lay_Mo ty_Mo nm_Mo 0 rfl rfl 0 (by decide) m_634 rfl rfl rfl (Nat.le_of_ble_eq_true rfl) rfl d_Mo_support_2 ?_
  refine g_aload_n C d_Mo_support_5 rfl 0 rfl ?_
  refine g_iload_n C d_Mo_support_6 rfl 1 rfl ?_
  refine g_iV (rest := []) (wr := [(m1, .inl (E 0, 12, .inl (aN T))), (m2, .inl (E 0, 12, .inl (aN U)))]) C (o_isArgument l D E mo m1 m2 m3 m4 m5 m6 m7 m8 m9 m10 m11 m12 m13 m14 m15 0 n kn lg td ld lt gr mv la x ) rd_Mo_isArgument m_731 m_733 m_22 rfl rfl (Nat.le_of_ble_eq_true rfl) (Nat.le_of_ble_eq_true rfl) (Nat.le_of_ble_eq_true rfl) (Nat.le_of_ble_eq_true rfl) rfl rfl (Nat.le_of_ble_eq_true rfl) d_Mo_support_7 [0] [1, 2] rfl (by decide) rfl (by decide) (by decide) (fun r7 _ (hr7 : r7 = bI (inR x n)) => ?_)
  subst hr7
  refine g_cells (ws' := [(mo, .inr (7, [.int (nI 0), .int (nI n), .ref m1, .ref m2, .ref m3, .ref m4, .ref m5, .ref m6, .int (bI kn), .int (bI lg), .int (bI td), .int (nI ld), .int (pI lt), .ref m7, .int (nI gr), .int (nI mv), .ref m8, .ref m9, .ref m10, .ref m11, .ref m12, .ref m13, .int (nI la), .ref m14, .ref m15])), (m1, .inl (E 0, 12, .inl (aN T))), (m2, .inl (E 0, 12, .inl (aN U)))]) [2, 0, 1] (by decide) rfl ?_
  refine g_if_eqB (tgt := 30) C d_Mo_support_10 (by decide) (fun b0 => ?_) (fun b0 => ?_)
  · skip
    refine g_iconst (v := (-1)) C d_Mo_support_30 (by decide) ?_
    exact g_iret C hrt hlk () (rfl) rfl d_Mo_support_31
  · skip
    refine g_aload_n C d_Mo_support_13 rfl 0 rfl ?_
    refine g_iload_n C d_Mo_support_14 rfl 2 rfl ?_
    refine g_iV (rest := []) (wr := [(m1, .inl (E 0, 12, .inl (aN T))), (m2, .inl (E 0, 12, .inl (aN U)))]) C (o_isArgument l D E mo m1 m2 m3 m4 m5 m6 m7 m8 m9 m10 m11 m12 m13 m14 m15 0 n kn lg td ld lt gr mv la y ) rd_Mo_isArgument m_731 m_733 m_22 rfl rfl (Nat.le_of_ble_eq_true rfl) (Nat.le_of_ble_eq_true rfl) (Nat.le_of_ble_eq_true rfl) (Nat.le_of_ble_eq_true rfl) rfl rfl (Nat.le_of_ble_eq_true rfl) d_Mo_support_15 [0] [1, 2] rfl (by decide) rfl (by decide) (by decide) (fun r15 _ (hr15 : r15 = bI (inR y n)) => ?_)
    subst hr15
    refine g_cells (ws' := [(mo, .inr (7, [.int (nI 0), .int (nI n), .ref m1, .ref m2, .ref m3, .ref m4, .ref m5, .ref m6, .int (bI kn), .int (bI lg), .int (bI td), .int (nI ld), .int (pI lt), .ref m7, .int (nI gr), .int (nI mv), .ref m8, .ref m9, .ref m10, .ref m11, .ref m12, .ref m13, .int (nI la), .ref m14, .ref m15])), (m1, .inl (E 0, 12, .inl (aN T))), (m2, .inl (E 0, 12, .inl (aN U)))]) [2, 0, 1] (by decide) rfl ?_
    refine g_if_eqB (tgt := 30) C d_Mo_support_18 (by decide) (fun b1 => ?_) (fun b1 => ?_)
    · skip
      refine g_iconst (v := (-1)) C d_Mo_support_30 (by decide) ?_
      exact g_iret C hrt hlk () (rfl) rfl d_Mo_support_31
    · skip
      refine g_aload_n C d_Mo_support_21 rfl 0 rfl ?_
      refine g_get C lay_Mo 0 rfl rfl 1 (by decide) m_635 rfl d_Mo_support_22 ?_
      refine g_bipush (v := nI 12) C d_Mo_support_25 (by decide) ?_
      refine g_icmp_neN (tgt := 32) C (by omega) (by decide) d_Mo_support_27 (by decide) (fun b2 => ?_) (fun b2 => ?_)
      · skip
        rw [b0, b1] at hb; simp at hb; omega
      · skip
        refine g_iconst (v := (-1)) C d_Mo_support_30 (by decide) ?_
        exact g_iret C hrt hlk () (rfl) rfl d_Mo_support_31

set_option maxHeartbeats 4000000 in
set_option maxRecDepth 100000 in
theorem o_numbers (l : Launch) (D : va_G) (E : Nat → ClassId) (mo : Nat) (m1 : Nat) (m2 : Nat) (m3 : Nat) (m4 : Nat) (m5 : Nat) (m6 : Nat) (m7 : Nat) (m8 : Nat) (m9 : Nat) (m10 : Nat) (m11 : Nat) (m12 : Nat) (m13 : Nat) (m14 : Nat) (m15 : Nat) (th : Nat) (n : Nat) (kn : Bool) (lg : Bool) (td : Bool) (ld : Nat) (lt : Nat) (gr : Nat) (mv : Nat) (la : Nat) (T : Nat → Nat) (MX : Nat → Nat) (MC : Nat → Int32) (hn : n ≤ 12) (hT : ∀ a, T a < 4096) (hMX : ∀ a, MX a < 4096) (hok : ∀ k, (mnS (mrX T n MX) n (ovI MC n) k).2 ≠ 2 ^ n - 1 → ∃ a, nxU (mrX T n MX) n (mnS (mrX T n MX) n (ovI MC n) k).2 n = some a ∧ ((frM (mrX T n MX) a n &&& (mrX T n MX) a).testBit a = true ∧ frM (mrX T n MX) a n &&& (mrX T n MX) a < 2 ^ n)) : MI l D E y_Mo_numbers (.code y_Mo_numbers k_Mo_numbers 6 (some .int)) ({ frames := 2, cells := 0, slots := 0, locals := 44 } : Room) [.ref mo] [(mo, .inr (7, [.int (nI th), .int (nI n), .ref m1, .ref m2, .ref m3, .ref m4, .ref m5, .ref m6, .int (bI kn), .int (bI lg), .int (bI td), .int (nI ld), .int (pI lt), .ref m7, .int (nI gr), .int (nI mv), .ref m8, .ref m9, .ref m10, .ref m11, .ref m12, .ref m13, .int (nI la), .ref m14, .ref m15])), (m1, .inl (E 0, 12, .inl (aN T))), (m14, .inl (E 0, 12, .inl (aN MX))), (m15, .inl (E 0, 12, .inl MC))] (fun (r : Int32) (u : (Nat → Int32) × Nat) => match u with | (V, z) => (r = nI z) ∧ (mnS (mrX T n MX) n (ovI MC n) z = (V, 2 ^ n - 1)) ∧ (z ≤ 4096) ∧ (∀ j, j < z → (mnS (mrX T n MX) n (ovI MC n) j).2 ≠ 2 ^ n - 1)) (fun (u : (Nat → Int32) × Nat) => match u with | (V, z) => [(mo, .inr (7, [.int (nI th), .int (nI n), .ref m1, .ref m2, .ref m3, .ref m4, .ref m5, .ref m6, .int (bI kn), .int (bI lg), .int (bI td), .int (nI ld), .int (pI lt), .ref m7, .int (nI gr), .int (nI mv), .ref m8, .ref m9, .ref m10, .ref m11, .ref m12, .ref m13, .int (nI la), .ref m14, .ref m15])), (m1, .inl (E 0, 12, .inl (aN T))), (m14, .inl (E 0, 12, .inl (aN (mrX T n MX)))), (m15, .inl (E 0, 12, .inl V))]) := by
  refine MI.of (by decide) (Nat.le_of_ble_eq_true rfl) ?_
  intro p e s m args below meth c A C hrt hlk hnm
  refine g_lv (lv' := [(0, .ref mo)]) rfl ?_
  refine g_iconst (v := nI 0) C d_Mo_numbers_0 (by decide) ?_
  refine g_istore_n (lv' := [(1, .int (nI 0)), (0, .ref mo)]) C d_Mo_numbers_1 rfl (by decide) rfl ?_
  have loop2 : ∀ (f : Nat) (i : Nat) (Q1 : Nat → Nat) (Q2 : Nat → Int32), (i ≤ n) → (Q1 = ovw MX (mrA T) i) → (Q2 = ovI MC i) → n - i < f → GG p l e ({ frames := 2, cells := 0, slots := 0, locals := 44 } : Room) s m args below meth c (MQ below (va_Qi (fun (r : Int32) (u : (Nat → Int32) × Nat) => match u with | (V, z) => (r = nI z) ∧ (mnS (mrX T n MX) n (ovI MC n) z = (V, 2 ^ n - 1)) ∧ (z ≤ 4096) ∧ (∀ j, j < z → (mnS (mrX T n MX) n (ovI MC n) j).2 ≠ 2 ^ n - 1)) (BC D A (fun (u : (Nat → Int32) × Nat) => match u with | (V, z) => [(mo, .inr (7, [.int (nI th), .int (nI n), .ref m1, .ref m2, .ref m3, .ref m4, .ref m5, .ref m6, .int (bI kn), .int (bI lg), .int (bI td), .int (nI ld), .int (pI lt), .ref m7, .int (nI gr), .int (nI mv), .ref m8, .ref m9, .ref m10, .ref m11, .ref m12, .ref m13, .int (nI la), .ref m14, .ref m15])), (m1, .inl (E 0, 12, .inl (aN T))), (m14, .inl (E 0, 12, .inl (aN (mrX T n MX)))), (m15, .inl (E 0, 12, .inl V))])) A) args s (({ frames := 2, cells := 0, slots := 0, locals := 44 } : Room)).cells (({ frames := 2, cells := 0, slots := 0, locals := 44 } : Room)).slots A) D A 6 0 0 2 [(0, .ref mo), (1, .int (nI i))] [] [(mo, .inr (7, [.int (nI th), .int (nI n), .ref m1, .ref m2, .ref m3, .ref m4, .ref m5, .ref m6, .int (bI kn), .int (bI lg), .int (bI td), .int (nI ld), .int (pI lt), .ref m7, .int (nI gr), .int (nI mv), .ref m8, .ref m9, .ref m10, .ref m11, .ref m12, .ref m13, .int (nI la), .ref m14, .ref m15])), (m1, .inl (E 0, 12, .inl (aN T))), (m14, .inl (E 0, 12, .inl (aN Q1))), (m15, .inl (E 0, 12, .inl Q2))] := by
    intro f
    induction f with
    | zero => intro i Q1 Q2 hi hQ1 hQ2 hf; exact absurd hf (Nat.not_lt_zero _)
    | succ f ih =>
      intro i Q1 Q2 hi hQ1 hQ2 hf
      have ih2 := ih
      refine g_iload_n C d_Mo_numbers_2 rfl 1 rfl ?_
      refine g_aload_n C d_Mo_numbers_3 rfl 0 rfl ?_
      refine g_get C lay_Mo 0 rfl rfl 1 (by decide) m_635 rfl d_Mo_numbers_4 ?_
      refine g_icmp_geN (tgt := 39) C (by omega) (by omega) d_Mo_numbers_7 (by decide) (fun b0 => ?_) (fun b0 => ?_)
      · skip
        refine g_iconst (v := nI 0) C d_Mo_numbers_39 (by decide) ?_
        refine g_istore_n (lv' := [(1, .int (nI 0)), (0, .ref mo)]) C d_Mo_numbers_40 rfl (by decide) rfl ?_
        have loop41 : ∀ (f : Nat) (b : Nat) (V2 : Nat → Nat), (b ≤ n) → (V2 = rcB (ovw MX (mrA T) n) n b) → n - b < f → GG p l e ({ frames := 2, cells := 0, slots := 0, locals := 44 } : Room) s m args below meth c (MQ below (va_Qi (fun (r : Int32) (u : (Nat → Int32) × Nat) => match u with | (V, z) => (r = nI z) ∧ (mnS (mrX T n MX) n (ovI MC n) z = (V, 2 ^ n - 1)) ∧ (z ≤ 4096) ∧ (∀ j, j < z → (mnS (mrX T n MX) n (ovI MC n) j).2 ≠ 2 ^ n - 1)) (BC D A (fun (u : (Nat → Int32) × Nat) => match u with | (V, z) => [(mo, .inr (7, [.int (nI th), .int (nI n), .ref m1, .ref m2, .ref m3, .ref m4, .ref m5, .ref m6, .int (bI kn), .int (bI lg), .int (bI td), .int (nI ld), .int (pI lt), .ref m7, .int (nI gr), .int (nI mv), .ref m8, .ref m9, .ref m10, .ref m11, .ref m12, .ref m13, .int (nI la), .ref m14, .ref m15])), (m1, .inl (E 0, 12, .inl (aN T))), (m14, .inl (E 0, 12, .inl (aN (mrX T n MX)))), (m15, .inl (E 0, 12, .inl V))])) A) args s (({ frames := 2, cells := 0, slots := 0, locals := 44 } : Room)).cells (({ frames := 2, cells := 0, slots := 0, locals := 44 } : Room)).slots A) D A 6 0 0 41 [(0, .ref mo), (1, .int (nI b))] [] [(mo, .inr (7, [.int (nI th), .int (nI n), .ref m1, .ref m2, .ref m3, .ref m4, .ref m5, .ref m6, .int (bI kn), .int (bI lg), .int (bI td), .int (nI ld), .int (pI lt), .ref m7, .int (nI gr), .int (nI mv), .ref m8, .ref m9, .ref m10, .ref m11, .ref m12, .ref m13, .int (nI la), .ref m14, .ref m15])), (m1, .inl (E 0, 12, .inl (aN T))), (m14, .inl (E 0, 12, .inl (aN V2))), (m15, .inl (E 0, 12, .inl Q2))] := by
          intro f
          induction f with
          | zero => intro b V2 hb hV2 hf; exact absurd hf (Nat.not_lt_zero _)
          | succ f ih =>
            intro b V2 hb hV2 hf
            have ih41 := ih
            refine g_iload_n C d_Mo_numbers_41 rfl 1 rfl ?_
            refine g_aload_n C d_Mo_numbers_42 rfl 0 rfl ?_
            refine g_get C lay_Mo 0 rfl rfl 1 (by decide) m_635 rfl d_Mo_numbers_43 ?_
            refine g_icmp_geN (tgt := 113) C (by omega) (by omega) d_Mo_numbers_46 (by decide) (fun b1 => ?_) (fun b1 => ?_)
            · skip
              refine g_ws (ws' := [(mo, .inr (7, [.int (nI th), .int (nI n), .ref m1, .ref m2, .ref m3, .ref m4, .ref m5, .ref m6, .int (bI kn), .int (bI lg), .int (bI td), .int (nI ld), .int (pI lt), .ref m7, .int (nI gr), .int (nI mv), .ref m8, .ref m9, .ref m10, .ref m11, .ref m12, .ref m13, .int (nI la), .ref m14, .ref m15])), (m1, .inl (E 0, 12, .inl (aN T))), (m14, .inl (E 0, 12, .inl (aN (mrX T n MX)))), (m15, .inl (E 0, 12, .inl Q2))]) (by rw [hV2, show b = n by omega]; rfl) ?_
              refine g_iconst (v := nI 0) C d_Mo_numbers_113 (by decide) ?_
              refine g_istore_n (lv' := [(1, .int (nI 0)), (0, .ref mo)]) C d_Mo_numbers_114 rfl (by decide) rfl ?_
              refine g_iconst (v := nI 0) C d_Mo_numbers_115 (by decide) ?_
              refine g_istore_n (lv' := [(2, .int (nI 0)), (1, .int (nI 0)), (0, .ref mo)]) C d_Mo_numbers_116 rfl (by decide) rfl ?_
              have loop117 : ∀ (f : Nat) (k : Nat) (dn : Nat) (V4 : Nat → Int32), (mnS (mrX T n MX) n (ovI MC n) k = (V4, dn)) → (dn < 2 ^ n) → (k ≤ dn) → (∀ j, j < k → (mnS (mrX T n MX) n (ovI MC n) j).2 ≠ 2 ^ n - 1) → 2 ^ n - dn < f → GG p l e ({ frames := 2, cells := 0, slots := 0, locals := 44 } : Room) s m args below meth c (MQ below (va_Qi (fun (r : Int32) (u : (Nat → Int32) × Nat) => match u with | (V, z) => (r = nI z) ∧ (mnS (mrX T n MX) n (ovI MC n) z = (V, 2 ^ n - 1)) ∧ (z ≤ 4096) ∧ (∀ j, j < z → (mnS (mrX T n MX) n (ovI MC n) j).2 ≠ 2 ^ n - 1)) (BC D A (fun (u : (Nat → Int32) × Nat) => match u with | (V, z) => [(mo, .inr (7, [.int (nI th), .int (nI n), .ref m1, .ref m2, .ref m3, .ref m4, .ref m5, .ref m6, .int (bI kn), .int (bI lg), .int (bI td), .int (nI ld), .int (pI lt), .ref m7, .int (nI gr), .int (nI mv), .ref m8, .ref m9, .ref m10, .ref m11, .ref m12, .ref m13, .int (nI la), .ref m14, .ref m15])), (m1, .inl (E 0, 12, .inl (aN T))), (m14, .inl (E 0, 12, .inl (aN (mrX T n MX)))), (m15, .inl (E 0, 12, .inl V))])) A) args s (({ frames := 2, cells := 0, slots := 0, locals := 44 } : Room)).cells (({ frames := 2, cells := 0, slots := 0, locals := 44 } : Room)).slots A) D A 6 0 0 117 [(0, .ref mo), (1, .int (nI k)), (2, .int (nI dn))] [] [(mo, .inr (7, [.int (nI th), .int (nI n), .ref m1, .ref m2, .ref m3, .ref m4, .ref m5, .ref m6, .int (bI kn), .int (bI lg), .int (bI td), .int (nI ld), .int (pI lt), .ref m7, .int (nI gr), .int (nI mv), .ref m8, .ref m9, .ref m10, .ref m11, .ref m12, .ref m13, .int (nI la), .ref m14, .ref m15])), (m1, .inl (E 0, 12, .inl (aN T))), (m14, .inl (E 0, 12, .inl (aN (mrX T n MX)))), (m15, .inl (E 0, 12, .inl V4))] := by
                intro f
                induction f with
                | zero => intro k dn V4 hk hdn hkd hmin hf; exact absurd hf (Nat.not_lt_zero _)
                | succ f ih =>
                  intro k dn V4 hk hdn hkd hmin hf
                  have ih117 := ih
                  refine g_iload_n C d_Mo_numbers_117 rfl 2 rfl ?_
                  refine g_iconst (v := nI 1) C d_Mo_numbers_118 (by decide) ?_
                  refine g_aload_n C d_Mo_numbers_119 rfl 0 rfl ?_
                  refine g_get C lay_Mo 0 rfl rfl 1 (by decide) m_635 rfl d_Mo_numbers_120 ?_
                  refine g_ishl1N C (by omega) d_Mo_numbers_123 ?_
                  refine g_iconst (v := nI 1) C d_Mo_numbers_124 (by decide) ?_
                  refine g_isubN C Nat.one_le_two_pow d_Mo_numbers_125 ?_
                  refine g_icmp_eqN (tgt := 253) C (by have := p12_le hn; omega) (ev_lt hn) d_Mo_numbers_126 (by decide) (fun b4 => ?_) (fun b4 => ?_)
                  · skip
                    refine g_iload_n C d_Mo_numbers_253 rfl 1 rfl ?_
                    exact g_iret C hrt hlk (V4, k) (⟨rfl, by rw [hk, b4], by have := p12_le hn; omega, hmin⟩) rfl d_Mo_numbers_254
                  · skip
                    refine g_iconst (v := (-1)) C d_Mo_numbers_129 (by decide) ?_
                    refine g_istore_n (lv' := [(3, .int (-1)), (0, .ref mo), (1, .int (nI k)), (2, .int (nI dn))]) C d_Mo_numbers_130 rfl (by decide) rfl ?_
                    refine g_aload_n C d_Mo_numbers_131 rfl 1 rfl ?_
                    refine g_get C lay_Mo 0 rfl rfl 1 (by decide) m_635 rfl d_Mo_numbers_132 ?_
                    refine g_iconst (v := nI 1) C d_Mo_numbers_135 (by decide) ?_
                    refine g_isub C d_Mo_numbers_136 ?_
                    refine g_istore (lv' := [(4, .int (pI n)), (3, .int (-1)), (0, .ref mo), (1, .int (nI k)), (2, .int (nI dn))]) C d_Mo_numbers_137 (by decide) rfl ?_
                    have loop139 : ∀ (f : Nat) (e2 : Nat) (o : Option Nat), (e2 ≤ n) → (o = nxU (mrX T n MX) n dn (n - e2)) → e2 < f → GG p l e ({ frames := 2, cells := 0, slots := 0, locals := 44 } : Room) s m args below meth c (MQ below (va_Qi (fun (r : Int32) (u : (Nat → Int32) × Nat) => match u with | (V, z) => (r = nI z) ∧ (mnS (mrX T n MX) n (ovI MC n) z = (V, 2 ^ n - 1)) ∧ (z ≤ 4096) ∧ (∀ j, j < z → (mnS (mrX T n MX) n (ovI MC n) j).2 ≠ 2 ^ n - 1)) (BC D A (fun (u : (Nat → Int32) × Nat) => match u with | (V, z) => [(mo, .inr (7, [.int (nI th), .int (nI n), .ref m1, .ref m2, .ref m3, .ref m4, .ref m5, .ref m6, .int (bI kn), .int (bI lg), .int (bI td), .int (nI ld), .int (pI lt), .ref m7, .int (nI gr), .int (nI mv), .ref m8, .ref m9, .ref m10, .ref m11, .ref m12, .ref m13, .int (nI la), .ref m14, .ref m15])), (m1, .inl (E 0, 12, .inl (aN T))), (m14, .inl (E 0, 12, .inl (aN (mrX T n MX)))), (m15, .inl (E 0, 12, .inl V))])) A) args s (({ frames := 2, cells := 0, slots := 0, locals := 44 } : Room)).cells (({ frames := 2, cells := 0, slots := 0, locals := 44 } : Room)).slots A) D A 6 0 0 139 [(0, .ref mo), (1, .int (nI k)), (2, .int (nI dn)), (3, .int (oI o)), (4, .int (pI e2))] [] [(mo, .inr (7, [.int (nI th), .int (nI n), .ref m1, .ref m2, .ref m3, .ref m4, .ref m5, .ref m6, .int (bI kn), .int (bI lg), .int (bI td), .int (nI ld), .int (pI lt), .ref m7, .int (nI gr), .int (nI mv), .ref m8, .ref m9, .ref m10, .ref m11, .ref m12, .ref m13, .int (nI la), .ref m14, .ref m15])), (m1, .inl (E 0, 12, .inl (aN T))), (m14, .inl (E 0, 12, .inl (aN (mrX T n MX)))), (m15, .inl (E 0, 12, .inl V4))] := by
                      intro f
                      induction f with
                      | zero => intro e2 o he ho hf; exact absurd hf (Nat.not_lt_zero _)
                      | succ f ih =>
                        intro e2 o he ho hf
                        have ih139 := ih
                        refine g_iload C d_Mo_numbers_139 4 rfl ?_
                        refine g_if_ltP (tgt := 188) C (by omega) d_Mo_numbers_141 (by decide) (fun b5 => ?_) (fun z5 b5 => ?_)
                        · skip
                          obtain ⟨ao, hao, hcb, hcl⟩ := hok k (by rw [hk]; exact b4)
                          rw [hk] at hao
                          dsimp only at hao
                          rw [b5, Nat.sub_zero] at ho
                          have hal := (NX_lt (Nat.le_refl n) hao).1
                          have hnb := (NX_lt (Nat.le_refl n) hao).2
                          have hgt := or_gt hnb hcb
                          rw [hao] at ho
                          subst ho
                          have ho := hao.symm
                          refine g_lv (lv' := [(0, .ref mo), (1, .int (nI k)), (2, .int (nI dn)), (3, .int (nI ao)), (4, .int (pI e2))]) rfl ?_
                          refine g_aload_n C d_Mo_numbers_188 rfl 0 rfl ?_
                          refine g_iload_n C d_Mo_numbers_189 rfl 3 rfl ?_
                          refine g_iV (rest := []) (wr := [(m1, .inl (E 0, 12, .inl (aN T))), (m15, .inl (E 0, 12, .inl V4))]) C (o_both l D E mo m1 m2 m3 m4 m5 m6 m7 m8 m9 m10 m11 m12 m13 m14 m15 th n kn lg td ld lt gr mv la (mrX T n MX) ao hn (by omega) (fun a ha => rcB_lt (fun a ha => rx_lt hT hMX ha) n hn a ha)) rd_Mo_both m_866 m_868 m_36 rfl rfl (Nat.le_of_ble_eq_true rfl) (Nat.le_of_ble_eq_true rfl) (Nat.le_of_ble_eq_true rfl) (Nat.le_of_ble_eq_true rfl) rfl rfl (Nat.le_of_ble_eq_true rfl) d_Mo_numbers_190 [0, 2] [1, 3] rfl (by decide) rfl (by decide) (by decide) (fun r190 _ (hr190 : r190 = nI (frM (mrX T n MX) ao n &&& (mrX T n MX) ao)) => ?_)
                          subst hr190
                          refine g_cells (ws' := [(mo, .inr (7, [.int (nI th), .int (nI n), .ref m1, .ref m2, .ref m3, .ref m4, .ref m5, .ref m6, .int (bI kn), .int (bI lg), .int (bI td), .int (nI ld), .int (pI lt), .ref m7, .int (nI gr), .int (nI mv), .ref m8, .ref m9, .ref m10, .ref m11, .ref m12, .ref m13, .int (nI la), .ref m14, .ref m15])), (m1, .inl (E 0, 12, .inl (aN T))), (m14, .inl (E 0, 12, .inl (aN (mrX T n MX)))), (m15, .inl (E 0, 12, .inl V4))]) [2, 0, 3, 1] (by decide) rfl ?_
                          refine g_istore (lv' := [(4, .int (nI (frM (mrX T n MX) ao n &&& (mrX T n MX) ao))), (0, .ref mo), (1, .int (nI k)), (2, .int (nI dn)), (3, .int (nI ao))]) C d_Mo_numbers_193 (by decide) rfl ?_
                          refine g_iconst (v := nI 0) C d_Mo_numbers_195 (by decide) ?_
                          refine g_istore (lv' := [(5, .int (nI 0)), (4, .int (nI (frM (mrX T n MX) ao n &&& (mrX T n MX) ao))), (0, .ref mo), (1, .int (nI k)), (2, .int (nI dn)), (3, .int (nI ao))]) C d_Mo_numbers_196 (by decide) rfl ?_
                          have loop198 : ∀ (f : Nat) (f2 : Nat) (V5 : Nat → Int32), (f2 ≤ n) → (V5 = nrI V4 (frM (mrX T n MX) ao n &&& mrX T n MX ao) k f2) → n - f2 < f → GG p l e ({ frames := 2, cells := 0, slots := 0, locals := 44 } : Room) s m args below meth c (MQ below (va_Qi (fun (r : Int32) (u : (Nat → Int32) × Nat) => match u with | (V, z) => (r = nI z) ∧ (mnS (mrX T n MX) n (ovI MC n) z = (V, 2 ^ n - 1)) ∧ (z ≤ 4096) ∧ (∀ j, j < z → (mnS (mrX T n MX) n (ovI MC n) j).2 ≠ 2 ^ n - 1)) (BC D A (fun (u : (Nat → Int32) × Nat) => match u with | (V, z) => [(mo, .inr (7, [.int (nI th), .int (nI n), .ref m1, .ref m2, .ref m3, .ref m4, .ref m5, .ref m6, .int (bI kn), .int (bI lg), .int (bI td), .int (nI ld), .int (pI lt), .ref m7, .int (nI gr), .int (nI mv), .ref m8, .ref m9, .ref m10, .ref m11, .ref m12, .ref m13, .int (nI la), .ref m14, .ref m15])), (m1, .inl (E 0, 12, .inl (aN T))), (m14, .inl (E 0, 12, .inl (aN (mrX T n MX)))), (m15, .inl (E 0, 12, .inl V))])) A) args s (({ frames := 2, cells := 0, slots := 0, locals := 44 } : Room)).cells (({ frames := 2, cells := 0, slots := 0, locals := 44 } : Room)).slots A) D A 6 0 0 198 [(0, .ref mo), (1, .int (nI k)), (2, .int (nI dn)), (4, .int (nI (frM (mrX T n MX) ao n &&& mrX T n MX ao))), (5, .int (nI f2))] [] [(mo, .inr (7, [.int (nI th), .int (nI n), .ref m1, .ref m2, .ref m3, .ref m4, .ref m5, .ref m6, .int (bI kn), .int (bI lg), .int (bI td), .int (nI ld), .int (pI lt), .ref m7, .int (nI gr), .int (nI mv), .ref m8, .ref m9, .ref m10, .ref m11, .ref m12, .ref m13, .int (nI la), .ref m14, .ref m15])), (m1, .inl (E 0, 12, .inl (aN T))), (m14, .inl (E 0, 12, .inl (aN (mrX T n MX)))), (m15, .inl (E 0, 12, .inl V5))] := by
                            intro f
                            induction f with
                            | zero => intro f2 V5 hf2 hV5 hf; exact absurd hf (Nat.not_lt_zero _)
                            | succ f ih =>
                              intro f2 V5 hf2 hV5 hf
                              have ih198 := ih
                              refine g_iload C d_Mo_numbers_198 4 rfl ?_
                              refine g_aload_n C d_Mo_numbers_200 rfl 0 rfl ?_
                              refine g_get C lay_Mo 0 rfl rfl 1 (by decide) m_635 rfl d_Mo_numbers_201 ?_
                              refine g_icmp_geN (tgt := 242) C (by omega) (by omega) d_Mo_numbers_204 (by decide) (fun b8 => ?_) (fun b8 => ?_)
                              · skip
                                refine g_iload_n C d_Mo_numbers_242 rfl 2 rfl ?_
                                refine g_iload C d_Mo_numbers_243 3 rfl ?_
                                refine g_iorN C d_Mo_numbers_245 ?_
                                refine g_istore_n (lv' := [(2, .int (nI (dn ||| (frM (mrX T n MX) ao n &&& mrX T n MX ao)))), (0, .ref mo), (1, .int (nI k)), (4, .int (nI (frM (mrX T n MX) ao n &&& mrX T n MX ao))), (5, .int (nI f2))]) C d_Mo_numbers_246 rfl (by decide) rfl ?_
                                refine g_iinc (lv' := [(1, .int (nI (k + 1))), (2, .int (nI (dn ||| (frM (mrX T n MX) ao n &&& mrX T n MX ao)))), (0, .ref mo), (4, .int (nI (frM (mrX T n MX) ao n &&& mrX T n MX ao))), (5, .int (nI f2))]) C d_Mo_numbers_247 2 rfl (nI_1 _) (by decide) rfl ?_
                                refine g_goto (tgt := 117) C d_Mo_numbers_250 (by decide) ?_
                                refine g_perm [2, 0, 1] rfl ?_
                                exact ih117 (k + 1) (dn ||| (frM (mrX T n MX) ao n &&& mrX T n MX ao)) V5 (by rw [mnS_s hk ho.symm, hV5, show f2 = n by omega]) (Nat.or_lt_two_pow hdn hcl) (by omega) (fun j hj => (Nat.lt_succ_iff_lt_or_eq.mp hj).elim (hmin j) (fun q => by rw [q, hk]; exact b4)) (by omega)
                              · skip
                                refine g_aload_n C d_Mo_numbers_207 rfl 0 rfl ?_
                                refine g_get C lay_Mo 0 rfl rfl 24 (by decide) m_658 rfl d_Mo_numbers_208 ?_
                                refine g_iload C d_Mo_numbers_211 4 rfl ?_
                                refine g_iload C d_Mo_numbers_213 3 rfl ?_
                                refine g_iload C d_Mo_numbers_215 4 rfl ?_
                                refine g_ishrN C (and_ltl (lt4 (frM_lt (by omega)))) (by omega) d_Mo_numbers_217 ?_
                                refine g_iconst (v := nI 1) C d_Mo_numbers_218 (by decide) ?_
                                refine g_iandB C d_Mo_numbers_219 ?_
                                refine g_iconst (v := nI 1) C d_Mo_numbers_220 (by decide) ?_
                                refine g_top (show nI 1 = bI true from rfl) ?_
                                refine g_icmp_neB (tgt := 228) C d_Mo_numbers_221 (by decide) (fun b9 => ?_) (fun b9 => ?_)
                                · skip
                                  refine g_aload_n C d_Mo_numbers_228 rfl 0 rfl ?_
                                  refine g_get C lay_Mo 0 rfl rfl 24 (by decide) m_658 rfl d_Mo_numbers_229 ?_
                                  refine g_iload C d_Mo_numbers_232 4 rfl ?_
                                  refine g_ialdN C 3 rfl (by omega) (by decide) d_Mo_numbers_234 ?_
                                  refine g_iastN (f' := upd V5 f2 (V5 f2)) (ws' := [(mo, .inr (7, [.int (nI th), .int (nI n), .ref m1, .ref m2, .ref m3, .ref m4, .ref m5, .ref m6, .int (bI kn), .int (bI lg), .int (bI td), .int (nI ld), .int (pI lt), .ref m7, .int (nI gr), .int (nI mv), .ref m8, .ref m9, .ref m10, .ref m11, .ref m12, .ref m13, .int (nI la), .ref m14, .ref m15])), (m1, .inl (E 0, 12, .inl (aN T))), (m14, .inl (E 0, 12, .inl (aN (mrX T n MX)))), (m15, .inl (E 0, 12, .inl (upd V5 f2 (V5 f2))))]) C 3 rfl (by omega) (by decide) rfl rfl d_Mo_numbers_235 ?_
                                  refine g_iinc (lv' := [(5, .int (nI (f2 + 1))), (0, .ref mo), (1, .int (nI k)), (2, .int (nI dn)), (4, .int (nI (frM (mrX T n MX) ao n &&& mrX T n MX ao)))]) C d_Mo_numbers_236 4 rfl (nI_1 _) (by decide) rfl ?_
                                  refine g_goto (tgt := 198) C d_Mo_numbers_239 (by decide) ?_
                                  refine g_perm [1, 2, 3, 4, 0] rfl ?_
                                  exact ih198 (f2 + 1) (upd V5 f2 (V5 f2)) (by omega) (nrI_st hV5 (by first | (rw [if_pos b9]; done) | (rw [if_neg b9]; done))) (by omega)
                                · skip
                                  refine g_iload_n C d_Mo_numbers_224 rfl 1 rfl ?_
                                  refine g_goto (tgt := 235) C d_Mo_numbers_225 (by decide) ?_
                                  refine g_iastN (f' := upd V5 f2 (nI k)) (ws' := [(mo, .inr (7, [.int (nI th), .int (nI n), .ref m1, .ref m2, .ref m3, .ref m4, .ref m5, .ref m6, .int (bI kn), .int (bI lg), .int (bI td), .int (nI ld), .int (pI lt), .ref m7, .int (nI gr), .int (nI mv), .ref m8, .ref m9, .ref m10, .ref m11, .ref m12, .ref m13, .int (nI la), .ref m14, .ref m15])), (m1, .inl (E 0, 12, .inl (aN T))), (m14, .inl (E 0, 12, .inl (aN (mrX T n MX)))), (m15, .inl (E 0, 12, .inl (upd V5 f2 (nI k))))]) C 3 rfl (by omega) (by decide) rfl rfl d_Mo_numbers_235 ?_
                                  refine g_iinc (lv' := [(5, .int (nI (f2 + 1))), (0, .ref mo), (1, .int (nI k)), (2, .int (nI dn)), (4, .int (nI (frM (mrX T n MX) ao n &&& mrX T n MX ao)))]) C d_Mo_numbers_236 4 rfl (nI_1 _) (by decide) rfl ?_
                                  refine g_goto (tgt := 198) C d_Mo_numbers_239 (by decide) ?_
                                  refine g_perm [1, 2, 3, 4, 0] rfl ?_
                                  exact ih198 (f2 + 1) (upd V5 f2 (nI k)) (by omega) (nrI_st hV5 (by first | (rw [if_pos b9]; done) | (rw [if_neg b9]; done))) (by omega)
                          refine g_perm [2, 3, 4, 1, 0] rfl ?_
                          exact loop198 (n - 0 + 1) 0 V4 (Nat.zero_le _) ((nrI_0 _ _ _).symm) (Nat.lt_succ_self _)
                        · skip
                          refine g_lv (lv' := [(0, .ref mo), (1, .int (nI k)), (2, .int (nI dn)), (3, .int (oI o)), (4, .int (nI z5))]) (by rw [b5, pI_s]) ?_
                          refine g_iload_n C d_Mo_numbers_144 rfl 2 rfl ?_
                          refine g_iload C d_Mo_numbers_145 4 rfl ?_
                          refine g_ishrN C (by have := p12_le hn; omega) (by omega) d_Mo_numbers_147 ?_
                          refine g_iconst (v := nI 1) C d_Mo_numbers_148 (by decide) ?_
                          refine g_iandB C d_Mo_numbers_149 ?_
                          refine g_if_neB (tgt := 180) C d_Mo_numbers_150 (by decide) (fun b6 => ?_) (fun b6 => ?_)
                          · skip
                            refine g_iload_n C d_Mo_numbers_180 rfl 3 rfl ?_
                            refine g_istore_n (lv' := [(3, .int (oI o)), (0, .ref mo), (1, .int (nI k)), (2, .int (nI dn)), (4, .int (nI z5))]) C d_Mo_numbers_181 rfl (by decide) rfl ?_
                            refine g_iinc (lv' := [(4, .int (pI z5)), (3, .int (oI o)), (0, .ref mo), (1, .int (nI k)), (2, .int (nI dn))]) C d_Mo_numbers_182 4 rfl (pI_of _) (by decide) rfl ?_
                            refine g_goto (tgt := 139) C d_Mo_numbers_185 (by decide) ?_
                            refine g_perm [2, 3, 4, 1, 0] rfl ?_
                            exact ih139 z5 o (by omega) (by subst b5; first | exact NX_y he (bf_of b6) b7 | exact NX_n ho he (fun q => b7 q.2) | exact NX_n ho he (fun q => by rw [q.1] at b6; exact absurd b6 (by decide))) (by omega)
                          · skip
                            refine g_aload_n C d_Mo_numbers_153 rfl 0 rfl ?_
                            refine g_iload C d_Mo_numbers_154 4 rfl ?_
                            refine g_iV (rest := []) (wr := [(m1, .inl (E 0, 12, .inl (aN T))), (m15, .inl (E 0, 12, .inl V4))]) C (o_from l D E mo m1 m2 m3 m4 m5 m6 m7 m8 m9 m10 m11 m12 m13 m14 m15 th n kn lg td ld lt gr mv la (mrX T n MX) z5 hn (by omega) (fun a ha => rcB_lt (fun a ha => rx_lt hT hMX ha) n hn a ha)) rd_Mo_from m_862 m_864 m_35 rfl rfl (Nat.le_of_ble_eq_true rfl) (Nat.le_of_ble_eq_true rfl) (Nat.le_of_ble_eq_true rfl) (Nat.le_of_ble_eq_true rfl) rfl rfl (Nat.le_of_ble_eq_true rfl) d_Mo_numbers_156 [0, 2] [1, 3] rfl (by decide) rfl (by decide) (by decide) (fun r156 _ (hr156 : r156 = nI (frM (mrX T n MX) z5 n)) => ?_)
                            subst hr156
                            refine g_cells (ws' := [(mo, .inr (7, [.int (nI th), .int (nI n), .ref m1, .ref m2, .ref m3, .ref m4, .ref m5, .ref m6, .int (bI kn), .int (bI lg), .int (bI td), .int (nI ld), .int (pI lt), .ref m7, .int (nI gr), .int (nI mv), .ref m8, .ref m9, .ref m10, .ref m11, .ref m12, .ref m13, .int (nI la), .ref m14, .ref m15])), (m1, .inl (E 0, 12, .inl (aN T))), (m14, .inl (E 0, 12, .inl (aN (mrX T n MX)))), (m15, .inl (E 0, 12, .inl V4))]) [2, 0, 3, 1] (by decide) rfl ?_
                            refine g_iload_n C d_Mo_numbers_159 rfl 2 rfl ?_
                            refine g_iconst (v := (-1)) C d_Mo_numbers_160 (by decide) ?_
                            refine g_ixor C d_Mo_numbers_161 ?_
                            refine g_iandD C d_Mo_numbers_162 ?_
                            refine g_aload_n C d_Mo_numbers_163 rfl 0 rfl ?_
                            refine g_iload C d_Mo_numbers_164 4 rfl ?_
                            refine g_iV (rest := [.int (nI (dif (frM (mrX T n MX) z5 n) dn))]) (wr := [(m1, .inl (E 0, 12, .inl (aN T))), (m15, .inl (E 0, 12, .inl V4))]) C (o_both l D E mo m1 m2 m3 m4 m5 m6 m7 m8 m9 m10 m11 m12 m13 m14 m15 th n kn lg td ld lt gr mv la (mrX T n MX) z5 hn (by omega) (fun a ha => rcB_lt (fun a ha => rx_lt hT hMX ha) n hn a ha)) rd_Mo_both m_866 m_868 m_36 rfl rfl (Nat.le_of_ble_eq_true rfl) (Nat.le_of_ble_eq_true rfl) (Nat.le_of_ble_eq_true rfl) (Nat.le_of_ble_eq_true rfl) rfl rfl (Nat.le_of_ble_eq_true rfl) d_Mo_numbers_166 [0, 2] [1, 3] rfl (by decide) rfl (by decide) (by decide) (fun r166 _ (hr166 : r166 = nI (frM (mrX T n MX) z5 n &&& (mrX T n MX) z5)) => ?_)
                            subst hr166
                            refine g_cells (ws' := [(mo, .inr (7, [.int (nI th), .int (nI n), .ref m1, .ref m2, .ref m3, .ref m4, .ref m5, .ref m6, .int (bI kn), .int (bI lg), .int (bI td), .int (nI ld), .int (pI lt), .ref m7, .int (nI gr), .int (nI mv), .ref m8, .ref m9, .ref m10, .ref m11, .ref m12, .ref m13, .int (nI la), .ref m14, .ref m15])), (m1, .inl (E 0, 12, .inl (aN T))), (m14, .inl (E 0, 12, .inl (aN (mrX T n MX)))), (m15, .inl (E 0, 12, .inl V4))]) [2, 0, 3, 1] (by decide) rfl ?_
                            refine g_iconst (v := (-1)) C d_Mo_numbers_169 (by decide) ?_
                            refine g_ixor C d_Mo_numbers_170 ?_
                            refine g_iandD C d_Mo_numbers_171 ?_
                            refine g_if_neN (tgt := 180) C (dif_lt (dif_lt (lt4 (frM_lt (by omega))))) d_Mo_numbers_172 (by decide) (fun b7 => ?_) (fun b7 => ?_)
                            · skip
                              refine g_iload_n C d_Mo_numbers_180 rfl 3 rfl ?_
                              refine g_istore_n (lv' := [(3, .int (oI o)), (0, .ref mo), (1, .int (nI k)), (2, .int (nI dn)), (4, .int (nI z5))]) C d_Mo_numbers_181 rfl (by decide) rfl ?_
                              refine g_iinc (lv' := [(4, .int (pI z5)), (3, .int (oI o)), (0, .ref mo), (1, .int (nI k)), (2, .int (nI dn))]) C d_Mo_numbers_182 4 rfl (pI_of _) (by decide) rfl ?_
                              refine g_goto (tgt := 139) C d_Mo_numbers_185 (by decide) ?_
                              refine g_perm [2, 3, 4, 1, 0] rfl ?_
                              exact ih139 z5 o (by omega) (by subst b5; first | exact NX_y he (bf_of b6) b7 | exact NX_n ho he (fun q => b7 q.2) | exact NX_n ho he (fun q => by rw [q.1] at b6; exact absurd b6 (by decide))) (by omega)
                            · skip
                              refine g_iload C d_Mo_numbers_175 4 rfl ?_
                              refine g_goto (tgt := 181) C d_Mo_numbers_177 (by decide) ?_
                              refine g_istore_n (lv' := [(3, .int (nI z5)), (0, .ref mo), (1, .int (nI k)), (2, .int (nI dn)), (4, .int (nI z5))]) C d_Mo_numbers_181 rfl (by decide) rfl ?_
                              refine g_iinc (lv' := [(4, .int (pI z5)), (3, .int (nI z5)), (0, .ref mo), (1, .int (nI k)), (2, .int (nI dn))]) C d_Mo_numbers_182 4 rfl (pI_of _) (by decide) rfl ?_
                              refine g_goto (tgt := 139) C d_Mo_numbers_185 (by decide) ?_
                              refine g_lv (lv' := [(4, .int (pI z5)), (3, .int (oI (some z5))), (0, .ref mo), (1, .int (nI k)), (2, .int (nI dn))]) rfl ?_
                              refine g_perm [2, 3, 4, 1, 0] rfl ?_
                              exact ih139 z5 (some z5) (by omega) (by subst b5; first | exact NX_y he (bf_of b6) b7 | exact NX_n ho he (fun q => b7 q.2) | exact NX_n ho he (fun q => by rw [q.1] at b6; exact absurd b6 (by decide))) (by omega)
                    refine g_lv (lv' := [(4, .int (pI n)), (3, .int (oI none)), (0, .ref mo), (1, .int (nI k)), (2, .int (nI dn))]) rfl ?_
                    refine g_perm [2, 3, 4, 1, 0] rfl ?_
                    exact loop139 (n + 1) n none (Nat.le_refl _) (by rw [Nat.sub_self]; rfl) (Nat.lt_succ_self _)
              refine g_perm [2, 1, 0] rfl ?_
              exact loop117 (2 ^ n - 0 + 1) 0 0 Q2 (by rw [hQ2, show i = n by omega]; rfl) (Nat.two_pow_pos n) (Nat.le_refl _) (fun j hj => absurd hj (Nat.not_lt_zero j)) (Nat.lt_succ_self _)
            · skip
              refine g_iconst (v := nI 0) C d_Mo_numbers_49 (by decide) ?_
              refine g_istore_n (lv' := [(2, .int (nI 0)), (0, .ref mo), (1, .int (nI b))]) C d_Mo_numbers_50 rfl (by decide) rfl ?_
              have loop51 : ∀ (f : Nat) (a : Nat) (V3 : Nat → Nat), (a ≤ n) → (V3 = rcU (rcB (ovw MX (mrA T) n) n b) b a) → n - a < f → GG p l e ({ frames := 2, cells := 0, slots := 0, locals := 44 } : Room) s m args below meth c (MQ below (va_Qi (fun (r : Int32) (u : (Nat → Int32) × Nat) => match u with | (V, z) => (r = nI z) ∧ (mnS (mrX T n MX) n (ovI MC n) z = (V, 2 ^ n - 1)) ∧ (z ≤ 4096) ∧ (∀ j, j < z → (mnS (mrX T n MX) n (ovI MC n) j).2 ≠ 2 ^ n - 1)) (BC D A (fun (u : (Nat → Int32) × Nat) => match u with | (V, z) => [(mo, .inr (7, [.int (nI th), .int (nI n), .ref m1, .ref m2, .ref m3, .ref m4, .ref m5, .ref m6, .int (bI kn), .int (bI lg), .int (bI td), .int (nI ld), .int (pI lt), .ref m7, .int (nI gr), .int (nI mv), .ref m8, .ref m9, .ref m10, .ref m11, .ref m12, .ref m13, .int (nI la), .ref m14, .ref m15])), (m1, .inl (E 0, 12, .inl (aN T))), (m14, .inl (E 0, 12, .inl (aN (mrX T n MX)))), (m15, .inl (E 0, 12, .inl V))])) A) args s (({ frames := 2, cells := 0, slots := 0, locals := 44 } : Room)).cells (({ frames := 2, cells := 0, slots := 0, locals := 44 } : Room)).slots A) D A 6 0 0 51 [(0, .ref mo), (1, .int (nI b)), (2, .int (nI a))] [] [(mo, .inr (7, [.int (nI th), .int (nI n), .ref m1, .ref m2, .ref m3, .ref m4, .ref m5, .ref m6, .int (bI kn), .int (bI lg), .int (bI td), .int (nI ld), .int (pI lt), .ref m7, .int (nI gr), .int (nI mv), .ref m8, .ref m9, .ref m10, .ref m11, .ref m12, .ref m13, .int (nI la), .ref m14, .ref m15])), (m1, .inl (E 0, 12, .inl (aN T))), (m14, .inl (E 0, 12, .inl (aN V3))), (m15, .inl (E 0, 12, .inl Q2))] := by
                intro f
                induction f with
                | zero => intro a V3 ha hV3 hf; exact absurd hf (Nat.not_lt_zero _)
                | succ f ih =>
                  intro a V3 ha hV3 hf
                  have ih51 := ih
                  refine g_iload_n C d_Mo_numbers_51 rfl 2 rfl ?_
                  refine g_aload_n C d_Mo_numbers_52 rfl 0 rfl ?_
                  refine g_get C lay_Mo 0 rfl rfl 1 (by decide) m_635 rfl d_Mo_numbers_53 ?_
                  refine g_icmp_geN (tgt := 107) C (by omega) (by omega) d_Mo_numbers_56 (by decide) (fun b2 => ?_) (fun b2 => ?_)
                  · skip
                    refine g_iinc (lv' := [(1, .int (nI (b + 1))), (0, .ref mo), (2, .int (nI a))]) C d_Mo_numbers_107 1 rfl (nI_1 _) (by decide) rfl ?_
                    refine g_goto (tgt := 41) C d_Mo_numbers_110 (by decide) ?_
                    refine g_perm [1, 0] rfl ?_
                    exact ih41 (b + 1) V3 (by omega) (by rw [hV3, show a = n by omega]; rfl) (by omega)
                  · skip
                    refine g_aload_n C d_Mo_numbers_59 rfl 0 rfl ?_
                    refine g_get C lay_Mo 0 rfl rfl 23 (by decide) m_657 rfl d_Mo_numbers_60 ?_
                    refine g_iload_n C d_Mo_numbers_63 rfl 2 rfl ?_
                    refine g_aload_n C d_Mo_numbers_64 rfl 0 rfl ?_
                    refine g_get C lay_Mo 0 rfl rfl 23 (by decide) m_657 rfl d_Mo_numbers_65 ?_
                    refine g_iload_n C d_Mo_numbers_68 rfl 2 rfl ?_
                    refine g_ialdN C 2 rfl (by omega) (by decide) d_Mo_numbers_69 ?_
                    refine g_top (show (aN V3) a = nI (V3 a) from rfl) ?_
                    refine g_iload_n C d_Mo_numbers_70 rfl 1 rfl ?_
                    refine g_ishrN C (by rw [hV3]; exact lt4 (rcU_lt (by omega) (rcB_lt (fun a ha => rx_lt hT hMX ha) _ (by omega)) _ _ (by omega))) (by omega) d_Mo_numbers_71 ?_
                    refine g_iconst (v := nI 1) C d_Mo_numbers_72 (by decide) ?_
                    refine g_iandB C d_Mo_numbers_73 ?_
                    refine g_iconst (v := nI 1) C d_Mo_numbers_74 (by decide) ?_
                    refine g_top (show nI 1 = bI true from rfl) ?_
                    refine g_icmp_neB (tgt := 94) C d_Mo_numbers_75 (by decide) (fun b3 => ?_) (fun b3 => ?_)
                    · skip
                      refine g_aload_n C d_Mo_numbers_94 rfl 0 rfl ?_
                      refine g_get C lay_Mo 0 rfl rfl 23 (by decide) m_657 rfl d_Mo_numbers_95 ?_
                      refine g_iload_n C d_Mo_numbers_98 rfl 2 rfl ?_
                      refine g_ialdN C 2 rfl (by omega) (by decide) d_Mo_numbers_99 ?_
                      refine g_top (show (aN V3) a = nI (V3 a) from rfl) ?_
                      refine g_iastN (f' := aN (va_up V3 a (V3 a))) (ws' := [(mo, .inr (7, [.int (nI th), .int (nI n), .ref m1, .ref m2, .ref m3, .ref m4, .ref m5, .ref m6, .int (bI kn), .int (bI lg), .int (bI td), .int (nI ld), .int (pI lt), .ref m7, .int (nI gr), .int (nI mv), .ref m8, .ref m9, .ref m10, .ref m11, .ref m12, .ref m13, .int (nI la), .ref m14, .ref m15])), (m1, .inl (E 0, 12, .inl (aN T))), (m14, .inl (E 0, 12, .inl (aN (va_up V3 a (V3 a))))), (m15, .inl (E 0, 12, .inl Q2))]) C 2 rfl (by omega) (by decide) (aN_up _ _ _) rfl d_Mo_numbers_100 ?_
                      refine g_iinc (lv' := [(2, .int (nI (a + 1))), (0, .ref mo), (1, .int (nI b))]) C d_Mo_numbers_101 2 rfl (nI_1 _) (by decide) rfl ?_
                      refine g_goto (tgt := 51) C d_Mo_numbers_104 (by decide) ?_
                      refine g_perm [1, 2, 0] rfl ?_
                      exact ih51 (a + 1) (va_up V3 a (V3 a)) (by omega) (rc_st hV3 (by first | (rw [if_pos b3]; done) | (rw [if_neg b3]; done))) (by omega)
                    · skip
                      refine g_aload_n C d_Mo_numbers_78 rfl 0 rfl ?_
                      refine g_get C lay_Mo 0 rfl rfl 23 (by decide) m_657 rfl d_Mo_numbers_79 ?_
                      refine g_iload_n C d_Mo_numbers_82 rfl 2 rfl ?_
                      refine g_ialdN C 2 rfl (by omega) (by decide) d_Mo_numbers_83 ?_
                      refine g_top (show (aN V3) a = nI (V3 a) from rfl) ?_
                      refine g_aload_n C d_Mo_numbers_84 rfl 0 rfl ?_
                      refine g_get C lay_Mo 0 rfl rfl 23 (by decide) m_657 rfl d_Mo_numbers_85 ?_
                      refine g_iload_n C d_Mo_numbers_88 rfl 1 rfl ?_
                      refine g_ialdN C 2 rfl (by omega) (by decide) d_Mo_numbers_89 ?_
                      refine g_top (show (aN V3) b = nI (V3 b) from rfl) ?_
                      refine g_iorN C d_Mo_numbers_90 ?_
                      refine g_goto (tgt := 100) C d_Mo_numbers_91 (by decide) ?_
                      refine g_iastN (f' := aN (va_up V3 a ((V3 a) ||| (V3 b)))) (ws' := [(mo, .inr (7, [.int (nI th), .int (nI n), .ref m1, .ref m2, .ref m3, .ref m4, .ref m5, .ref m6, .int (bI kn), .int (bI lg), .int (bI td), .int (nI ld), .int (pI lt), .ref m7, .int (nI gr), .int (nI mv), .ref m8, .ref m9, .ref m10, .ref m11, .ref m12, .ref m13, .int (nI la), .ref m14, .ref m15])), (m1, .inl (E 0, 12, .inl (aN T))), (m14, .inl (E 0, 12, .inl (aN (va_up V3 a ((V3 a) ||| (V3 b)))))), (m15, .inl (E 0, 12, .inl Q2))]) C 2 rfl (by omega) (by decide) (aN_up _ _ _) rfl d_Mo_numbers_100 ?_
                      refine g_iinc (lv' := [(2, .int (nI (a + 1))), (0, .ref mo), (1, .int (nI b))]) C d_Mo_numbers_101 2 rfl (nI_1 _) (by decide) rfl ?_
                      refine g_goto (tgt := 51) C d_Mo_numbers_104 (by decide) ?_
                      refine g_perm [1, 2, 0] rfl ?_
                      exact ih51 (a + 1) (va_up V3 a ((V3 a) ||| (V3 b))) (by omega) (rc_st hV3 (by first | (rw [if_pos b3]; done) | (rw [if_neg b3]; done))) (by omega)
              refine g_perm [1, 2, 0] rfl ?_
              exact loop51 (n - 0 + 1) 0 V2 (Nat.zero_le _) (hV2) (Nat.lt_succ_self _)
        refine g_perm [1, 0] rfl ?_
        exact loop41 (n - 0 + 1) 0 Q1 (Nat.zero_le _) (by rw [hQ1, show i = n by omega]; rfl) (Nat.lt_succ_self _)
      · skip
        refine g_aload_n C d_Mo_numbers_10 rfl 0 rfl ?_
        refine g_get C lay_Mo 0 rfl rfl 23 (by decide) m_657 rfl d_Mo_numbers_11 ?_
        refine g_iload_n C d_Mo_numbers_14 rfl 1 rfl ?_
        refine g_aload_n C d_Mo_numbers_15 rfl 0 rfl ?_
        refine g_get C lay_Mo 0 rfl rfl 2 (by decide) m_636 rfl d_Mo_numbers_16 ?_
        refine g_iload_n C d_Mo_numbers_19 rfl 1 rfl ?_
        refine g_ialdN C 1 rfl (by omega) (by decide) d_Mo_numbers_20 ?_
        refine g_top (show (aN T) i = nI (T i) from rfl) ?_
        refine g_iconst (v := nI 1) C d_Mo_numbers_21 (by decide) ?_
        refine g_iload_n C d_Mo_numbers_22 rfl 1 rfl ?_
        refine g_ishl1N C (by omega) d_Mo_numbers_23 ?_
        refine g_iorN C d_Mo_numbers_24 ?_
        refine g_iastN (f' := aN (va_up Q1 i ((T i) ||| (2 ^ i)))) (ws' := [(mo, .inr (7, [.int (nI th), .int (nI n), .ref m1, .ref m2, .ref m3, .ref m4, .ref m5, .ref m6, .int (bI kn), .int (bI lg), .int (bI td), .int (nI ld), .int (pI lt), .ref m7, .int (nI gr), .int (nI mv), .ref m8, .ref m9, .ref m10, .ref m11, .ref m12, .ref m13, .int (nI la), .ref m14, .ref m15])), (m1, .inl (E 0, 12, .inl (aN T))), (m14, .inl (E 0, 12, .inl (aN (va_up Q1 i ((T i) ||| (2 ^ i)))))), (m15, .inl (E 0, 12, .inl Q2))]) C 2 rfl (by omega) (by decide) (aN_up _ _ _) rfl d_Mo_numbers_25 ?_
        refine g_aload_n C d_Mo_numbers_26 rfl 0 rfl ?_
        refine g_get C lay_Mo 0 rfl rfl 24 (by decide) m_658 rfl d_Mo_numbers_27 ?_
        refine g_iload_n C d_Mo_numbers_30 rfl 1 rfl ?_
        refine g_iconst (v := (-1)) C d_Mo_numbers_31 (by decide) ?_
        refine g_iastN (f' := upd Q2 i (-1)) (ws' := [(mo, .inr (7, [.int (nI th), .int (nI n), .ref m1, .ref m2, .ref m3, .ref m4, .ref m5, .ref m6, .int (bI kn), .int (bI lg), .int (bI td), .int (nI ld), .int (pI lt), .ref m7, .int (nI gr), .int (nI mv), .ref m8, .ref m9, .ref m10, .ref m11, .ref m12, .ref m13, .int (nI la), .ref m14, .ref m15])), (m1, .inl (E 0, 12, .inl (aN T))), (m14, .inl (E 0, 12, .inl (aN (va_up Q1 i ((T i) ||| (2 ^ i)))))), (m15, .inl (E 0, 12, .inl (upd Q2 i (-1))))]) C 3 rfl (by omega) (by decide) rfl rfl d_Mo_numbers_32 ?_
        refine g_iinc (lv' := [(1, .int (nI (i + 1))), (0, .ref mo)]) C d_Mo_numbers_33 1 rfl (nI_1 _) (by decide) rfl ?_
        refine g_goto (tgt := 2) C d_Mo_numbers_36 (by decide) ?_
        refine g_perm [1, 0] rfl ?_
        exact ih2 (i + 1) (va_up Q1 i ((T i) ||| (2 ^ i))) (upd Q2 i (-1)) (by omega) (by rw [hQ1]; exact ovw_s MX (mrA T) i) (by rw [hQ2]; exact ovI_s MC i) (by omega)
  refine g_perm [1, 0] rfl ?_
  exact loop2 (n - 0 + 1) 0 MX MC (Nat.zero_le _) ((ovw_0 _ _).symm) ((ovI_0 _).symm) (Nat.lt_succ_self _)
