/-! The class's call and the reference's, side by side. Written by gen_pairs.py. -/
theorem wrA_same : ∀ (L : List Mv) (S S' : Nat → Nat) (z i : Nat), (i < z → S i = S' i) → i < z + L.length → wrA L S z i = wrA L S' z i
  | [], S, S', z, i, h, hi => h (by simpa using hi)
  | x :: L, S, S', z, i, h, hi => by
    simp only [wrA]
    refine wrA_same L _ _ (z + 1) i (fun q => ?_) (by rw [List.length_cons] at hi; omega)
    by_cases e : i = z
    · subst e; rw [up_at, up_at]
    · rw [up_ne e, up_ne e]; exact h (by omega)
theorem wrB_same : ∀ (L : List Mv) (S S' : Nat → Int32) (z i : Nat), (i < z → S i = S' i) → i < z + L.length → wrB L S z i = wrB L S' z i
  | [], S, S', z, i, h, hi => h (by simpa using hi)
  | x :: L, S, S', z, i, h, hi => by
    simp only [wrB]
    refine wrB_same L _ _ (z + 1) i (fun q => ?_) (by rw [List.length_cons] at hi; omega)
    by_cases e : i = z
    · subst e; simp [upd]
    · simp only [upd, e, if_false]; exact h (by omega)
theorem wrC_same : ∀ (L : List Mv) (S S' : Nat → Nat) (z i : Nat), (i < z → S i = S' i) → i < z + L.length → wrC L S z i = wrC L S' z i
  | [], S, S', z, i, h, hi => h (by simpa using hi)
  | x :: L, S, S', z, i, h, hi => by
    simp only [wrC]
    refine wrC_same L _ _ (z + 1) i (fun q => ?_) (by rw [List.length_cons] at hi; omega)
    by_cases e : i = z
    · subst e; rw [up_at, up_at]
    · rw [up_ne e, up_ne e]; exact h (by omega)
theorem talk_same {L : List Mv} {Sa Sy S2 S9 : Nat → Nat} {An Ay A2 A9 : Nat → Int32} {Sd Dy D2 D9 : Nat → Nat} {z2 z9 : Nat} (h : dlW L Sa An Sd S2 A2 D2 z2) (h2 : dlW L Sy Ay Dy S9 A9 D9 z9) (hz : z2 ≤ 500) : TLK z2 S2 A2 D2 z9 S9 A9 D9 := by
  by_cases hL : L.length ≤ 500
  · obtain ⟨e1, e2, e3, e4⟩ := h.1 hL
    obtain ⟨f1, f2, f3, f4⟩ := h2.1 hL
    refine ⟨f4.trans e4.symm, hz, fun i hi => ?_⟩
    rw [e4] at hi
    rw [e1, e2, e3, f1, f2, f3]
    exact ⟨wrA_same L _ _ 0 i (fun q => absurd q (Nat.not_lt_zero i)) hi, wrB_same L _ _ 0 i (fun q => absurd q (Nat.not_lt_zero i)) hi, wrC_same L _ _ 0 i (fun q => absurd q (Nat.not_lt_zero i)) hi⟩
  · have e := h.2 (by omega)
    have f := h2.2 (by omega)
    exact ⟨f.trans e.symm, hz, fun i hi => by rw [e] at hi; exact absurd hi (Nat.not_lt_zero i)⟩
section Eqs
variable {n : Nat} {T U TS M HI KD MR : Nat → Nat} {ev gr : Nat}
theorem ideal_eq (h : LRN n T U true TS M ev) (h2 : REC n T U true HI KD MR gr) : joiM KD 4 (metM KD 1 (2 ^ n - 1) (2 ^ n)) (2 ^ n) = joiM M 4 (metM M 1 ev (ev + 1)) (ev + 1) := by
  rw [(h.2.2 rfl).1, ev1, met_eq (M := M) (K := KD) (fun x hx => same_kinds h h2 hx (by decide)), joi_eq (M := M) (K := KD) (fun x hx => same_kinds h h2 hx (by decide))]
theorem count_eq (h : LRN n T U true TS M ev) (h2 : REC n T U true HI KD MR gr) {k : Nat} (hk : k < 5) : cntM KD k (2 ^ n) = cntM M k (ev + 1) := by
  rw [(h.2.2 rfl).1, ev1, cnt_eq (M := M) (K := KD) (fun x hx => same_kinds h h2 hx hk)]
theorem holds_eq (h : LRN n T U true TS M ev) (h2 : REC n T U true HI KD MR gr) {k a : Nat} (all : Bool) (hk : k < 5) (ha : a < n) : (bif all then faM KD k a (2 ^ n) else exM KD k a (2 ^ n)) = (bif all then metM M k ev (ev + 1) else joiM M k (2 ^ n - 1) (ev + 1)).testBit a := by
  rw [(h.2.2 rfl).1, ev1, met_eq (M := M) (K := KD) (fun x hx => same_kinds h h2 hx hk), joi_eq (M := M) (K := KD) (fun x hx => same_kinds h h2 hx hk)]
  cases all
  · exact (joi_bit (2 ^ n) (Nat.le_refl _)).symm
  · exact (met_bit ha (2 ^ n)).symm
theorem next_same (h : LRN n T U true TS M ev) (h2 : REC n T U true HI KD MR gr) {k pl : Nat} (hk : k < 5) : fstM KD k (2 ^ n - pl) pl = fstM M k (ev + 1 - pl) pl := by
  rw [(h.2.2 rfl).1, ev1]
  exact (fst_eq (fun y h1 h3 => same_kinds h h2 (by omega) hk)).symm
end Eqs
def PAIR (l : Launch) (D : va_G) (E : Nat → ClassId) (cA cO : Nat → Nat) (y1 : MethodName) (w1 : Cond) (y2 : MethodName) (w2 : Cond) (as : List Value) (a : AS) (o : OS) : Prop :=
  ∃ QA : Int32 → AS → Prop, MI l D E y1 w1 rmA (.ref (cA 0) :: as) (aC E cA a) QA (aC E cA) ∧ ∀ r u, QA r u → MI l D E y2 w2 rmO (.ref (cO 0) :: as) (oC E cO o) (fun r' u' => r' = r ∧ SIM u u') (oC E cO)
theorem PAIR.of {l : Launch} {D : va_G} {E : Nat → ClassId} {cA cO : Nat → Nat} {y1 : MethodName} {w1 : Cond} {y2 : MethodName} {w2 : Cond} {as : List Value} {a : AS} {o : OS} {QA : Int32 → AS → Prop} {QO : Int32 → OS → Prop} (hA : MI l D E y1 w1 rmA (.ref (cA 0) :: as) (aC E cA a) QA (aC E cA)) (hO : MI l D E y2 w2 rmO (.ref (cO 0) :: as) (oC E cO o) QO (oC E cO)) (h : ∀ r u r' u', QA r u → QO r' u' → r' = r ∧ SIM u u') : PAIR l D E cA cO y1 w1 y2 w2 as a o :=
  ⟨QA, hA, fun r u hq => hO.post (fun r' u' hq' => h r u r' u' hq hq')⟩
theorem P_claim (l : Launch) (D : va_G) (E : Nat → ClassId) (cA cO : Nat → Nat) {a : AS} {o : OS} (h : SIM a o) : PAIR l D E cA cO y_AB_claim (.code y_AB_claim k_AB_claim 2 (some .int)) y_Mo_claim (.code y_Mo_claim k_Mo_claim 1 (some .int)) [] a o := by
  refine h.un (motive := fun a o => PAIR l D E cA cO y_AB_claim (.code y_AB_claim k_AB_claim 2 (some .int)) y_Mo_claim (.code y_Mo_claim k_Mo_claim 1 (some .int)) [] a o) ?_
  clear h
  intro n T U TS M P tc ev kn op ki pl td R al Sa An Sd z tl X Y rz th kn2 lg td2 ld lt gr mv la HI KD HE AV MR Sy Ay Dy Sl Al Dl MX MC hn hC hL hR hS hK hr hX
  have hT := con_T hn hC
  have hU := con_U hn hC
  by_cases h12 : n < 12
  · refine PAIR.of (A_claim l D E cA _ h12) (O_claim l D E cO _ h12) ?_
    rintro r u r' u' ⟨rfl, rfl⟩ ⟨rfl, rfl⟩
    exact ⟨rfl, SIM.mk rfl (up_zero (hC.2.2.1 n (Nat.le_refl n))) (up_zero (hC.2.2.2.1 n (Nat.le_refl n))) (show n + 1 ≤ 12 by omega) (CON_up hC) hL.off hR.off hS.off hK hr hX⟩
  · have h13 : n = 12 := by omega
    refine PAIR.of (A_claimFull l D E cA _ h13) (O_claimFull l D E cO _ h13) ?_
    rintro r u r' u' ⟨rfl, rfl⟩ ⟨rfl, rfl⟩
    exact ⟨rfl, SIM.mk rfl rfl rfl hn hC hL hR hS hK hr hX⟩
theorem P_attack (l : Launch) (D : va_G) (E : Nat → ClassId) (cA cO : Nat → Nat) {a : AS} {o : OS} (h : SIM a o) (x y : Int32) (on : Bool) : PAIR l D E cA cO y_AB_attack (.code y_AB_attack k_AB_attack 4 (some .boolean)) y_Mo_attack (.code y_Mo_attack k_Mo_attack 4 (some .boolean)) [.int x, .int y, .int (bI on)] a o := by
  refine h.un (motive := fun a o => PAIR l D E cA cO y_AB_attack (.code y_AB_attack k_AB_attack 4 (some .boolean)) y_Mo_attack (.code y_Mo_attack k_Mo_attack 4 (some .boolean)) [.int x, .int y, .int (bI on)] a o) ?_
  clear h
  intro n T U TS M P tc ev kn op ki pl td R al Sa An Sd z tl X Y rz th kn2 lg td2 ld lt gr mv la HI KD HE AV MR Sy Ay Dy Sl Al Dl MX MC hn hC hL hR hS hK hr hX
  have hT := con_T hn hC
  have hU := con_U hn hC
  cases hb : (inR x n && inR y n) with
  | false =>
    refine PAIR.of (A_attackBad l D E cA _ x y on hb) (O_attackBad l D E cO _ x y on hb) ?_
    rintro r u r' u' ⟨rfl, rfl⟩ ⟨rfl, rfl⟩
    exact ⟨rfl, SIM.mk rfl rfl rfl hn hC hL hR hS hK hr hX⟩
  | true =>
    simp only [Bool.and_eq_true, decide_eq_true_eq] at hb
    obtain ⟨h1, h2⟩ := hb
    obtain ⟨i, hi, rfl⟩ := inR_of h1
    obtain ⟨j, hj, rfl⟩ := inR_of h2
    by_cases hs : (T i).testBit j = on
    · refine PAIR.of (A_attackSame l D E cA _ i j on hn hT hi hj hs) (O_attackSame l D E cO _ i j on hn hi hj hs hT) ?_
      rintro r u r' u' ⟨rfl, rfl⟩ ⟨rfl, rfl⟩
      exact ⟨rfl, SIM.mk rfl rfl rfl hn hC hL hR hS hK hr hX⟩
    · refine PAIR.of (A_attack l D E cA _ i j on hn hT hU hi hj hs) (O_attack l D E cO _ i j on hn hi hj hs hT hU) ?_
      rintro r u r' u' ⟨rfl, rfl⟩ ⟨rfl, rfl⟩
      exact ⟨rfl, SIM.mk rfl (put_xor hs) (put_xor (by rw [hC.2.2.2.2 i j]; exact hs)) hn (CON_put hC hi hj) hL.off hR.off hS.off hK hr hX⟩
theorem P_attacks (l : Launch) (D : va_G) (E : Nat → ClassId) (cA cO : Nat → Nat) {a : AS} {o : OS} (h : SIM a o) (x y : Int32) : PAIR l D E cA cO y_AB_attacks (.code y_AB_attacks k_AB_attacks 3 (some .boolean)) y_Mo_attacks (.code y_Mo_attacks k_Mo_attacks 3 (some .boolean)) [.int x, .int y] a o := by
  refine h.un (motive := fun a o => PAIR l D E cA cO y_AB_attacks (.code y_AB_attacks k_AB_attacks 3 (some .boolean)) y_Mo_attacks (.code y_Mo_attacks k_Mo_attacks 3 (some .boolean)) [.int x, .int y] a o) ?_
  clear h
  intro n T U TS M P tc ev kn op ki pl td R al Sa An Sd z tl X Y rz th kn2 lg td2 ld lt gr mv la HI KD HE AV MR Sy Ay Dy Sl Al Dl MX MC hn hC hL hR hS hK hr hX
  have hT := con_T hn hC
  have hU := con_U hn hC
  refine PAIR.of (A_attacks l D E cA _ x y hn hT) (O_attacks l D E cO _ x y hn hT) ?_
  rintro r u r' u' ⟨rfl, rfl⟩ ⟨rfl, rfl⟩
  exact ⟨rfl, SIM.mk rfl rfl rfl hn hC hL hR hS hK hr hX⟩
theorem P_joint (l : Launch) (D : va_G) (E : Nat → ClassId) (cA cO : Nat → Nat) {a : AS} {o : OS} (h : SIM a o) (x y f : Int32) : PAIR l D E cA cO y_AB_joint (.code y_AB_joint k_AB_joint 7 (some .int)) y_Mo_joint (.code y_Mo_joint k_Mo_joint 7 (some .int)) [.int x, .int y, .int f] a o := by
  refine h.un (motive := fun a o => PAIR l D E cA cO y_AB_joint (.code y_AB_joint k_AB_joint 7 (some .int)) y_Mo_joint (.code y_Mo_joint k_Mo_joint 7 (some .int)) [.int x, .int y, .int f] a o) ?_
  clear h
  intro n T U TS M P tc ev kn op ki pl td R al Sa An Sd z tl X Y rz th kn2 lg td2 ld lt gr mv la HI KD HE AV MR Sy Ay Dy Sl Al Dl MX MC hn hC hL hR hS hK hr hX
  have hT := con_T hn hC
  have hU := con_U hn hC
  cases hb : (inR x n && inR y n && inR f n && decide (n ≤ 9)) with
  | false =>
    refine PAIR.of (A_jointBad l D E cA _ x y f hn hb) (O_jointBad l D E cO _ x y f hn hb) ?_
    rintro r u r' u' ⟨rfl, rfl⟩ ⟨rfl, rfl⟩
    exact ⟨rfl, SIM.mk rfl rfl rfl hn hC hL hR hS hK hr hX⟩
  | true =>
    simp only [Bool.and_eq_true, decide_eq_true_eq] at hb
    obtain ⟨⟨⟨h1, h2⟩, h3⟩, h9⟩ := hb
    obtain ⟨i, hi, rfl⟩ := inR_of h1
    obtain ⟨j, hj, rfl⟩ := inR_of h2
    obtain ⟨k, hk, rfl⟩ := inR_of h3
    refine PAIR.of (A_joint l D E cA _ i j k h9 hT hU hi hj hk) (O_joint l D E cO _ i j k h9 hC.1 hC.2.1 hi hj hk) ?_
    rintro r u r' u' ⟨rfl, rfl⟩ ⟨rfl, rfl⟩
    exact ⟨rfl, SIM.mk rfl (joint_T hC hi hj hk) (joint_U hC hi hj hk) (show n + 1 + 1 + 1 ≤ 12 by omega) (CON_joint hC hi hj hk) hL.off hR.off hS.off hK hr hX⟩
theorem P_support (l : Launch) (D : va_G) (E : Nat → ClassId) (cA cO : Nat → Nat) {a : AS} {o : OS} (h : SIM a o) (x y : Int32) : PAIR l D E cA cO y_AB_support (.code y_AB_support k_AB_support 4 (some .int)) y_Mo_support (.code y_Mo_support k_Mo_support 4 (some .int)) [.int x, .int y] a o := by
  refine h.un (motive := fun a o => PAIR l D E cA cO y_AB_support (.code y_AB_support k_AB_support 4 (some .int)) y_Mo_support (.code y_Mo_support k_Mo_support 4 (some .int)) [.int x, .int y] a o) ?_
  clear h
  intro n T U TS M P tc ev kn op ki pl td R al Sa An Sd z tl X Y rz th kn2 lg td2 ld lt gr mv la HI KD HE AV MR Sy Ay Dy Sl Al Dl MX MC hn hC hL hR hS hK hr hX
  have hT := con_T hn hC
  have hU := con_U hn hC
  cases hb : (inR x n && inR y n && decide (n < 12)) with
  | false =>
    refine PAIR.of (A_supportBad l D E cA _ x y hn hb) (O_supportBad l D E cO _ x y hn hb) ?_
    rintro r u r' u' ⟨rfl, rfl⟩ ⟨rfl, rfl⟩
    exact ⟨rfl, SIM.mk rfl rfl rfl hn hC hL hR hS hK hr hX⟩
  | true =>
    simp only [Bool.and_eq_true, decide_eq_true_eq] at hb
    obtain ⟨⟨h1, h2⟩, h9⟩ := hb
    obtain ⟨i, hi, rfl⟩ := inR_of h1
    obtain ⟨j, hj, rfl⟩ := inR_of h2
    refine PAIR.of (A_support l D E cA _ i j h9 hT hU hi hj) (O_support l D E cO _ i j h9 hC.1 hC.2.1 hi hj) ?_
    rintro r u r' u' ⟨rfl, rfl⟩ ⟨rfl, rfl⟩
    exact ⟨rfl, SIM.mk rfl (support_T hC hi hj) (support_U hC hi hj) (show n + 1 ≤ 12 by omega) (CON_support hC hi hj) hL.off hR.off hS.off hK hr hX⟩
theorem P_arguments (l : Launch) (D : va_G) (E : Nat → ClassId) (cA cO : Nat → Nat) {a : AS} {o : OS} (h : SIM a o) : PAIR l D E cA cO y_AB_arguments (.code y_AB_arguments k_AB_arguments 1 (some .int)) y_Mo_arguments (.code y_Mo_arguments k_Mo_arguments 1 (some .int)) [] a o := by
  refine h.un (motive := fun a o => PAIR l D E cA cO y_AB_arguments (.code y_AB_arguments k_AB_arguments 1 (some .int)) y_Mo_arguments (.code y_Mo_arguments k_Mo_arguments 1 (some .int)) [] a o) ?_
  clear h
  intro n T U TS M P tc ev kn op ki pl td R al Sa An Sd z tl X Y rz th kn2 lg td2 ld lt gr mv la HI KD HE AV MR Sy Ay Dy Sl Al Dl MX MC hn hC hL hR hS hK hr hX
  have hT := con_T hn hC
  have hU := con_U hn hC
  refine PAIR.of (A_arguments l D E cA _) (O_arguments l D E cO _) ?_
  rintro r u r' u' ⟨rfl, rfl⟩ ⟨rfl, rfl⟩
  exact ⟨rfl, SIM.mk rfl rfl rfl hn hC hL hR hS hK hr hX⟩
theorem P_isFree (l : Launch) (D : va_G) (E : Nat → ClassId) (cA cO : Nat → Nat) {a : AS} {o : OS} (h : SIM a o) (x : Int32) : PAIR l D E cA cO y_AB_isFree (.code y_AB_isFree k_AB_isFree 2 (some .boolean)) y_Mo_isFree (.code y_Mo_isFree k_Mo_isFree 2 (some .boolean)) [.int x] a o := by
  refine h.un (motive := fun a o => PAIR l D E cA cO y_AB_isFree (.code y_AB_isFree k_AB_isFree 2 (some .boolean)) y_Mo_isFree (.code y_Mo_isFree k_Mo_isFree 2 (some .boolean)) [.int x] a o) ?_
  clear h
  intro n T U TS M P tc ev kn op ki pl td R al Sa An Sd z tl X Y rz th kn2 lg td2 ld lt gr mv la HI KD HE AV MR Sy Ay Dy Sl Al Dl MX MC hn hC hL hR hS hK hr hX
  have hT := con_T hn hC
  have hU := con_U hn hC
  have hq := hR.q HE AV hn hC
  have hp := p12_le hn
  cases hb : inR x (2 ^ n) with
  | false =>
    refine PAIR.of (A_isFreeBad l D E cA _ x hn hb) (O_isFreeBad l D E cO _ x hn hT hU hR.1 hR.2.1 hb) ?_
    rintro r u r' u' ⟨rfl, rfl⟩ ⟨rfl, rfl⟩
    exact ⟨rfl, SIM.mk rfl rfl rfl hn hC hL hq hS hK hr hX⟩
  | true =>
    obtain ⟨k, hk, rfl⟩ := inR_of hb
    refine PAIR.of (A_isFree l D E cA _ k hn hT hk) (O_isFree l D E cO _ k hn hT hU hR.1 hR.2.1 hk) ?_
    rintro r u r' u' ⟨rfl, rfl⟩ ⟨rfl, rfl⟩
    exact ⟨congrArg (fun w => bI (w &&& k == 0)) ((hq.2.2.2 rfl).1 k hk), SIM.mk rfl rfl rfl hn hC hL hq hS hK hr hX⟩
theorem P_is (l : Launch) (D : va_G) (E : Nat → ClassId) (cA cO : Nat → Nat) {a : AS} {o : OS} (h : SIM a o) (x y : Int32) : PAIR l D E cA cO y_AB_is (.code y_AB_is k_AB_is 3 (some .boolean)) y_Mo_is (.code y_Mo_is k_Mo_is 3 (some .boolean)) [.int x, .int y] a o := by
  refine h.un (motive := fun a o => PAIR l D E cA cO y_AB_is (.code y_AB_is k_AB_is 3 (some .boolean)) y_Mo_is (.code y_Mo_is k_Mo_is 3 (some .boolean)) [.int x, .int y] a o) ?_
  clear h
  intro n T U TS M P tc ev kn op ki pl td R al Sa An Sd z tl X Y rz th kn2 lg td2 ld lt gr mv la HI KD HE AV MR Sy Ay Dy Sl Al Dl MX MC hn hC hL hR hS hK hr hX
  have hT := con_T hn hC
  have hU := con_U hn hC
  have hq := hR.q HE AV hn hC
  have hl := hL.q P hn hC
  have hp := p12_le hn
  cases hb : (inR x 5 && inR y (2 ^ n)) with
  | false =>
    refine PAIR.of (A_isBad l D E cA _ x y hn hb) (O_isBad l D E cO _ x y hn hb) ?_
    rintro r u r' u' ⟨rfl, rfl⟩ ⟨rfl, rfl⟩
    exact ⟨rfl, SIM.mk rfl rfl rfl hn hC hL hR hS hK hr hX⟩
  | true =>
    simp only [Bool.and_eq_true, decide_eq_true_eq] at hb
    obtain ⟨h1, h2⟩ := hb
    obtain ⟨j, hj, rfl⟩ := inR_of h1
    obtain ⟨k, hk, rfl⟩ := inR_of h2
    refine PAIR.of (A_is l D E cA _ j k hn hT hL.1 hj hk) (O_is l D E cO _ j k hn hT hU hR.1 hR.2.1 hj hk) ?_
    rintro r u r' u' ⟨rfl, rfl⟩ ⟨rfl, rfl⟩
    exact ⟨congrArg bI (same_kinds hl hq hk hj).symm, SIM.mk rfl rfl rfl hn hC hl hq hS hK hr hX⟩
theorem P_attackedBy (l : Launch) (D : va_G) (E : Nat → ClassId) (cA cO : Nat → Nat) {a : AS} {o : OS} (h : SIM a o) (x : Int32) : PAIR l D E cA cO y_AB_attackedBy (.code y_AB_attackedBy k_AB_attackedBy 2 (some .int)) y_Mo_attackedBy (.code y_Mo_attackedBy k_Mo_attackedBy 2 (some .int)) [.int x] a o := by
  refine h.un (motive := fun a o => PAIR l D E cA cO y_AB_attackedBy (.code y_AB_attackedBy k_AB_attackedBy 2 (some .int)) y_Mo_attackedBy (.code y_Mo_attackedBy k_Mo_attackedBy 2 (some .int)) [.int x] a o) ?_
  clear h
  intro n T U TS M P tc ev kn op ki pl td R al Sa An Sd z tl X Y rz th kn2 lg td2 ld lt gr mv la HI KD HE AV MR Sy Ay Dy Sl Al Dl MX MC hn hC hL hR hS hK hr hX
  have hT := con_T hn hC
  have hU := con_U hn hC
  have hq := hR.q HE AV hn hC
  have hp := p12_le hn
  cases hb : inR x (2 ^ n) with
  | false =>
    refine PAIR.of (A_attackedByBad l D E cA _ x hn hb) (O_attackedByBad l D E cO _ x hn hT hU hR.1 hR.2.1 hb) ?_
    rintro r u r' u' ⟨rfl, rfl⟩ ⟨rfl, rfl⟩
    exact ⟨rfl, SIM.mk rfl rfl rfl hn hC hL hq hS hK hr hX⟩
  | true =>
    obtain ⟨k, hk, rfl⟩ := inR_of hb
    refine PAIR.of (A_attackedBy l D E cA _ k hn hT hk) (O_attackedBy l D E cO _ k hn hT hU hR.1 hR.2.1 hk) ?_
    rintro r u r' u' ⟨rfl, rfl⟩ ⟨rfl, rfl⟩
    exact ⟨congrArg nI ((hq.2.2.2 rfl).1 k hk), SIM.mk rfl rfl rfl hn hC hL hq hS hK hr hX⟩
theorem P_defendedBy (l : Launch) (D : va_G) (E : Nat → ClassId) (cA cO : Nat → Nat) {a : AS} {o : OS} (h : SIM a o) (x : Int32) : PAIR l D E cA cO y_AB_defendedBy (.code y_AB_defendedBy k_AB_defendedBy 2 (some .int)) y_Mo_defendedBy (.code y_Mo_defendedBy k_Mo_defendedBy 2 (some .int)) [.int x] a o := by
  refine h.un (motive := fun a o => PAIR l D E cA cO y_AB_defendedBy (.code y_AB_defendedBy k_AB_defendedBy 2 (some .int)) y_Mo_defendedBy (.code y_Mo_defendedBy k_Mo_defendedBy 2 (some .int)) [.int x] a o) ?_
  clear h
  intro n T U TS M P tc ev kn op ki pl td R al Sa An Sd z tl X Y rz th kn2 lg td2 ld lt gr mv la HI KD HE AV MR Sy Ay Dy Sl Al Dl MX MC hn hC hL hR hS hK hr hX
  have hT := con_T hn hC
  have hU := con_U hn hC
  have hq := hR.q HE AV hn hC
  have hp := p12_le hn
  cases hb : inR x (2 ^ n) with
  | false =>
    refine PAIR.of (A_defendedByBad l D E cA _ x hn hb) (O_defendedByBad l D E cO _ x hn hT hU hR.1 hR.2.1 hb) ?_
    rintro r u r' u' ⟨rfl, rfl⟩ ⟨rfl, rfl⟩
    exact ⟨rfl, SIM.mk rfl rfl rfl hn hC hL hq hS hK hr hX⟩
  | true =>
    obtain ⟨k, hk, rfl⟩ := inR_of hb
    refine PAIR.of (A_defendedBy l D E cA _ k hn hT hk) (O_defendedBy l D E cO _ k hn hT hU hR.1 hR.2.1 hk) ?_
    rintro r u r' u' ⟨rfl, rfl⟩ ⟨rfl, rfl⟩
    exact ⟨congrArg nI ((congrArg (fun w => dfM U w n) ((hq.2.2.2 rfl).1 k hk)).trans (dfd_dfM hC k)), SIM.mk rfl rfl rfl hn hC hL hq hS hK hr hX⟩
theorem P_grounded (l : Launch) (D : va_G) (E : Nat → ClassId) (cA cO : Nat → Nat) {a : AS} {o : OS} (h : SIM a o) : PAIR l D E cA cO y_AB_grounded (.code y_AB_grounded k_AB_grounded 1 (some .int)) y_Mo_grounded (.code y_Mo_grounded k_Mo_grounded 1 (some .int)) [] a o := by
  refine h.un (motive := fun a o => PAIR l D E cA cO y_AB_grounded (.code y_AB_grounded k_AB_grounded 1 (some .int)) y_Mo_grounded (.code y_Mo_grounded k_Mo_grounded 1 (some .int)) [] a o) ?_
  clear h
  intro n T U TS M P tc ev kn op ki pl td R al Sa An Sd z tl X Y rz th kn2 lg td2 ld lt gr mv la HI KD HE AV MR Sy Ay Dy Sl Al Dl MX MC hn hC hL hR hS hK hr hX
  have hT := con_T hn hC
  have hU := con_U hn hC
  have hq := hR.q HE AV hn hC
  refine PAIR.of (A_grounded l D E cA _ hn hT) (O_grounded l D E cO _ hn hT hU hR.1 hR.2.1) ?_
  rintro r u r' u' ⟨rfl, rfl⟩ ⟨rfl, rfl⟩
  exact ⟨congrArg nI ((hq.2.2.2 rfl).2.2.1.trans (gd_12 hn).symm), SIM.mk rfl rfl rfl hn hC hL hq hS hK (gdR_b hr 12 (Nat.le_refl _)) hX⟩
theorem P_round (l : Launch) (D : va_G) (E : Nat → ClassId) (cA cO : Nat → Nat) {a : AS} {o : OS} (h : SIM a o) (x : Int32) : PAIR l D E cA cO y_AB_round (.code y_AB_round k_AB_round 2 (some .int)) y_Mo_round (.code y_Mo_round k_Mo_round 2 (some .int)) [.int x] a o := by
  refine h.un (motive := fun a o => PAIR l D E cA cO y_AB_round (.code y_AB_round k_AB_round 2 (some .int)) y_Mo_round (.code y_Mo_round k_Mo_round 2 (some .int)) [.int x] a o) ?_
  clear h
  intro n T U TS M P tc ev kn op ki pl td R al Sa An Sd z tl X Y rz th kn2 lg td2 ld lt gr mv la HI KD HE AV MR Sy Ay Dy Sl Al Dl MX MC hn hC hL hR hS hK hr hX
  have hT := con_T hn hC
  have hU := con_U hn hC
  have hq := hR.q HE AV hn hC
  cases hb : inR x n with
  | false =>
    refine PAIR.of (A_roundBad l D E cA _ x hb) (O_roundBad l D E cO _ x hn hT hU hR.1 hR.2.1 hb) ?_
    rintro r u r' u' ⟨rfl, rfl⟩ ⟨rfl, rfl⟩
    exact ⟨rfl, SIM.mk rfl rfl rfl hn hC hL hq hS hK hr hX⟩
  | true =>
    obtain ⟨i, hi, rfl⟩ := inR_of hb
    refine PAIR.of (A_round l D E cA _ i hn hT hi) (O_round l D E cO _ i hn hT hU hR.1 hR.2.1 hi) ?_
    rintro r u r' u' ⟨rfl, rfl⟩ ⟨rfl, rfl⟩
    exact ⟨congrArg nI (RND_one ((hq.2.2.2 rfl).2.2.2 i hi) (gdR_RND (by omega) hn)), SIM.mk rfl rfl rfl hn hC hL hq hS hK (gdR_b hr 12 (Nat.le_refl _)) hX⟩
theorem P_ideal (l : Launch) (D : va_G) (E : Nat → ClassId) (cA cO : Nat → Nat) {a : AS} {o : OS} (h : SIM a o) : PAIR l D E cA cO y_AB_ideal (.code y_AB_ideal k_AB_ideal 1 (some .int)) y_Mo_ideal (.code y_Mo_ideal k_Mo_ideal 4 (some .int)) [] a o := by
  refine h.un (motive := fun a o => PAIR l D E cA cO y_AB_ideal (.code y_AB_ideal k_AB_ideal 1 (some .int)) y_Mo_ideal (.code y_Mo_ideal k_Mo_ideal 4 (some .int)) [] a o) ?_
  clear h
  intro n T U TS M P tc ev kn op ki pl td R al Sa An Sd z tl X Y rz th kn2 lg td2 ld lt gr mv la HI KD HE AV MR Sy Ay Dy Sl Al Dl MX MC hn hC hL hR hS hK hr hX
  have hT := con_T hn hC
  have hU := con_U hn hC
  have hq := hR.q HE AV hn hC
  have hl := hL.q P hn hC
  refine PAIR.of (A_ideal l D E cA _ hn hT hL.1 hL.2.1) (O_ideal l D E cO _ hn hT hU hR.1 hR.2.1) ?_
  rintro r u r' u' ⟨rfl, rfl⟩ ⟨rfl, rfl⟩
  exact ⟨congrArg nI (ideal_eq hl hq), SIM.mk rfl rfl rfl hn hC hl hq hS hK hr hX⟩
theorem P_move (l : Launch) (D : va_G) (E : Nat → ClassId) (cA cO : Nat → Nat) {a : AS} {o : OS} (h : SIM a o) (x y : Int32) : PAIR l D E cA cO y_AB_move (.code y_AB_move k_AB_move 3 (some .int)) y_Mo_move (.code y_Mo_move k_Mo_move 3 (some .int)) [.int x, .int y] a o := by
  refine h.un (motive := fun a o => PAIR l D E cA cO y_AB_move (.code y_AB_move k_AB_move 3 (some .int)) y_Mo_move (.code y_Mo_move k_Mo_move 3 (some .int)) [.int x, .int y] a o) ?_
  clear h
  intro n T U TS M P tc ev kn op ki pl td R al Sa An Sd z tl X Y rz th kn2 lg td2 ld lt gr mv la HI KD HE AV MR Sy Ay Dy Sl Al Dl MX MC hn hC hL hR hS hK hr hX
  have hT := con_T hn hC
  have hU := con_U hn hC
  refine PAIR.of (A_move l D E cA _ x y hK.2.1) (O_move l D E cO _ x y (by show mv ≤ 500; rw [hK.1]; exact hK.2.1)) ?_
  rintro r u r' u' ⟨rfl, rfl⟩ ⟨rfl, rfl⟩
  exact ⟨(by show tellF mv Sy Ay Dy x y = tellF z Sa An Sd x y; rw [hK.1]; exact (tell_eq (by have := hK.2.1; omega) hK.2.2 x y).symm), SIM.mk rfl rfl rfl hn hC hL hR hS hK hr hX⟩
theorem P_circle (l : Launch) (D : va_G) (E : Nat → ClassId) (cA cO : Nat → Nat) {a : AS} {o : OS} (h : SIM a o) (x : Int32) : PAIR l D E cA cO y_AB_circle (.code y_AB_circle k_AB_circle 2 (some .int)) y_Mo_circle (.code y_Mo_circle k_Mo_circle 3 (some .int)) [.int x] a o := by
  refine h.un (motive := fun a o => PAIR l D E cA cO y_AB_circle (.code y_AB_circle k_AB_circle 2 (some .int)) y_Mo_circle (.code y_Mo_circle k_Mo_circle 3 (some .int)) [.int x] a o) ?_
  clear h
  intro n T U TS M P tc ev kn op ki pl td R al Sa An Sd z tl X Y rz th kn2 lg td2 ld lt gr mv la HI KD HE AV MR Sy Ay Dy Sl Al Dl MX MC hn hC hL hR hS hK hr hX
  have hT := con_T hn hC
  have hU := con_U hn hC
  cases hb : inR x n with
  | false =>
    refine PAIR.of (A_circleBad l D E cA _ x hb) (O_circleBad l D E cO _ x hn hT hX (hok_ok hC.1 (ovI MC n)) hb) ?_
    rintro r u r' u' ⟨rfl, rfl⟩ ⟨V, z9, ⟨rfl, hm, hz9, hmin⟩, rfl⟩
    exact ⟨rfl, SIM.mk rfl rfl rfl hn hC hL hR hS hK hr (mrX_b hn hC.1 hX)⟩
  | true =>
    obtain ⟨i, hi, rfl⟩ := inR_of hb
    refine PAIR.of (A_circle l D E cA _ i hn hT hU hi) (O_circle l D E cO _ i hn hT hX (hok_ok hC.1 (ovI MC n)) hi) ?_
    rintro r u r' u' ⟨rfl, rfl⟩ ⟨V, z9, ⟨rfl, hm, hz9, hmin⟩, rfl⟩
    exact ⟨(rings_eq hn hC hm hmin).2 i hi, SIM.mk rfl rfl rfl hn hC hL hR hS hK hr (mrX_b hn hC.1 hX)⟩
theorem P_circles (l : Launch) (D : va_G) (E : Nat → ClassId) (cA cO : Nat → Nat) {a : AS} {o : OS} (h : SIM a o) : PAIR l D E cA cO y_AB_circles (.code y_AB_circles k_AB_circles 1 (some .int)) y_Mo_circles (.code y_Mo_circles k_Mo_circles 1 (some .int)) [] a o := by
  refine h.un (motive := fun a o => PAIR l D E cA cO y_AB_circles (.code y_AB_circles k_AB_circles 1 (some .int)) y_Mo_circles (.code y_Mo_circles k_Mo_circles 1 (some .int)) [] a o) ?_
  clear h
  intro n T U TS M P tc ev kn op ki pl td R al Sa An Sd z tl X Y rz th kn2 lg td2 ld lt gr mv la HI KD HE AV MR Sy Ay Dy Sl Al Dl MX MC hn hC hL hR hS hK hr hX
  have hT := con_T hn hC
  have hU := con_U hn hC
  refine PAIR.of (A_circles l D E cA _ hn hT hU) (O_circles l D E cO _ hn hT hX (hok_ok hC.1 (ovI MC n))) ?_
  rintro r u r' u' ⟨rfl, rfl⟩ ⟨V, z9, ⟨rfl, hm, hz9, hmin⟩, rfl⟩
  exact ⟨congrArg nI (rings_eq hn hC hm hmin).1, SIM.mk rfl rfl rfl hn hC hL hR hS hK hr (mrX_b hn hC.1 hX)⟩
