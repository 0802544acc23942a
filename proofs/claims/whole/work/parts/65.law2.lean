/-! The law's loop. Written by gen_law.py. -/
theorem and31 (x : Int32) : ∃ j, j < 32 ∧ x &&& 31 = nI j := by
  have h : ∀ v : BitVec 32, (v &&& 31#32).toNat < 32 := fun v => by
    rw [BitVec.toNat_and]
    exact Nat.lt_of_le_of_lt Nat.and_le_right (by decide)
  refine ⟨(x.toBitVec &&& 31#32).toNat, h _, ?_⟩
  apply Int32.toBitVec_inj.mp
  show x.toBitVec &&& 31#32 = BitVec.ofNat 32 _
  rw [BitVec.ofNat_toNat]
  simp
theorem more {L t : Nat} (hL : L ≤ 2048) (ht : 4 * t ≤ L) (h : ¬ nI L - nI 4 < nI (4 * t)) : 4 * t + 4 ≤ L := by
  by_cases h4 : 4 ≤ L
  · have e : nI L - nI 4 = nI (L - 4) := by
      have e2 : nI L = nI (L - 4) + nI 4 := by rw [nI_add, Nat.sub_add_cancel h4]
      rw [e2]; exact Int32.add_sub_cancel _ _
    rw [e] at h
    have := mt (nI_ltI (a := L - 4) (b := 4 * t) (by omega) (by omega)).mpr h
    omega
  · exfalso
    have ht0 : t = 0 := by omega
    subst ht0
    have hl : L = 0 ∨ L = 1 ∨ L = 2 ∨ L = 3 := by omega
    rcases hl with rfl | rfl | rfl | rfl <;> exact h (by decide +kernel)
section LawLoop
variable {p : Program} {l : Launch} {e : Env} {R : Room} {s : State} {m : MethodId} {args : Array Value} {below : List Frame} {meth : Method} {c : Code} {Q : State → Prop} {D : va_G} {E : Nat → ClassId} {A : Nat → Prop} {cells slots : Nat} {b L t : Nat} {xs : Nat → Int32} {cA cO : Nat → Nat} {ou : Nat} {a : AS} {o : OS} {f : Nat → Int64}
set_option maxHeartbeats 4000000 in
set_option maxRecDepth 100000 in
theorem law_turn (C : CX p s m args c D E A code 7 "AttackBenchLaw") (K : TK A s) (htr : TR l) (hX : va_X b L xs s s.heap) (hbl : b < s.heap.size) (hbA : ¬ A b) (hL : L ≤ 2048) (hRf : 100 ≤ R.frames) (hRl : 2000 ≤ R.locals) (hce : cells + 1 ≤ R.cells) (hsl : slots + 6 ≤ R.slots) (h4 : 4 * t + 4 ≤ L) (hS : SIM a o) (kend : ∀ u u' f', SIM u u' → GG p l e R s m args below meth c Q D A 7 (cells + 1) (slots + 6) 943 (lvL cA cO ou b t) [] (WS E cA cO ou u u' f')) : GG p l e R s m args below meth c Q D A 7 cells slots 32 (lvL cA cO ou b t) [] (WS E cA cO ou a o f) := by
  refine g_aload_n C d_Law_law_32 rfl 0 rfl ?_
  refine g_iload C d_Law_law_33 4 rfl ?_
  refine g_sldN C hX hbl hbA (by omega) (by omega) d_Law_law_35 ?_
  refine g_bipush (v := 31) C d_Law_law_36 (by decide) ?_
  refine g_iand C d_Law_law_38 ?_
  obtain ⟨j, hj, hx⟩ := and31 (xs (4 * t))
  have hc : j = 0 ∨ j = 1 ∨ j = 2 ∨ j = 3 ∨ j = 4 ∨ j = 5 ∨ j = 6 ∨ j = 7 ∨ j = 8 ∨ j = 9 ∨ j = 10 ∨ j = 11 ∨ j = 12 ∨ j = 13 ∨ j = 14 ∨ j = 15 ∨ j = 16 ∨ j = 17 ∨ j = 18 ∨ j = 19 ∨ j = 20 ∨ j = 21 ∨ 22 ≤ j := by omega
  rcases hc with rfl | rfl | rfl | rfl | rfl | rfl | rfl | rfl | rfl | rfl | rfl | rfl | rfl | rfl | rfl | rfl | rfl | rfl | rfl | rfl | rfl | rfl | hge
  · refine g_tsIn (tgt := 140) (off := 101) C 0 (by decide) hx d_Law_law_39 (by decide) (by decide) (by decide) ?_
    exact law_claim C K htr hX hbl hbA hL hRf hRl hce hsl h4 hS kend
  · refine g_tsIn (tgt := 153) (off := 114) C 1 (by decide) hx d_Law_law_39 (by decide) (by decide) (by decide) ?_
    exact law_attack C K htr hX hbl hbA hL hRf hRl hce hsl h4 hS kend
  · refine g_tsIn (tgt := 218) (off := 179) C 2 (by decide) hx d_Law_law_39 (by decide) (by decide) (by decide) ?_
    exact law_attacks C K htr hX hbl hbA hL hRf hRl hce hsl h4 hS kend
  · refine g_tsIn (tgt := 255) (off := 216) C 3 (by decide) hx d_Law_law_39 (by decide) (by decide) (by decide) ?_
    exact law_joint C K htr hX hbl hbA hL hRf hRl hce hsl h4 hS kend
  · refine g_tsIn (tgt := 304) (off := 265) C 4 (by decide) hx d_Law_law_39 (by decide) (by decide) (by decide) ?_
    exact law_support C K htr hX hbl hbA hL hRf hRl hce hsl h4 hS kend
  · refine g_tsIn (tgt := 341) (off := 302) C 5 (by decide) hx d_Law_law_39 (by decide) (by decide) (by decide) ?_
    exact law_arguments C K htr hX hbl hbA hL hRf hRl hce hsl h4 hS kend
  · refine g_tsIn (tgt := 354) (off := 315) C 6 (by decide) hx d_Law_law_39 (by decide) (by decide) (by decide) ?_
    exact law_isFree C K htr hX hbl hbA hL hRf hRl hce hsl h4 hS kend
  · refine g_tsIn (tgt := 379) (off := 340) C 7 (by decide) hx d_Law_law_39 (by decide) (by decide) (by decide) ?_
    exact law_is C K htr hX hbl hbA hL hRf hRl hce hsl h4 hS kend
  · refine g_tsIn (tgt := 416) (off := 377) C 8 (by decide) hx d_Law_law_39 (by decide) (by decide) (by decide) ?_
    exact law_attackedBy C K htr hX hbl hbA hL hRf hRl hce hsl h4 hS kend
  · refine g_tsIn (tgt := 441) (off := 402) C 9 (by decide) hx d_Law_law_39 (by decide) (by decide) (by decide) ?_
    exact law_defendedBy C K htr hX hbl hbA hL hRf hRl hce hsl h4 hS kend
  · refine g_tsIn (tgt := 466) (off := 427) C 10 (by decide) hx d_Law_law_39 (by decide) (by decide) (by decide) ?_
    exact law_grounded C K htr hX hbl hbA hL hRf hRl hce hsl h4 hS kend
  · refine g_tsIn (tgt := 479) (off := 440) C 11 (by decide) hx d_Law_law_39 (by decide) (by decide) (by decide) ?_
    exact law_round C K htr hX hbl hbA hL hRf hRl hce hsl h4 hS kend
  · refine g_tsIn (tgt := 504) (off := 465) C 12 (by decide) hx d_Law_law_39 (by decide) (by decide) (by decide) ?_
    exact law_ideal C K htr hX hbl hbA hL hRf hRl hce hsl h4 hS kend
  · refine g_tsIn (tgt := 517) (off := 478) C 13 (by decide) hx d_Law_law_39 (by decide) (by decide) (by decide) ?_
    exact law_start C K htr hX hbl hbA hL hRf hRl hce hsl h4 hS kend
  · refine g_tsIn (tgt := 553) (off := 514) C 14 (by decide) hx d_Law_law_39 (by decide) (by decide) (by decide) ?_
    exact law_next C K htr hX hbl hbA hL hRf hRl hce hsl h4 hS kend
  · refine g_tsIn (tgt := 597) (off := 558) C 15 (by decide) hx d_Law_law_39 (by decide) (by decide) (by decide) ?_
    exact law_label C K htr hX hbl hbA hL hRf hRl hce hsl h4 hS kend
  · refine g_tsIn (tgt := 653) (off := 614) C 16 (by decide) hx d_Law_law_39 (by decide) (by decide) (by decide) ?_
    exact law_count C K htr hX hbl hbA hL hRf hRl hce hsl h4 hS kend
  · refine g_tsIn (tgt := 709) (off := 670) C 17 (by decide) hx d_Law_law_39 (by decide) (by decide) (by decide) ?_
    exact law_holds C K htr hX hbl hbA hL hRf hRl hce hsl h4 hS kend
  · refine g_tsIn (tgt := 812) (off := 773) C 18 (by decide) hx d_Law_law_39 (by decide) (by decide) (by decide) ?_
    exact law_dialogue C K htr hX hbl hbA hL hRf hRl hce hsl h4 hS kend
  · refine g_tsIn (tgt := 868) (off := 829) C 19 (by decide) hx d_Law_law_39 (by decide) (by decide) (by decide) ?_
    exact law_move C K htr hX hbl hbA hL hRf hRl hce hsl h4 hS kend
  · refine g_tsIn (tgt := 905) (off := 866) C 20 (by decide) hx d_Law_law_39 (by decide) (by decide) (by decide) ?_
    exact law_circle C K htr hX hbl hbA hL hRf hRl hce hsl h4 hS kend
  · refine g_tsIn (tgt := 930) (off := 891) C 21 (by decide) hx d_Law_law_39 (by decide) (by decide) (by decide) ?_
    exact law_circles C K htr hX hbl hbA hL hRf hRl hce hsl h4 hS kend
  · refine g_tsOut (tgt := 943) C d_Law_law_39 (fun j2 hj2 q => ?_) (by decide) ?_
    · rw [hx] at q
      have := (nI_eq (by omega) (by omega)).mp q
      omega
    · exact g_widen (Nat.le_succ _) (Nat.le_add_right _ _) (kend a o f hS)
set_option maxHeartbeats 4000000 in
set_option maxRecDepth 100000 in
theorem law_loop (C : CX p s m args c D E A code 7 "AttackBenchLaw") (K : TK A s) (htr : TR l) (hX : va_X b L xs s s.heap) (hbl : b < s.heap.size) (hbA : ¬ A b) (hL : L ≤ 2048) (hRf : 100 ≤ R.frames) (hRl : 2000 ≤ R.locals) {cE sE : Nat} (hcE : cells + 600 ≤ cE) (hsE : slots + 3600 ≤ sE) (hcR : cE ≤ R.cells) (hsR : sE ≤ R.slots) (hEnd : ∀ ws, GG p l e R s m args below meth c Q D A 7 cE sE 950 [] [.int 1] ws) : ∀ (k t : Nat) (a : AS) (o : OS) (f : Nat → Int64), t + k = 513 → 4 * t ≤ L → SIM a o → GG p l e R s m args below meth c Q D A 7 (cells + t) (slots + 6 * t) 23 (lvL cA cO ou b t) [] (WS E cA cO ou a o f) := by
  intro k
  induction k with
  | zero => intro t a o f h1 h2; omega
  | succ k ih =>
    intro t a o f h1 h2 hS
    refine g_iload C d_Law_law_23 4 rfl ?_
    refine g_aload_n C d_Law_law_25 rfl 0 rfl ?_
    refine g_slen C hX hbl hbA d_Law_law_26 ?_
    refine g_iconst (v := nI 4) C d_Law_law_27 (by decide) ?_
    refine g_isub C d_Law_law_28 ?_
    refine g_icmp_gt (tgt := 949) C d_Law_law_29 (by decide) (fun _ => ?_) (fun hb => ?_)
    · refine g_iconst (v := 1) C d_Law_law_949 (by decide) ?_
      refine g_perm (lv' := []) [] rfl ?_
      exact g_widen (by omega) (by omega) (hEnd _)
    · have h4 := more hL h2 hb
      refine law_turn C K htr hX hbl hbA hL hRf hRl (by omega) (by omega) h4 hS (fun u u' f' hS' => ?_)
      refine g_iincN (a := 4 * t) (b := 4 * (t + 1)) (lv' := [(4, .int (nI (4 * (t + 1)))), (0, .ref b), (1, .ref (cA 0)), (2, .ref (cO 0)), (3, .ref ou)]) C d_Law_law_943 4 rfl (nI_add (4 * t) 4) (by decide) rfl ?_
      refine g_goto (tgt := 23) C d_Law_law_946 (by decide) ?_
      refine g_perm (lv' := lvL cA cO ou b (t + 1)) [1, 2, 3, 4, 0] rfl ?_
      have hh := ih (t + 1) u u' f' (by omega) (by omega) hS'
      rw [show cells + (t + 1) = cells + t + 1 from rfl, show slots + 6 * (t + 1) = slots + 6 * t + 6 by omega] at hh
      exact hh
end LawLoop
