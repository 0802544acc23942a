section Rows3
variable {p : Program} {l : Launch} {e : Env} {R : Room} {s : State} {m : MethodId} {args : Array Value} {below : List Frame} {meth : Method} {c : Code} {Q : State → Prop} {D : va_G} {E : Nat → ClassId} {A : Nat → Prop} {cc : ByteArray} {own : String} {nL cells slots pc : Nat} {lv lv' : List (Nat × Value)} {st : List Value} {ws ws' : va_W}
theorem nI_nm1 {j : Nat} (h : j < 2 ^ 31) : ¬ nI j = -1 := fun q => absurd (show nI j < 0 by rw [q]; decide) (nI_pos h)
theorem oI_no {o : Option Nat} (ho : ∀ j, o = some j → j < 2 ^ 31) (h : oI o = -1) : o = none := by
  cases o with
  | none => rfl
  | some j => exact absurd h (nI_nm1 (ho j rfl))
theorem oI_so {o : Option Nat} (h : ¬ oI o = -1) : ∃ j, o = some j := by
  cases o with
  | none => exact absurd rfl h
  | some j => exact ⟨j, rfl⟩
theorem g_icmp_eqO (C : CX p s m args c D E A cc nL own) {o : Option Nat} (ho : ∀ j, o = some j → j < 2 ^ 31) {off : Int} {tgt : Nat} (d : decode cc pc = .ok (.if_icmp .eq off, 3)) (ht : (pc : Int) + off = (tgt : Int)) (kt : o = none → GG p l e R s m args below meth c Q D A nL cells slots tgt lv st ws) (kf : ∀ j, o = some j → GG p l e R s m args below meth c Q D A nL cells slots (pc + 3) lv st ws) : GG p l e R s m args below meth c Q D A nL cells slots pc lv (.int (-1) :: .int (oI o) :: st) ws :=
  g_icmp_eq C d ht (fun h => kt (oI_no ho h)) (fun h => by obtain ⟨j, hj⟩ := oI_so h; exact kf j hj)
theorem g_icmp_neO (C : CX p s m args c D E A cc nL own) {o : Option Nat} (ho : ∀ j, o = some j → j < 2 ^ 31) {off : Int} {tgt : Nat} (d : decode cc pc = .ok (.if_icmp .ne off, 3)) (ht : (pc : Int) + off = (tgt : Int)) (kt : ∀ j, o = some j → GG p l e R s m args below meth c Q D A nL cells slots tgt lv st ws) (kf : o = none → GG p l e R s m args below meth c Q D A nL cells slots (pc + 3) lv st ws) : GG p l e R s m args below meth c Q D A nL cells slots pc lv (.int (-1) :: .int (oI o) :: st) ws :=
  g_icmp_ne C d ht (fun h => by obtain ⟨j, hj⟩ := oI_so h; exact kt j hj) (fun h => kf (oI_no ho h))
theorem g_tsIn (C : CX p s m args c D E A cc nL own) {dflt hi : Int} {offs : Array Int} {len : Nat} {x : Int32} {off : Int} {tgt : Nat} (j : Nat) (hj : j < 2 ^ 31) (hx : x = nI j) (d : decode cc pc = .ok (.tableswitch dflt 0 hi offs, len)) (h2 : (j : Int) ≤ hi) (ho : offs[j]? = some off) (ht : (pc : Int) + off = (tgt : Int)) (k : GG p l e R s m args below meth c Q D A nL cells slots tgt lv st ws) : GG p l e R s m args below meth c Q D A nL cells slots pc lv (.int x :: st) ws := by
  have e1 : x.toInt = (j : Int) := by rw [hx]; exact nI_toInt hj
  exact fun H locs ls hP hD hS hl => lv_tableIn C.1 C.2.1 d (by omega) (by omega) (by rw [e1]; simpa using ho) ht (k H locs ls hP hD hS hl)
theorem g_tsOut (C : CX p s m args c D E A cc nL own) {dflt hi : Int} {offs : Array Int} {len : Nat} {x : Int32} {tgt : Nat} (d : decode cc pc = .ok (.tableswitch dflt 0 hi offs, len)) (h : ∀ j : Nat, (j : Int) ≤ hi → x ≠ nI j) (ht : (pc : Int) + dflt = (tgt : Int)) (k : GG p l e R s m args below meth c Q D A nL cells slots tgt lv st ws) : GG p l e R s m args below meth c Q D A nL cells slots pc lv (.int x :: st) ws := by
  refine fun H locs ls hP hD hS hl => lv_tableOut C.1 C.2.1 d ?_ ht (k H locs ls hP hD hS hl)
  by_cases h0 : x < 0
  · exact Or.inl (by have := Int32.lt_iff_toInt_lt.mp h0; simpa using this)
  · right
    obtain ⟨j, hj, rfl⟩ := nI_of h0
    rw [nI_toInt hj]
    exact Int.not_le.mp fun q => h j q rfl
end Rows3
