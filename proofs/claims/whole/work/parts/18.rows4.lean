section Rows4
variable {p : Program} {l : Launch} {e : Env} {R : Room} {s : State} {m : MethodId} {args : Array Value} {below : List Frame} {meth : Method} {c : Code} {Q : State → Prop} {D : va_G} {E : Nat → ClassId} {A : Nat → Prop} {cc : ByteArray} {own : String} {nL cells slots pc : Nat} {lv lv' : List (Nat × Value)} {st : List Value} {ws ws' : va_W}
theorem nx_smod : ∀ k, k < 32 → ((nI k &&& 31).toBitVec.smod 32).toNat = k := by decide +kernel
theorem nx_shr {a k : Nat} (ha : a < 2 ^ 31) (hk : k < 32) : nI a >>> (nI k &&& 31) = nI (a >>> k) := by
  rw [pk_shrN ha _ k (nx_smod k hk), Nat.shiftRight_eq_div_pow]
theorem nx_xor (a b : Nat) : nI a ^^^ nI b = nI (a ^^^ b) := by
  apply Int32.toBitVec_inj.mp
  show BitVec.ofNat 32 a ^^^ BitVec.ofNat 32 b = BitVec.ofNat 32 (a ^^^ b)
  apply BitVec.eq_of_toNat_eq
  simp [Nat.xor_mod_two_pow]
theorem nx_bit (a k : Nat) : nI (a >>> k &&& 1) = bI (a.testBit k) := by
  have h : a >>> k &&& 1 = (a.testBit k).toNat := by
    rw [Nat.and_one_is_mod, Nat.testBit_eq_decide_div_mod_eq, Nat.shiftRight_eq_div_pow]
    rcases Nat.mod_two_eq_zero_or_one (a / 2 ^ k) with q | q <;> rw [q] <;> rfl
  rw [h]
  cases a.testBit k <;> rfl
theorem g_ishrN (C : CX p s m args c D E A cc nL own) {a b : Nat} (ha : a < 2 ^ 31) (hb : b < 32) (d : decode cc pc = .ok (.ishr, 1)) (k : GG p l e R s m args below meth c Q D A nL cells slots (pc + 1) lv (.int (nI (a >>> b)) :: st) ws) : GG p l e R s m args below meth c Q D A nL cells slots pc lv (.int (nI b) :: .int (nI a) :: st) ws :=
  g_ishr C d (g_top (nx_shr ha hb) k)
theorem g_iandB (C : CX p s m args c D E A cc nL own) {a b : Nat} (d : decode cc pc = .ok (.iand, 1)) (k : GG p l e R s m args below meth c Q D A nL cells slots (pc + 1) lv (.int (bI (a.testBit b)) :: st) ws) : GG p l e R s m args below meth c Q D A nL cells slots pc lv (.int (nI 1) :: .int (nI (a >>> b)) :: st) ws :=
  g_iand C d (g_top ((nx_and _ _).trans (nx_bit a b)) k)
theorem g_ixorN (C : CX p s m args c D E A cc nL own) {a b : Nat} (d : decode cc pc = .ok (.ixor, 1)) (k : GG p l e R s m args below meth c Q D A nL cells slots (pc + 1) lv (.int (nI (a ^^^ b)) :: st) ws) : GG p l e R s m args below meth c Q D A nL cells slots pc lv (.int (nI b) :: .int (nI a) :: st) ws :=
  g_ixor C d (g_top (nx_xor a b) k)
theorem nx_i2b : ∀ v, v < 128 → (nI v).toInt8.toInt32 = nI v := by decide +kernel
theorem nx_narB {v : Nat} (h : v < 128) : vp_nar .byte (nI v) = nI v := by rw [vp_nar_byte]; exact nx_i2b v h
theorem g_i2bN (C : CX p s m args c D E A cc nL own) {a : Nat} (ha : a < 128) (d : decode cc pc = .ok (.i2b, 1)) (k : GG p l e R s m args below meth c Q D A nL cells slots (pc + 1) lv (.int (nI a) :: st) ws) : GG p l e R s m args below meth c Q D A nL cells slots pc lv (.int (nI a) :: st) ws :=
  fun H locs ls hP hD hS hl => lv_i2b C.1 C.2.1 d (nx_i2b a ha) (k H locs ls hP hD hS hl)
theorem aN_upB (T : Nat → Nat) (i : Nat) {v : Nat} (h : v < 128) : upd (aN T) i (vp_nar .byte (nI v)) = aN (va_up T i v) := by rw [nx_narB h]; exact aN_up T i v
theorem xor_lt {a b : Nat} (ha : a < 2 ^ 31) (hb : b < 2 ^ 31) : a ^^^ b < 2 ^ 31 := Nat.xor_lt_two_pow ha hb
theorem shr_lt {a b : Nat} (ha : a < 2 ^ 31) : a >>> b < 2 ^ 31 := Nat.lt_of_le_of_lt (Nat.shiftRight_le a b) ha
end Rows4
