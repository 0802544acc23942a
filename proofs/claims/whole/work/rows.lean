section
-- ===== PART A: goes FIRST, ahead of the names: the tables' words, and 'selects' of the private methods out of them =====
/-- a private method of a class that the tables say can be made, by its rows of tables_1 -/
def lw_okq (q : MethodName × Nat) : Prop := (q.1.cls ≠ "java/lang/invoke/MethodHandle" ∧ q.1.cls ≠ "java/lang/invoke/VarHandle") ∧ Cond.instantiable q.1.cls q.2 ∈ tables_1 ∧ Cond.privateMethod q.1 ∈ tables_1 ∧ Cond.instanceMethod q.1 ∈ tables_1
theorem lw_p0 : lw_okq (⟨"AttackBench", "changed", "()V"⟩, 6) := ⟨⟨by decide +kernel, by decide +kernel⟩, List.mem_of_getElem? (i := 15) (by decide +kernel), List.mem_of_getElem? (i := 167) (by decide +kernel), List.mem_of_getElem? (i := 168) (by decide +kernel)⟩
theorem lw_p1 : lw_okq (⟨"AttackBench$Senses", "fillTargets", "(LAttackBench$Web;)V"⟩, 6) := ⟨⟨by decide +kernel, by decide +kernel⟩, List.mem_of_getElem? (i := 40) (by decide +kernel), List.mem_of_getElem? (i := 250) (by decide +kernel), List.mem_of_getElem? (i := 251) (by decide +kernel)⟩
theorem lw_p2 : lw_okq (⟨"AttackBench$Senses", "ownMarks", "(I)I"⟩, 6) := ⟨⟨by decide +kernel, by decide +kernel⟩, List.mem_of_getElem? (i := 40) (by decide +kernel), List.mem_of_getElem? (i := 259) (by decide +kernel), List.mem_of_getElem? (i := 260) (by decide +kernel)⟩
theorem lw_p3 : lw_okq (⟨"AttackBench$Senses", "markPreferred", "()V"⟩, 6) := ⟨⟨by decide +kernel, by decide +kernel⟩, List.mem_of_getElem? (i := 40) (by decide +kernel), List.mem_of_getElem? (i := 264) (by decide +kernel), List.mem_of_getElem? (i := 265) (by decide +kernel)⟩
theorem lw_p4 : lw_okq (⟨"AttackBench$Senses", "hasMark", "(II)Z"⟩, 6) := ⟨⟨by decide +kernel, by decide +kernel⟩, List.mem_of_getElem? (i := 40) (by decide +kernel), List.mem_of_getElem? (i := 268) (by decide +kernel), List.mem_of_getElem? (i := 269) (by decide +kernel)⟩
theorem lw_p5 : lw_okq (⟨"AttackBench$Senses", "isNewTop", "(I)Z"⟩, 6) := ⟨⟨by decide +kernel, by decide +kernel⟩, List.mem_of_getElem? (i := 40) (by decide +kernel), List.mem_of_getElem? (i := 272) (by decide +kernel), List.mem_of_getElem? (i := 273) (by decide +kernel)⟩
theorem lw_p6 : lw_okq (⟨"AttackBench$Senses", "markRanges", "()V"⟩, 6) := ⟨⟨by decide +kernel, by decide +kernel⟩, List.mem_of_getElem? (i := 40) (by decide +kernel), List.mem_of_getElem? (i := 276) (by decide +kernel), List.mem_of_getElem? (i := 277) (by decide +kernel)⟩
theorem lw_p7 : lw_okq (⟨"AttackBench$Senses", "markStage", "()V"⟩, 6) := ⟨⟨by decide +kernel, by decide +kernel⟩, List.mem_of_getElem? (i := 40) (by decide +kernel), List.mem_of_getElem? (i := 280) (by decide +kernel), List.mem_of_getElem? (i := 281) (by decide +kernel)⟩
theorem lw_p8 : lw_okq (⟨"AttackBench$Grounds", "noteRound", "(II)V"⟩, 2) := ⟨⟨by decide +kernel, by decide +kernel⟩, List.mem_of_getElem? (i := 84) (by decide +kernel), List.mem_of_getElem? (i := 310) (by decide +kernel), List.mem_of_getElem? (i := 311) (by decide +kernel)⟩
theorem lw_p9 : lw_okq (⟨"AttackBench$Rings", "fillReach", "(LAttackBench$Web;)V"⟩, 3) := ⟨⟨by decide +kernel, by decide +kernel⟩, List.mem_of_getElem? (i := 119) (by decide +kernel), List.mem_of_getElem? (i := 356) (by decide +kernel), List.mem_of_getElem? (i := 357) (by decide +kernel)⟩
theorem lw_p10 : lw_okq (⟨"AttackBench$Rings", "firstReady", "(LAttackBench$Web;I)I"⟩, 3) := ⟨⟨by decide +kernel, by decide +kernel⟩, List.mem_of_getElem? (i := 119) (by decide +kernel), List.mem_of_getElem? (i := 363) (by decide +kernel), List.mem_of_getElem? (i := 364) (by decide +kernel)⟩
theorem lw_p11 : lw_okq (⟨"AttackBench$Rings", "around", "(II)I"⟩, 3) := ⟨⟨by decide +kernel, by decide +kernel⟩, List.mem_of_getElem? (i := 119) (by decide +kernel), List.mem_of_getElem? (i := 367) (by decide +kernel), List.mem_of_getElem? (i := 368) (by decide +kernel)⟩
theorem lw_p12 : lw_okq (⟨"AttackBench$Rings", "number", "(I)V"⟩, 3) := ⟨⟨by decide +kernel, by decide +kernel⟩, List.mem_of_getElem? (i := 119) (by decide +kernel), List.mem_of_getElem? (i := 376) (by decide +kernel), List.mem_of_getElem? (i := 377) (by decide +kernel)⟩
theorem lw_p13 : lw_okq (⟨"java/lang/Throwable", "fillInStackTrace", "(I)Ljava/lang/Throwable;"⟩, 6) := ⟨⟨by decide +kernel, by decide +kernel⟩, List.mem_of_getElem? (i := 437) (by decide +kernel), List.mem_of_getElem? (i := 435) (by decide +kernel), List.mem_of_getElem? (i := 436) (by decide +kernel)⟩
theorem lw_p14 : lw_okq (⟨"AttackBench$Talk", "defend", "(IILAttackBench$Web;LAttackBench$Grounds;I)V"⟩, 5) := ⟨⟨by decide +kernel, by decide +kernel⟩, List.mem_of_getElem? (i := 97) (by decide +kernel), List.mem_of_getElem? (i := 555) (by decide +kernel), List.mem_of_getElem? (i := 556) (by decide +kernel)⟩
theorem lw_p15 : lw_okq (⟨"AttackBench$Talk", "say", "(III)I"⟩, 5) := ⟨⟨by decide +kernel, by decide +kernel⟩, List.mem_of_getElem? (i := 97) (by decide +kernel), List.mem_of_getElem? (i := 559) (by decide +kernel), List.mem_of_getElem? (i := 560) (by decide +kernel)⟩
def lw_privs_1 : List (MethodName × Nat) := [(⟨"AttackBench", "changed", "()V"⟩, 6), (⟨"AttackBench$Senses", "fillTargets", "(LAttackBench$Web;)V"⟩, 6), (⟨"AttackBench$Senses", "ownMarks", "(I)I"⟩, 6), (⟨"AttackBench$Senses", "markPreferred", "()V"⟩, 6), (⟨"AttackBench$Senses", "hasMark", "(II)Z"⟩, 6), (⟨"AttackBench$Senses", "isNewTop", "(I)Z"⟩, 6), (⟨"AttackBench$Senses", "markRanges", "()V"⟩, 6), (⟨"AttackBench$Senses", "markStage", "()V"⟩, 6), (⟨"AttackBench$Grounds", "noteRound", "(II)V"⟩, 2), (⟨"AttackBench$Rings", "fillReach", "(LAttackBench$Web;)V"⟩, 3), (⟨"AttackBench$Rings", "firstReady", "(LAttackBench$Web;I)I"⟩, 3), (⟨"AttackBench$Rings", "around", "(II)I"⟩, 3), (⟨"AttackBench$Rings", "number", "(I)V"⟩, 3), (⟨"java/lang/Throwable", "fillInStackTrace", "(I)Ljava/lang/Throwable;"⟩, 6), (⟨"AttackBench$Talk", "defend", "(IILAttackBench$Web;LAttackBench$Grounds;I)V"⟩, 5), (⟨"AttackBench$Talk", "say", "(III)I"⟩, 5)]
theorem lw_r1 : ∀ q ∈ lw_privs_1, lw_okq q := List.forall_mem_cons.mpr ⟨lw_p0, List.forall_mem_cons.mpr ⟨lw_p1, List.forall_mem_cons.mpr ⟨lw_p2, List.forall_mem_cons.mpr ⟨lw_p3, List.forall_mem_cons.mpr ⟨lw_p4, List.forall_mem_cons.mpr ⟨lw_p5, List.forall_mem_cons.mpr ⟨lw_p6, List.forall_mem_cons.mpr ⟨lw_p7, List.forall_mem_cons.mpr ⟨lw_p8, List.forall_mem_cons.mpr ⟨lw_p9, List.forall_mem_cons.mpr ⟨lw_p10, List.forall_mem_cons.mpr ⟨lw_p11, List.forall_mem_cons.mpr ⟨lw_p12, List.forall_mem_cons.mpr ⟨lw_p13, List.forall_mem_cons.mpr ⟨lw_p14, List.forall_mem_cons.mpr ⟨lw_p15, fun _ h => absurd h List.not_mem_nil⟩⟩⟩⟩⟩⟩⟩⟩⟩⟩⟩⟩⟩⟩⟩⟩
theorem lw_p16 : lw_okq (⟨"AttackBenchModel", "comes", "()I"⟩, 25) := ⟨⟨by decide +kernel, by decide +kernel⟩, List.mem_of_getElem? (i := 573) (by decide +kernel), List.mem_of_getElem? (i := 664) (by decide +kernel), List.mem_of_getElem? (i := 665) (by decide +kernel)⟩
theorem lw_p17 : lw_okq (⟨"AttackBenchModel", "changes", "()V"⟩, 25) := ⟨⟨by decide +kernel, by decide +kernel⟩, List.mem_of_getElem? (i := 573) (by decide +kernel), List.mem_of_getElem? (i := 668) (by decide +kernel), List.mem_of_getElem? (i := 669) (by decide +kernel)⟩
theorem lw_p18 : lw_okq (⟨"AttackBenchModel", "isArgument", "(I)Z"⟩, 25) := ⟨⟨by decide +kernel, by decide +kernel⟩, List.mem_of_getElem? (i := 573) (by decide +kernel), List.mem_of_getElem? (i := 676) (by decide +kernel), List.mem_of_getElem? (i := 677) (by decide +kernel)⟩
theorem lw_p19 : lw_okq (⟨"AttackBenchModel", "sets", "(IIZ)V"⟩, 25) := ⟨⟨by decide +kernel, by decide +kernel⟩, List.mem_of_getElem? (i := 573) (by decide +kernel), List.mem_of_getElem? (i := 680) (by decide +kernel), List.mem_of_getElem? (i := 681) (by decide +kernel)⟩
theorem lw_p20 : lw_okq (⟨"AttackBenchModel", "reckon", "()V"⟩, 25) := ⟨⟨by decide +kernel, by decide +kernel⟩, List.mem_of_getElem? (i := 573) (by decide +kernel), List.mem_of_getElem? (i := 704) (by decide +kernel), List.mem_of_getElem? (i := 705) (by decide +kernel)⟩
theorem lw_p21 : lw_okq (⟨"AttackBenchModel", "defended", "(I)I"⟩, 25) := ⟨⟨by decide +kernel, by decide +kernel⟩, List.mem_of_getElem? (i := 573) (by decide +kernel), List.mem_of_getElem? (i := 708) (by decide +kernel), List.mem_of_getElem? (i := 709) (by decide +kernel)⟩
theorem lw_p22 : lw_okq (⟨"AttackBenchModel", "isFreeSet", "(I)Z"⟩, 25) := ⟨⟨by decide +kernel, by decide +kernel⟩, List.mem_of_getElem? (i := 573) (by decide +kernel), List.mem_of_getElem? (i := 712) (by decide +kernel), List.mem_of_getElem? (i := 713) (by decide +kernel)⟩
theorem lw_p23 : lw_okq (⟨"AttackBenchModel", "adds", "(II)V"⟩, 25) := ⟨⟨by decide +kernel, by decide +kernel⟩, List.mem_of_getElem? (i := 573) (by decide +kernel), List.mem_of_getElem? (i := 716) (by decide +kernel), List.mem_of_getElem? (i := 717) (by decide +kernel)⟩
theorem lw_p24 : lw_okq (⟨"AttackBenchModel", "looksAbove", "()V"⟩, 25) := ⟨⟨by decide +kernel, by decide +kernel⟩, List.mem_of_getElem? (i := 573) (by decide +kernel), List.mem_of_getElem? (i := 720) (by decide +kernel), List.mem_of_getElem? (i := 721) (by decide +kernel)⟩
theorem lw_p25 : lw_okq (⟨"AttackBenchModel", "goesRound", "()V"⟩, 25) := ⟨⟨by decide +kernel, by decide +kernel⟩, List.mem_of_getElem? (i := 573) (by decide +kernel), List.mem_of_getElem? (i := 724) (by decide +kernel), List.mem_of_getElem? (i := 725) (by decide +kernel)⟩
theorem lw_p26 : lw_okq (⟨"AttackBenchModel", "isSet", "(I)Z"⟩, 25) := ⟨⟨by decide +kernel, by decide +kernel⟩, List.mem_of_getElem? (i := 573) (by decide +kernel), List.mem_of_getElem? (i := 728) (by decide +kernel), List.mem_of_getElem? (i := 729) (by decide +kernel)⟩
theorem lw_p27 : lw_okq (⟨"AttackBenchModel", "isOf", "(II)Z"⟩, 25) := ⟨⟨by decide +kernel, by decide +kernel⟩, List.mem_of_getElem? (i := 573) (by decide +kernel), List.mem_of_getElem? (i := 739) (by decide +kernel), List.mem_of_getElem? (i := 740) (by decide +kernel)⟩
theorem lw_p28 : lw_okq (⟨"AttackBenchModel", "puts", "(III)V"⟩, 25) := ⟨⟨by decide +kernel, by decide +kernel⟩, List.mem_of_getElem? (i := 573) (by decide +kernel), List.mem_of_getElem? (i := 787) (by decide +kernel), List.mem_of_getElem? (i := 788) (by decide +kernel)⟩
theorem lw_p29 : lw_okq (⟨"AttackBenchModel", "against", "(I)I"⟩, 25) := ⟨⟨by decide +kernel, by decide +kernel⟩, List.mem_of_getElem? (i := 573) (by decide +kernel), List.mem_of_getElem? (i := 791) (by decide +kernel), List.mem_of_getElem? (i := 792) (by decide +kernel)⟩
theorem lw_p30 : lw_okq (⟨"AttackBenchModel", "numbers", "()I"⟩, 25) := ⟨⟨by decide +kernel, by decide +kernel⟩, List.mem_of_getElem? (i := 573) (by decide +kernel), List.mem_of_getElem? (i := 803) (by decide +kernel), List.mem_of_getElem? (i := 804) (by decide +kernel)⟩
theorem lw_p31 : lw_okq (⟨"AttackBenchModel", "from", "(I)I"⟩, 25) := ⟨⟨by decide +kernel, by decide +kernel⟩, List.mem_of_getElem? (i := 573) (by decide +kernel), List.mem_of_getElem? (i := 807) (by decide +kernel), List.mem_of_getElem? (i := 808) (by decide +kernel)⟩
def lw_privs_2 : List (MethodName × Nat) := [(⟨"AttackBenchModel", "comes", "()I"⟩, 25), (⟨"AttackBenchModel", "changes", "()V"⟩, 25), (⟨"AttackBenchModel", "isArgument", "(I)Z"⟩, 25), (⟨"AttackBenchModel", "sets", "(IIZ)V"⟩, 25), (⟨"AttackBenchModel", "reckon", "()V"⟩, 25), (⟨"AttackBenchModel", "defended", "(I)I"⟩, 25), (⟨"AttackBenchModel", "isFreeSet", "(I)Z"⟩, 25), (⟨"AttackBenchModel", "adds", "(II)V"⟩, 25), (⟨"AttackBenchModel", "looksAbove", "()V"⟩, 25), (⟨"AttackBenchModel", "goesRound", "()V"⟩, 25), (⟨"AttackBenchModel", "isSet", "(I)Z"⟩, 25), (⟨"AttackBenchModel", "isOf", "(II)Z"⟩, 25), (⟨"AttackBenchModel", "puts", "(III)V"⟩, 25), (⟨"AttackBenchModel", "against", "(I)I"⟩, 25), (⟨"AttackBenchModel", "numbers", "()I"⟩, 25), (⟨"AttackBenchModel", "from", "(I)I"⟩, 25)]
theorem lw_r2 : ∀ q ∈ lw_privs_2, lw_okq q := List.forall_mem_cons.mpr ⟨lw_p16, List.forall_mem_cons.mpr ⟨lw_p17, List.forall_mem_cons.mpr ⟨lw_p18, List.forall_mem_cons.mpr ⟨lw_p19, List.forall_mem_cons.mpr ⟨lw_p20, List.forall_mem_cons.mpr ⟨lw_p21, List.forall_mem_cons.mpr ⟨lw_p22, List.forall_mem_cons.mpr ⟨lw_p23, List.forall_mem_cons.mpr ⟨lw_p24, List.forall_mem_cons.mpr ⟨lw_p25, List.forall_mem_cons.mpr ⟨lw_p26, List.forall_mem_cons.mpr ⟨lw_p27, List.forall_mem_cons.mpr ⟨lw_p28, List.forall_mem_cons.mpr ⟨lw_p29, List.forall_mem_cons.mpr ⟨lw_p30, List.forall_mem_cons.mpr ⟨lw_p31, fun _ h => absurd h List.not_mem_nil⟩⟩⟩⟩⟩⟩⟩⟩⟩⟩⟩⟩⟩⟩⟩⟩
theorem lw_p32 : lw_okq (⟨"AttackBenchModel", "both", "(I)I"⟩, 25) := ⟨⟨by decide +kernel, by decide +kernel⟩, List.mem_of_getElem? (i := 573) (by decide +kernel), List.mem_of_getElem? (i := 811) (by decide +kernel), List.mem_of_getElem? (i := 812) (by decide +kernel)⟩
def lw_privs_3 : List (MethodName × Nat) := [(⟨"AttackBenchModel", "both", "(I)I"⟩, 25)]
theorem lw_r3 : ∀ q ∈ lw_privs_3, lw_okq q := List.forall_mem_cons.mpr ⟨lw_p32, fun _ h => absurd h List.not_mem_nil⟩
def lw_privs : List (MethodName × Nat) := lw_privs_1 ++ (lw_privs_2 ++ (lw_privs_3))
def lw_tbl : List Cond := k2_sels lw_privs ++ tables_1
theorem lw_privs_ok : ∀ q ∈ lw_privs, lw_okq q := by
  show ∀ q ∈ lw_privs_1 ++ (lw_privs_2 ++ (lw_privs_3)), lw_okq q
  exact List.forall_mem_append.mpr ⟨lw_r1, List.forall_mem_append.mpr ⟨lw_r2, lw_r3⟩⟩
end
section
def T_AB : u_T := fun k => match k with
  | 0 => ("AttackBench", "web", "LAttackBench$Web;", true)
  | 1 => ("AttackBench", "senses", "LAttackBench$Senses;", true)
  | 2 => ("AttackBench", "listing", "LAttackBench$Listing;", true)
  | 3 => ("AttackBench", "grounds", "LAttackBench$Grounds;", true)
  | 4 => ("AttackBench", "talk", "LAttackBench$Talk;", true)
  | _ => ("AttackBench", "rings", "LAttackBench$Rings;", true)
def tt_AB : Nat → FieldType := fun k => match k with
  | 0 => .object "AttackBench$Web"
  | 1 => .object "AttackBench$Senses"
  | 2 => .object "AttackBench$Listing"
  | 3 => .object "AttackBench$Grounds"
  | 4 => .object "AttackBench$Talk"
  | _ => .object "AttackBench$Rings"
theorem nm_AB : ∀ a, a < 6 → ∀ b, b < 6 → a ≠ b → (T_AB a).2.1 ≠ (T_AB b).2.1 := by decide +kernel
theorem ty_AB : ∀ k, k < 6 → parseFieldDescriptor (T_AB k).2.2.1 = some (tt_AB k) := by decide +kernel
def T_Grounds : u_T := fun k => match k with
  | 0 => ("AttackBench$Grounds", "rounds", "[I", true)
  | _ => ("AttackBench$Grounds", "all", "I", false)
def tt_Grounds : Nat → FieldType := fun k => match k with
  | 0 => .array .int
  | _ => .int
theorem nm_Grounds : ∀ a, a < 2 → ∀ b, b < 2 → a ≠ b → (T_Grounds a).2.1 ≠ (T_Grounds b).2.1 := by decide +kernel
theorem ty_Grounds : ∀ k, k < 2 → parseFieldDescriptor (T_Grounds k).2.2.1 = some (tt_Grounds k) := by decide +kernel
def T_Listing : u_T := fun k => match k with
  | 0 => ("AttackBench$Listing", "open", "Z", false)
  | 1 => ("AttackBench$Listing", "kind", "I", false)
  | 2 => ("AttackBench$Listing", "place", "I", false)
  | _ => ("AttackBench$Listing", "told", "I", false)
def tt_Listing : Nat → FieldType := fun k => match k with
  | 0 => .boolean
  | 1 => .int
  | 2 => .int
  | _ => .int
theorem nm_Listing : ∀ a, a < 4 → ∀ b, b < 4 → a ≠ b → (T_Listing a).2.1 ≠ (T_Listing b).2.1 := by decide +kernel
theorem ty_Listing : ∀ k, k < 4 → parseFieldDescriptor (T_Listing k).2.2.1 = some (tt_Listing k) := by decide +kernel
def T_Rings : u_T := fun k => match k with
  | 0 => ("AttackBench$Rings", "reach", "[I", true)
  | 1 => ("AttackBench$Rings", "numbers", "[I", true)
  | _ => ("AttackBench$Rings", "size", "I", false)
def tt_Rings : Nat → FieldType := fun k => match k with
  | 0 => .array .int
  | 1 => .array .int
  | _ => .int
theorem nm_Rings : ∀ a, a < 3 → ∀ b, b < 3 → a ≠ b → (T_Rings a).2.1 ≠ (T_Rings b).2.1 := by decide +kernel
theorem ty_Rings : ∀ k, k < 3 → parseFieldDescriptor (T_Rings k).2.2.1 = some (tt_Rings k) := by decide +kernel
def T_Senses : u_T := fun k => match k with
  | 0 => ("AttackBench$Senses", "targets", "[I", true)
  | 1 => ("AttackBench$Senses", "marks", "[I", true)
  | 2 => ("AttackBench$Senses", "tops", "[I", true)
  | 3 => ("AttackBench$Senses", "topCount", "I", false)
  | 4 => ("AttackBench$Senses", "everything", "I", false)
  | _ => ("AttackBench$Senses", "known", "Z", false)
def tt_Senses : Nat → FieldType := fun k => match k with
  | 0 => .array .int
  | 1 => .array .int
  | 2 => .array .int
  | 3 => .int
  | 4 => .int
  | _ => .boolean
theorem nm_Senses : ∀ a, a < 6 → ∀ b, b < 6 → a ≠ b → (T_Senses a).2.1 ≠ (T_Senses b).2.1 := by decide +kernel
theorem ty_Senses : ∀ k, k < 6 → parseFieldDescriptor (T_Senses k).2.2.1 = some (tt_Senses k) := by decide +kernel
def T_Talk : u_T := fun k => match k with
  | 0 => ("AttackBench$Talk", "said", "[I", true)
  | 1 => ("AttackBench$Talk", "answered", "[I", true)
  | 2 => ("AttackBench$Talk", "sides", "[I", true)
  | 3 => ("AttackBench$Talk", "size", "I", false)
  | _ => ("AttackBench$Talk", "tooLong", "Z", false)
def tt_Talk : Nat → FieldType := fun k => match k with
  | 0 => .array .int
  | 1 => .array .int
  | 2 => .array .int
  | 3 => .int
  | _ => .boolean
theorem nm_Talk : ∀ a, a < 5 → ∀ b, b < 5 → a ≠ b → (T_Talk a).2.1 ≠ (T_Talk b).2.1 := by decide +kernel
theorem ty_Talk : ∀ k, k < 5 → parseFieldDescriptor (T_Talk k).2.2.1 = some (tt_Talk k) := by decide +kernel
def T_Web : u_T := fun k => match k with
  | 0 => ("AttackBench$Web", "targets", "[I", true)
  | 1 => ("AttackBench$Web", "attackers", "[I", true)
  | _ => ("AttackBench$Web", "size", "I", false)
def tt_Web : Nat → FieldType := fun k => match k with
  | 0 => .array .int
  | 1 => .array .int
  | _ => .int
theorem nm_Web : ∀ a, a < 3 → ∀ b, b < 3 → a ≠ b → (T_Web a).2.1 ≠ (T_Web b).2.1 := by decide +kernel
theorem ty_Web : ∀ k, k < 3 → parseFieldDescriptor (T_Web k).2.2.1 = some (tt_Web k) := by decide +kernel
def T_Mo : u_T := fun k => match k with
  | 0 => ("AttackBenchModel", "thrown", "I", false)
  | 1 => ("AttackBenchModel", "n", "I", false)
  | 2 => ("AttackBenchModel", "out", "[I", true)
  | 3 => ("AttackBenchModel", "in", "[I", true)
  | 4 => ("AttackBenchModel", "hits", "[I", true)
  | 5 => ("AttackBenchModel", "kinds", "[B", true)
  | 6 => ("AttackBenchModel", "here", "[Z", true)
  | 7 => ("AttackBenchModel", "above", "[Z", true)
  | 8 => ("AttackBenchModel", "known", "Z", false)
  | 9 => ("AttackBenchModel", "listing", "Z", false)
  | 10 => ("AttackBenchModel", "told", "Z", false)
  | 11 => ("AttackBenchModel", "listed", "I", false)
  | 12 => ("AttackBenchModel", "latest", "I", false)
  | 13 => ("AttackBenchModel", "rounds", "[I", true)
  | 14 => ("AttackBenchModel", "ground", "I", false)
  | 15 => ("AttackBenchModel", "moves", "I", false)
  | 16 => ("AttackBenchModel", "says", "[I", true)
  | 17 => ("AttackBenchModel", "answers", "[I", true)
  | 18 => ("AttackBenchModel", "sides", "[I", true)
  | 19 => ("AttackBenchModel", "laterSays", "[I", true)
  | 20 => ("AttackBenchModel", "laterAnswers", "[I", true)
  | 21 => ("AttackBenchModel", "laterSides", "[I", true)
  | 22 => ("AttackBenchModel", "later", "I", false)
  | 23 => ("AttackBenchModel", "reach", "[I", true)
  | _ => ("AttackBenchModel", "circles", "[I", true)
def tt_Mo : Nat → FieldType := fun k => match k with
  | 0 => .int
  | 1 => .int
  | 2 => .array .int
  | 3 => .array .int
  | 4 => .array .int
  | 5 => .array .byte
  | 6 => .array .boolean
  | 7 => .array .boolean
  | 8 => .boolean
  | 9 => .boolean
  | 10 => .boolean
  | 11 => .int
  | 12 => .int
  | 13 => .array .int
  | 14 => .int
  | 15 => .int
  | 16 => .array .int
  | 17 => .array .int
  | 18 => .array .int
  | 19 => .array .int
  | 20 => .array .int
  | 21 => .array .int
  | 22 => .int
  | 23 => .array .int
  | _ => .array .int
theorem nm_Mo : ∀ a, a < 25 → ∀ b, b < 25 → a ≠ b → (T_Mo a).2.1 ≠ (T_Mo b).2.1 := by decide +kernel
theorem ty_Mo : ∀ k, k < 25 → parseFieldDescriptor (T_Mo k).2.2.1 = some (tt_Mo k) := by decide +kernel
abbrev vwCl : List vw_C := [("AttackBench", T_AB, 6), ("AttackBench$Grounds", T_Grounds, 2), ("AttackBench$Listing", T_Listing, 4), ("AttackBench$Rings", T_Rings, 3), ("AttackBench$Senses", T_Senses, 6), ("AttackBench$Talk", T_Talk, 5), ("AttackBench$Web", T_Web, 3), ("AttackBenchModel", T_Mo, 25)]
abbrev k_AB_init : ByteArray := prog_1_method_1_code
def y_AB_init : MethodName := ⟨"AttackBench", "<init>", "()V"⟩
abbrev k_Web_init : ByteArray := prog_7_method_1_code
def y_Web_init : MethodName := ⟨"AttackBench$Web", "<init>", "()V"⟩
abbrev k_Senses_init : ByteArray := prog_5_method_1_code
def y_Senses_init : MethodName := ⟨"AttackBench$Senses", "<init>", "()V"⟩
abbrev k_Listing_init : ByteArray := prog_3_method_1_code
def y_Listing_init : MethodName := ⟨"AttackBench$Listing", "<init>", "()V"⟩
abbrev k_Grounds_init : ByteArray := prog_2_method_1_code
def y_Grounds_init : MethodName := ⟨"AttackBench$Grounds", "<init>", "()V"⟩
abbrev k_Talk_init : ByteArray := prog_6_method_1_code
def y_Talk_init : MethodName := ⟨"AttackBench$Talk", "<init>", "()V"⟩
abbrev k_Rings_init : ByteArray := prog_4_method_1_code
def y_Rings_init : MethodName := ⟨"AttackBench$Rings", "<init>", "()V"⟩
abbrev k_AB_claim : ByteArray := prog_1_method_2_code
def y_AB_claim : MethodName := ⟨"AttackBench", "claim", "()I"⟩
abbrev k_Web_hasRoomFor : ByteArray := prog_7_method_6_code
def y_Web_hasRoomFor : MethodName := ⟨"AttackBench$Web", "hasRoomFor", "(I)Z"⟩
abbrev k_Web_add : ByteArray := prog_7_method_7_code
def y_Web_add : MethodName := ⟨"AttackBench$Web", "add", "()I"⟩
abbrev k_AB_changed : ByteArray := prog_1_method_24_code
def y_AB_changed : MethodName := ⟨"AttackBench", "changed", "()V"⟩
abbrev k_Listing_end : ByteArray := prog_3_method_3_code
def y_Listing_end : MethodName := ⟨"AttackBench$Listing", "end", "()V"⟩
abbrev k_Senses_forget : ByteArray := prog_5_method_2_code
def y_Senses_forget : MethodName := ⟨"AttackBench$Senses", "forget", "()V"⟩
abbrev k_AB_attack : ByteArray := prog_1_method_3_code
def y_AB_attack : MethodName := ⟨"AttackBench", "attack", "(IIZ)Z"⟩
abbrev k_Web_has : ByteArray := prog_7_method_4_code
def y_Web_has : MethodName := ⟨"AttackBench$Web", "has", "(I)Z"⟩
abbrev k_Web_leads : ByteArray := prog_7_method_8_code
def y_Web_leads : MethodName := ⟨"AttackBench$Web", "leads", "(II)Z"⟩
abbrev k_AB_isIn : ByteArray := prog_1_method_26_code
def y_AB_isIn : MethodName := ⟨"AttackBench", "isIn", "(II)Z"⟩
abbrev k_Web_put : ByteArray := prog_7_method_9_code
def y_Web_put : MethodName := ⟨"AttackBench$Web", "put", "(IIZ)V"⟩
abbrev k_AB_attacks : ByteArray := prog_1_method_4_code
def y_AB_attacks : MethodName := ⟨"AttackBench", "attacks", "(II)Z"⟩
abbrev k_AB_joint : ByteArray := prog_1_method_5_code
def y_AB_joint : MethodName := ⟨"AttackBench", "joint", "(III)I"⟩
abbrev k_AB_support : ByteArray := prog_1_method_6_code
def y_AB_support : MethodName := ⟨"AttackBench", "support", "(II)I"⟩
abbrev k_AB_arguments : ByteArray := prog_1_method_7_code
def y_AB_arguments : MethodName := ⟨"AttackBench", "arguments", "()I"⟩
abbrev k_Web_size : ByteArray := prog_7_method_2_code
def y_Web_size : MethodName := ⟨"AttackBench$Web", "size", "()I"⟩
abbrev k_AB_isFree : ByteArray := prog_1_method_8_code
def y_AB_isFree : MethodName := ⟨"AttackBench", "isFree", "(I)Z"⟩
abbrev k_Web_hasSet : ByteArray := prog_7_method_5_code
def y_Web_hasSet : MethodName := ⟨"AttackBench$Web", "hasSet", "(I)Z"⟩
abbrev k_Web_everything : ByteArray := prog_7_method_3_code
def y_Web_everything : MethodName := ⟨"AttackBench$Web", "everything", "()I"⟩
abbrev k_AB_isWithin : ByteArray := prog_1_method_27_code
def y_AB_isWithin : MethodName := ⟨"AttackBench", "isWithin", "(II)Z"⟩
abbrev k_Web_targetsOf : ByteArray := prog_7_method_12_code
def y_Web_targetsOf : MethodName := ⟨"AttackBench$Web", "targetsOf", "(I)I"⟩
abbrev k_AB_is : ByteArray := prog_1_method_9_code
def y_AB_is : MethodName := ⟨"AttackBench", "is", "(II)Z"⟩
abbrev k_AB_isKind : ByteArray := prog_1_method_25_code
def y_AB_isKind : MethodName := ⟨"AttackBench", "isKind", "(I)Z"⟩
abbrev k_Senses_learn : ByteArray := prog_5_method_3_code
def y_Senses_learn : MethodName := ⟨"AttackBench$Senses", "learn", "(LAttackBench$Web;)V"⟩
abbrev k_Senses_fillTargets : ByteArray := prog_5_method_10_code
def y_Senses_fillTargets : MethodName := ⟨"AttackBench$Senses", "fillTargets", "(LAttackBench$Web;)V"⟩
abbrev k_Web_targetsOfOne : ByteArray := prog_7_method_10_code
def y_Web_targetsOfOne : MethodName := ⟨"AttackBench$Web", "targetsOfOne", "(I)I"⟩
abbrev k_Senses_ownMarks : ByteArray := prog_5_method_11_code
def y_Senses_ownMarks : MethodName := ⟨"AttackBench$Senses", "ownMarks", "(I)I"⟩
abbrev k_Senses_markPreferred : ByteArray := prog_5_method_12_code
def y_Senses_markPreferred : MethodName := ⟨"AttackBench$Senses", "markPreferred", "()V"⟩
abbrev k_Senses_hasMark : ByteArray := prog_5_method_9_code
def y_Senses_hasMark : MethodName := ⟨"AttackBench$Senses", "hasMark", "(II)Z"⟩
abbrev k_Senses_isNewTop : ByteArray := prog_5_method_15_code
def y_Senses_isNewTop : MethodName := ⟨"AttackBench$Senses", "isNewTop", "(I)Z"⟩
abbrev k_Senses_markRanges : ByteArray := prog_5_method_13_code
def y_Senses_markRanges : MethodName := ⟨"AttackBench$Senses", "markRanges", "()V"⟩
abbrev k_Senses_markStage : ByteArray := prog_5_method_14_code
def y_Senses_markStage : MethodName := ⟨"AttackBench$Senses", "markStage", "()V"⟩
abbrev k_Senses_isOf : ByteArray := prog_5_method_5_code
def y_Senses_isOf : MethodName := ⟨"AttackBench$Senses", "isOf", "(II)Z"⟩
abbrev k_AB_attackedBy : ByteArray := prog_1_method_10_code
def y_AB_attackedBy : MethodName := ⟨"AttackBench", "attackedBy", "(I)I"⟩
abbrev k_AB_defendedBy : ByteArray := prog_1_method_11_code
def y_AB_defendedBy : MethodName := ⟨"AttackBench", "defendedBy", "(I)I"⟩
abbrev k_Web_defendedOf : ByteArray := prog_7_method_14_code
def y_Web_defendedOf : MethodName := ⟨"AttackBench$Web", "defendedOf", "(I)I"⟩
abbrev k_AB_grounded : ByteArray := prog_1_method_12_code
def y_AB_grounded : MethodName := ⟨"AttackBench", "grounded", "()I"⟩
abbrev k_Grounds_settle : ByteArray := prog_2_method_4_code
def y_Grounds_settle : MethodName := ⟨"AttackBench$Grounds", "settle", "(LAttackBench$Web;)V"⟩
abbrev k_Grounds_noteRound : ByteArray := prog_2_method_6_code
def y_Grounds_noteRound : MethodName := ⟨"AttackBench$Grounds", "noteRound", "(II)V"⟩
abbrev k_Grounds_all : ByteArray := prog_2_method_2_code
def y_Grounds_all : MethodName := ⟨"AttackBench$Grounds", "all", "()I"⟩
abbrev k_AB_round : ByteArray := prog_1_method_13_code
def y_AB_round : MethodName := ⟨"AttackBench", "round", "(I)I"⟩
abbrev k_Grounds_roundOf : ByteArray := prog_2_method_3_code
def y_Grounds_roundOf : MethodName := ⟨"AttackBench$Grounds", "roundOf", "(I)I"⟩
abbrev k_AB_ideal : ByteArray := prog_1_method_14_code
def y_AB_ideal : MethodName := ⟨"AttackBench", "ideal", "()I"⟩
abbrev k_Senses_meet : ByteArray := prog_5_method_7_code
def y_Senses_meet : MethodName := ⟨"AttackBench$Senses", "meet", "(I)I"⟩
abbrev k_Senses_joinWithin : ByteArray := prog_5_method_8_code
def y_Senses_joinWithin : MethodName := ⟨"AttackBench$Senses", "joinWithin", "(II)I"⟩
abbrev k_AB_move : ByteArray := prog_1_method_21_code
def y_AB_move : MethodName := ⟨"AttackBench", "move", "(II)I"⟩
abbrev k_Talk_tell : ByteArray := prog_6_method_3_code
def y_Talk_tell : MethodName := ⟨"AttackBench$Talk", "tell", "(II)I"⟩
abbrev k_AB_circle : ByteArray := prog_1_method_22_code
def y_AB_circle : MethodName := ⟨"AttackBench", "circle", "(I)I"⟩
abbrev k_Rings_find : ByteArray := prog_4_method_4_code
def y_Rings_find : MethodName := ⟨"AttackBench$Rings", "find", "(LAttackBench$Web;)V"⟩
abbrev k_Rings_fillReach : ByteArray := prog_4_method_5_code
def y_Rings_fillReach : MethodName := ⟨"AttackBench$Rings", "fillReach", "(LAttackBench$Web;)V"⟩
abbrev k_Rings_firstReady : ByteArray := prog_4_method_6_code
def y_Rings_firstReady : MethodName := ⟨"AttackBench$Rings", "firstReady", "(LAttackBench$Web;I)I"⟩
abbrev k_Rings_around : ByteArray := prog_4_method_7_code
def y_Rings_around : MethodName := ⟨"AttackBench$Rings", "around", "(II)I"⟩
abbrev k_Web_attackersOf : ByteArray := prog_7_method_13_code
def y_Web_attackersOf : MethodName := ⟨"AttackBench$Web", "attackersOf", "(I)I"⟩
abbrev k_Rings_number : ByteArray := prog_4_method_8_code
def y_Rings_number : MethodName := ⟨"AttackBench$Rings", "number", "(I)V"⟩
abbrev k_Rings_ringOf : ByteArray := prog_4_method_3_code
def y_Rings_ringOf : MethodName := ⟨"AttackBench$Rings", "ringOf", "(I)I"⟩
abbrev k_AB_circles : ByteArray := prog_1_method_23_code
def y_AB_circles : MethodName := ⟨"AttackBench", "circles", "()I"⟩
abbrev k_Rings_size : ByteArray := prog_4_method_2_code
def y_Rings_size : MethodName := ⟨"AttackBench$Rings", "size", "()I"⟩
abbrev k_Law_start : ByteArray := method_3_code
def y_Law_start : MethodName := ⟨"AttackBenchLaw", "start", "(LAttackBench;I)I"⟩
abbrev k_AB_start : ByteArray := prog_1_method_15_code
def y_AB_start : MethodName := ⟨"AttackBench", "start", "(I)V"⟩
abbrev k_Listing_begin : ByteArray := prog_3_method_2_code
def y_Listing_begin : MethodName := ⟨"AttackBench$Listing", "begin", "(I)V"⟩
abbrev k_Law_next : ByteArray := method_4_code
def y_Law_next : MethodName := ⟨"AttackBenchLaw", "next", "(LAttackBench;[J)I"⟩
abbrev k_AB_next : ByteArray := prog_1_method_16_code
def y_AB_next : MethodName := ⟨"AttackBench", "next", "()I"⟩
abbrev k_Listing_isOpen : ByteArray := prog_3_method_4_code
def y_Listing_isOpen : MethodName := ⟨"AttackBench$Listing", "isOpen", "()Z"⟩
abbrev k_Listing_tell : ByteArray := prog_3_method_6_code
def y_Listing_tell : MethodName := ⟨"AttackBench$Listing", "tell", "(LAttackBench$Senses;)I"⟩
abbrev k_Senses_everything : ByteArray := prog_5_method_4_code
def y_Senses_everything : MethodName := ⟨"AttackBench$Senses", "everything", "()I"⟩
abbrev k_Law_label : ByteArray := method_5_code
def y_Law_label : MethodName := ⟨"AttackBenchLaw", "label", "(LAttackBench;I[J)I"⟩
abbrev k_AB_label : ByteArray := prog_1_method_17_code
def y_AB_label : MethodName := ⟨"AttackBench", "label", "(I)I"⟩
abbrev k_Listing_told : ByteArray := prog_3_method_5_code
def y_Listing_told : MethodName := ⟨"AttackBench$Listing", "told", "()I"⟩
abbrev k_Law_count : ByteArray := method_6_code
def y_Law_count : MethodName := ⟨"AttackBenchLaw", "count", "(LAttackBench;I[J)I"⟩
abbrev k_AB_count : ByteArray := prog_1_method_18_code
def y_AB_count : MethodName := ⟨"AttackBench", "count", "(I)I"⟩
abbrev k_Senses_tally : ByteArray := prog_5_method_6_code
def y_Senses_tally : MethodName := ⟨"AttackBench$Senses", "tally", "(I)I"⟩
abbrev k_Law_holds : ByteArray := method_7_code
def y_Law_holds : MethodName := ⟨"AttackBenchLaw", "holds", "(LAttackBench;IIZ[J)I"⟩
abbrev k_AB_holds : ByteArray := prog_1_method_19_code
def y_AB_holds : MethodName := ⟨"AttackBench", "holds", "(IIZ)Z"⟩
abbrev k_Law_dialogue : ByteArray := method_8_code
def y_Law_dialogue : MethodName := ⟨"AttackBenchLaw", "dialogue", "(LAttackBench;I[J)I"⟩
abbrev k_AB_dialogue : ByteArray := prog_1_method_20_code
def y_AB_dialogue : MethodName := ⟨"AttackBench", "dialogue", "(I)I"⟩
abbrev k_Talk_about : ByteArray := prog_6_method_2_code
def y_Talk_about : MethodName := ⟨"AttackBench$Talk", "about", "(ILAttackBench$Web;LAttackBench$Grounds;)I"⟩
abbrev k_Talk_defend : ByteArray := prog_6_method_4_code
def y_Talk_defend : MethodName := ⟨"AttackBench$Talk", "defend", "(IILAttackBench$Web;LAttackBench$Grounds;I)V"⟩
abbrev k_Talk_say : ByteArray := prog_6_method_5_code
def y_Talk_say : MethodName := ⟨"AttackBench$Talk", "say", "(III)I"⟩
abbrev k_Web_attackersOfOne : ByteArray := prog_7_method_11_code
def y_Web_attackersOfOne : MethodName := ⟨"AttackBench$Web", "attackersOfOne", "(I)I"⟩
abbrev k_Grounds_earliestIn : ByteArray := prog_2_method_5_code
def y_Grounds_earliestIn : MethodName := ⟨"AttackBench$Grounds", "earliestIn", "(I)I"⟩
abbrev k_Mo_init : ByteArray := prog_9_method_1_code
def y_Mo_init : MethodName := ⟨"AttackBenchModel", "<init>", "()V"⟩
abbrev k_Mo_thrown : ByteArray := prog_9_method_2_code
def y_Mo_thrown : MethodName := ⟨"AttackBenchModel", "thrown", "()I"⟩
abbrev k_Mo_claim : ByteArray := prog_9_method_8_code
def y_Mo_claim : MethodName := ⟨"AttackBenchModel", "claim", "()I"⟩
abbrev k_Mo_comes : ByteArray := prog_9_method_6_code
def y_Mo_comes : MethodName := ⟨"AttackBenchModel", "comes", "()I"⟩
abbrev k_Mo_changes : ByteArray := prog_9_method_7_code
def y_Mo_changes : MethodName := ⟨"AttackBenchModel", "changes", "()V"⟩
abbrev k_Mo_attack : ByteArray := prog_9_method_10_code
def y_Mo_attack : MethodName := ⟨"AttackBenchModel", "attack", "(IIZ)Z"⟩
abbrev k_Mo_isArgument : ByteArray := prog_9_method_3_code
def y_Mo_isArgument : MethodName := ⟨"AttackBenchModel", "isArgument", "(I)Z"⟩
abbrev k_Mo_sets : ByteArray := prog_9_method_9_code
def y_Mo_sets : MethodName := ⟨"AttackBenchModel", "sets", "(IIZ)V"⟩
abbrev k_Mo_attacks : ByteArray := prog_9_method_11_code
def y_Mo_attacks : MethodName := ⟨"AttackBenchModel", "attacks", "(II)Z"⟩
abbrev k_Mo_joint : ByteArray := prog_9_method_12_code
def y_Mo_joint : MethodName := ⟨"AttackBenchModel", "joint", "(III)I"⟩
abbrev k_Mo_support : ByteArray := prog_9_method_13_code
def y_Mo_support : MethodName := ⟨"AttackBenchModel", "support", "(II)I"⟩
abbrev k_Mo_arguments : ByteArray := prog_9_method_14_code
def y_Mo_arguments : MethodName := ⟨"AttackBenchModel", "arguments", "()I"⟩
abbrev k_Mo_isFree : ByteArray := prog_9_method_22_code
def y_Mo_isFree : MethodName := ⟨"AttackBenchModel", "isFree", "(I)Z"⟩
abbrev k_Mo_reckon : ByteArray := prog_9_method_19_code
def y_Mo_reckon : MethodName := ⟨"AttackBenchModel", "reckon", "()V"⟩
abbrev k_Mo_defended : ByteArray := prog_9_method_15_code
def y_Mo_defended : MethodName := ⟨"AttackBenchModel", "defended", "(I)I"⟩
abbrev k_Mo_isFreeSet : ByteArray := prog_9_method_18_code
def y_Mo_isFreeSet : MethodName := ⟨"AttackBenchModel", "isFreeSet", "(I)Z"⟩
abbrev k_Mo_adds : ByteArray := prog_9_method_17_code
def y_Mo_adds : MethodName := ⟨"AttackBenchModel", "adds", "(II)V"⟩
abbrev k_Mo_looksAbove : ByteArray := prog_9_method_16_code
def y_Mo_looksAbove : MethodName := ⟨"AttackBenchModel", "looksAbove", "()V"⟩
abbrev k_Mo_goesRound : ByteArray := prog_9_method_20_code
def y_Mo_goesRound : MethodName := ⟨"AttackBenchModel", "goesRound", "()V"⟩
abbrev k_Mo_isSet : ByteArray := prog_9_method_4_code
def y_Mo_isSet : MethodName := ⟨"AttackBenchModel", "isSet", "(I)Z"⟩
abbrev k_Mo_is : ByteArray := prog_9_method_23_code
def y_Mo_is : MethodName := ⟨"AttackBenchModel", "is", "(II)Z"⟩
abbrev k_Mo_isKind : ByteArray := prog_9_method_5_code
def y_Mo_isKind : MethodName := ⟨"AttackBenchModel", "isKind", "(I)Z"⟩
abbrev k_Mo_isOf : ByteArray := prog_9_method_21_code
def y_Mo_isOf : MethodName := ⟨"AttackBenchModel", "isOf", "(II)Z"⟩
abbrev k_Mo_attackedBy : ByteArray := prog_9_method_24_code
def y_Mo_attackedBy : MethodName := ⟨"AttackBenchModel", "attackedBy", "(I)I"⟩
abbrev k_Mo_defendedBy : ByteArray := prog_9_method_25_code
def y_Mo_defendedBy : MethodName := ⟨"AttackBenchModel", "defendedBy", "(I)I"⟩
abbrev k_Mo_grounded : ByteArray := prog_9_method_26_code
def y_Mo_grounded : MethodName := ⟨"AttackBenchModel", "grounded", "()I"⟩
abbrev k_Mo_round : ByteArray := prog_9_method_27_code
def y_Mo_round : MethodName := ⟨"AttackBenchModel", "round", "(I)I"⟩
abbrev k_Mo_ideal : ByteArray := prog_9_method_28_code
def y_Mo_ideal : MethodName := ⟨"AttackBenchModel", "ideal", "()I"⟩
abbrev k_Mo_start : ByteArray := prog_9_method_29_code
def y_Mo_start : MethodName := ⟨"AttackBenchModel", "start", "(I)V"⟩
abbrev k_Mo_next : ByteArray := prog_9_method_30_code
def y_Mo_next : MethodName := ⟨"AttackBenchModel", "next", "()I"⟩
abbrev k_Mo_label : ByteArray := prog_9_method_31_code
def y_Mo_label : MethodName := ⟨"AttackBenchModel", "label", "(I)I"⟩
abbrev k_Mo_count : ByteArray := prog_9_method_32_code
def y_Mo_count : MethodName := ⟨"AttackBenchModel", "count", "(I)I"⟩
abbrev k_Mo_holds : ByteArray := prog_9_method_33_code
def y_Mo_holds : MethodName := ⟨"AttackBenchModel", "holds", "(IIZ)Z"⟩
abbrev k_Mo_dialogue : ByteArray := prog_9_method_36_code
def y_Mo_dialogue : MethodName := ⟨"AttackBenchModel", "dialogue", "(I)I"⟩
abbrev k_Mo_puts : ByteArray := prog_9_method_34_code
def y_Mo_puts : MethodName := ⟨"AttackBenchModel", "puts", "(III)V"⟩
abbrev k_Mo_against : ByteArray := prog_9_method_35_code
def y_Mo_against : MethodName := ⟨"AttackBenchModel", "against", "(I)I"⟩
abbrev k_Mo_move : ByteArray := prog_9_method_37_code
def y_Mo_move : MethodName := ⟨"AttackBenchModel", "move", "(II)I"⟩
abbrev k_Mo_circle : ByteArray := prog_9_method_41_code
def y_Mo_circle : MethodName := ⟨"AttackBenchModel", "circle", "(I)I"⟩
abbrev k_Mo_numbers : ByteArray := prog_9_method_38_code
def y_Mo_numbers : MethodName := ⟨"AttackBenchModel", "numbers", "()I"⟩
abbrev k_Mo_from : ByteArray := prog_9_method_39_code
def y_Mo_from : MethodName := ⟨"AttackBenchModel", "from", "(I)I"⟩
abbrev k_Mo_both : ByteArray := prog_9_method_40_code
def y_Mo_both : MethodName := ⟨"AttackBenchModel", "both", "(I)I"⟩
abbrev k_Mo_circles : ByteArray := prog_9_method_42_code
def y_Mo_circles : MethodName := ⟨"AttackBenchModel", "circles", "()I"⟩
def isNest : Cond → Bool
  | .methodLinkNest .. => true
  | .fieldLinkNest .. => true
  | _ => false
def allw : List Cond := lw_tbl.filter (fun w => goodWord w || isNest w)
theorem allw_ok : allw.all (fun w => goodWord w || isNest w) = true := List.all_eq_true.mpr fun w h => (List.mem_filter.mp h).2
theorem lay_AB_0 : u_lay "AttackBench" T_AB 0 ∈ allw := List.mem_filter.mpr ⟨List.mem_of_getElem? (i := 173) (by decide +kernel), by decide +kernel⟩
theorem lay_AB_1 : u_lay "AttackBench" T_AB 1 ∈ allw := List.mem_filter.mpr ⟨List.mem_of_getElem? (i := 175) (by decide +kernel), by decide +kernel⟩
theorem lay_AB_2 : u_lay "AttackBench" T_AB 2 ∈ allw := List.mem_filter.mpr ⟨List.mem_of_getElem? (i := 177) (by decide +kernel), by decide +kernel⟩
theorem lay_AB_3 : u_lay "AttackBench" T_AB 3 ∈ allw := List.mem_filter.mpr ⟨List.mem_of_getElem? (i := 179) (by decide +kernel), by decide +kernel⟩
theorem lay_AB_4 : u_lay "AttackBench" T_AB 4 ∈ allw := List.mem_filter.mpr ⟨List.mem_of_getElem? (i := 181) (by decide +kernel), by decide +kernel⟩
theorem lay_AB_5 : u_lay "AttackBench" T_AB 5 ∈ allw := List.mem_filter.mpr ⟨List.mem_of_getElem? (i := 183) (by decide +kernel), by decide +kernel⟩
theorem lay_AB : ∀ w ∈ u_ws "AttackBench" T_AB 6, w ∈ allw := by
  intro w hw
  obtain ⟨j, hj, rfl⟩ := List.mem_map.mp hw
  have hj := List.mem_range.mp hj
  match j, hj with
  | 0, _ => exact lay_AB_0
  | 1, _ => exact lay_AB_1
  | 2, _ => exact lay_AB_2
  | 3, _ => exact lay_AB_3
  | 4, _ => exact lay_AB_4
  | 5, _ => exact lay_AB_5
  | j + 6, h => exact absurd h (by omega)
theorem df_AB : ∀ j, j < 6 → defaultValue (tt_AB j) = vp_V [.null, .null, .null, .null, .null, .null] j := by
  intro j hj
  match j, hj with
  | 0, _ => rfl
  | 1, _ => rfl
  | 2, _ => rfl
  | 3, _ => rfl
  | 4, _ => rfl
  | 5, _ => rfl
  | j + 6, h => exact absurd h (by omega)
theorem lay_Grounds_0 : u_lay "AttackBench$Grounds" T_Grounds 0 ∈ allw := List.mem_filter.mpr ⟨List.mem_of_getElem? (i := 124) (by decide +kernel), by decide +kernel⟩
theorem lay_Grounds_1 : u_lay "AttackBench$Grounds" T_Grounds 1 ∈ allw := List.mem_filter.mpr ⟨List.mem_of_getElem? (i := 126) (by decide +kernel), by decide +kernel⟩
theorem lay_Grounds : ∀ w ∈ u_ws "AttackBench$Grounds" T_Grounds 2, w ∈ allw := by
  intro w hw
  obtain ⟨j, hj, rfl⟩ := List.mem_map.mp hw
  have hj := List.mem_range.mp hj
  match j, hj with
  | 0, _ => exact lay_Grounds_0
  | 1, _ => exact lay_Grounds_1
  | j + 2, h => exact absurd h (by omega)
theorem df_Grounds : ∀ j, j < 2 → defaultValue (tt_Grounds j) = vp_V [.null, .int 0] j := by
  intro j hj
  match j, hj with
  | 0, _ => rfl
  | 1, _ => rfl
  | j + 2, h => exact absurd h (by omega)
theorem lay_Listing_0 : u_lay "AttackBench$Listing" T_Listing 0 ∈ allw := List.mem_filter.mpr ⟨List.mem_of_getElem? (i := 107) (by decide +kernel), by decide +kernel⟩
theorem lay_Listing_1 : u_lay "AttackBench$Listing" T_Listing 1 ∈ allw := List.mem_filter.mpr ⟨List.mem_of_getElem? (i := 109) (by decide +kernel), by decide +kernel⟩
theorem lay_Listing_2 : u_lay "AttackBench$Listing" T_Listing 2 ∈ allw := List.mem_filter.mpr ⟨List.mem_of_getElem? (i := 111) (by decide +kernel), by decide +kernel⟩
theorem lay_Listing_3 : u_lay "AttackBench$Listing" T_Listing 3 ∈ allw := List.mem_filter.mpr ⟨List.mem_of_getElem? (i := 113) (by decide +kernel), by decide +kernel⟩
theorem lay_Listing : ∀ w ∈ u_ws "AttackBench$Listing" T_Listing 4, w ∈ allw := by
  intro w hw
  obtain ⟨j, hj, rfl⟩ := List.mem_map.mp hw
  have hj := List.mem_range.mp hj
  match j, hj with
  | 0, _ => exact lay_Listing_0
  | 1, _ => exact lay_Listing_1
  | 2, _ => exact lay_Listing_2
  | 3, _ => exact lay_Listing_3
  | j + 4, h => exact absurd h (by omega)
theorem df_Listing : ∀ j, j < 4 → defaultValue (tt_Listing j) = vp_V [.int 0, .int 0, .int 0, .int 0] j := by
  intro j hj
  match j, hj with
  | 0, _ => rfl
  | 1, _ => rfl
  | 2, _ => rfl
  | 3, _ => rfl
  | j + 4, h => exact absurd h (by omega)
theorem lay_Rings_0 : u_lay "AttackBench$Rings" T_Rings 0 ∈ allw := List.mem_filter.mpr ⟨List.mem_of_getElem? (i := 160) (by decide +kernel), by decide +kernel⟩
theorem lay_Rings_1 : u_lay "AttackBench$Rings" T_Rings 1 ∈ allw := List.mem_filter.mpr ⟨List.mem_of_getElem? (i := 162) (by decide +kernel), by decide +kernel⟩
theorem lay_Rings_2 : u_lay "AttackBench$Rings" T_Rings 2 ∈ allw := List.mem_filter.mpr ⟨List.mem_of_getElem? (i := 164) (by decide +kernel), by decide +kernel⟩
theorem lay_Rings : ∀ w ∈ u_ws "AttackBench$Rings" T_Rings 3, w ∈ allw := by
  intro w hw
  obtain ⟨j, hj, rfl⟩ := List.mem_map.mp hw
  have hj := List.mem_range.mp hj
  match j, hj with
  | 0, _ => exact lay_Rings_0
  | 1, _ => exact lay_Rings_1
  | 2, _ => exact lay_Rings_2
  | j + 3, h => exact absurd h (by omega)
theorem df_Rings : ∀ j, j < 3 → defaultValue (tt_Rings j) = vp_V [.null, .null, .int 0] j := by
  intro j hj
  match j, hj with
  | 0, _ => rfl
  | 1, _ => rfl
  | 2, _ => rfl
  | j + 3, h => exact absurd h (by omega)
theorem lay_Senses_0 : u_lay "AttackBench$Senses" T_Senses 0 ∈ allw := List.mem_filter.mpr ⟨List.mem_of_getElem? (i := 84) (by decide +kernel), by decide +kernel⟩
theorem lay_Senses_1 : u_lay "AttackBench$Senses" T_Senses 1 ∈ allw := List.mem_filter.mpr ⟨List.mem_of_getElem? (i := 86) (by decide +kernel), by decide +kernel⟩
theorem lay_Senses_2 : u_lay "AttackBench$Senses" T_Senses 2 ∈ allw := List.mem_filter.mpr ⟨List.mem_of_getElem? (i := 88) (by decide +kernel), by decide +kernel⟩
theorem lay_Senses_3 : u_lay "AttackBench$Senses" T_Senses 3 ∈ allw := List.mem_filter.mpr ⟨List.mem_of_getElem? (i := 90) (by decide +kernel), by decide +kernel⟩
theorem lay_Senses_4 : u_lay "AttackBench$Senses" T_Senses 4 ∈ allw := List.mem_filter.mpr ⟨List.mem_of_getElem? (i := 92) (by decide +kernel), by decide +kernel⟩
theorem lay_Senses_5 : u_lay "AttackBench$Senses" T_Senses 5 ∈ allw := List.mem_filter.mpr ⟨List.mem_of_getElem? (i := 94) (by decide +kernel), by decide +kernel⟩
theorem lay_Senses : ∀ w ∈ u_ws "AttackBench$Senses" T_Senses 6, w ∈ allw := by
  intro w hw
  obtain ⟨j, hj, rfl⟩ := List.mem_map.mp hw
  have hj := List.mem_range.mp hj
  match j, hj with
  | 0, _ => exact lay_Senses_0
  | 1, _ => exact lay_Senses_1
  | 2, _ => exact lay_Senses_2
  | 3, _ => exact lay_Senses_3
  | 4, _ => exact lay_Senses_4
  | 5, _ => exact lay_Senses_5
  | j + 6, h => exact absurd h (by omega)
theorem df_Senses : ∀ j, j < 6 → defaultValue (tt_Senses j) = vp_V [.null, .null, .null, .int 0, .int 0, .int 0] j := by
  intro j hj
  match j, hj with
  | 0, _ => rfl
  | 1, _ => rfl
  | 2, _ => rfl
  | 3, _ => rfl
  | 4, _ => rfl
  | 5, _ => rfl
  | j + 6, h => exact absurd h (by omega)
theorem lay_Talk_0 : u_lay "AttackBench$Talk" T_Talk 0 ∈ allw := List.mem_filter.mpr ⟨List.mem_of_getElem? (i := 140) (by decide +kernel), by decide +kernel⟩
theorem lay_Talk_1 : u_lay "AttackBench$Talk" T_Talk 1 ∈ allw := List.mem_filter.mpr ⟨List.mem_of_getElem? (i := 142) (by decide +kernel), by decide +kernel⟩
theorem lay_Talk_2 : u_lay "AttackBench$Talk" T_Talk 2 ∈ allw := List.mem_filter.mpr ⟨List.mem_of_getElem? (i := 144) (by decide +kernel), by decide +kernel⟩
theorem lay_Talk_3 : u_lay "AttackBench$Talk" T_Talk 3 ∈ allw := List.mem_filter.mpr ⟨List.mem_of_getElem? (i := 146) (by decide +kernel), by decide +kernel⟩
theorem lay_Talk_4 : u_lay "AttackBench$Talk" T_Talk 4 ∈ allw := List.mem_filter.mpr ⟨List.mem_of_getElem? (i := 148) (by decide +kernel), by decide +kernel⟩
theorem lay_Talk : ∀ w ∈ u_ws "AttackBench$Talk" T_Talk 5, w ∈ allw := by
  intro w hw
  obtain ⟨j, hj, rfl⟩ := List.mem_map.mp hw
  have hj := List.mem_range.mp hj
  match j, hj with
  | 0, _ => exact lay_Talk_0
  | 1, _ => exact lay_Talk_1
  | 2, _ => exact lay_Talk_2
  | 3, _ => exact lay_Talk_3
  | 4, _ => exact lay_Talk_4
  | j + 5, h => exact absurd h (by omega)
theorem df_Talk : ∀ j, j < 5 → defaultValue (tt_Talk j) = vp_V [.null, .null, .null, .int 0, .int 0] j := by
  intro j hj
  match j, hj with
  | 0, _ => rfl
  | 1, _ => rfl
  | 2, _ => rfl
  | 3, _ => rfl
  | 4, _ => rfl
  | j + 5, h => exact absurd h (by omega)
theorem lay_Web_0 : u_lay "AttackBench$Web" T_Web 0 ∈ allw := List.mem_filter.mpr ⟨List.mem_of_getElem? (i := 64) (by decide +kernel), by decide +kernel⟩
theorem lay_Web_1 : u_lay "AttackBench$Web" T_Web 1 ∈ allw := List.mem_filter.mpr ⟨List.mem_of_getElem? (i := 66) (by decide +kernel), by decide +kernel⟩
theorem lay_Web_2 : u_lay "AttackBench$Web" T_Web 2 ∈ allw := List.mem_filter.mpr ⟨List.mem_of_getElem? (i := 68) (by decide +kernel), by decide +kernel⟩
theorem lay_Web : ∀ w ∈ u_ws "AttackBench$Web" T_Web 3, w ∈ allw := by
  intro w hw
  obtain ⟨j, hj, rfl⟩ := List.mem_map.mp hw
  have hj := List.mem_range.mp hj
  match j, hj with
  | 0, _ => exact lay_Web_0
  | 1, _ => exact lay_Web_1
  | 2, _ => exact lay_Web_2
  | j + 3, h => exact absurd h (by omega)
theorem df_Web : ∀ j, j < 3 → defaultValue (tt_Web j) = vp_V [.null, .null, .int 0] j := by
  intro j hj
  match j, hj with
  | 0, _ => rfl
  | 1, _ => rfl
  | 2, _ => rfl
  | j + 3, h => exact absurd h (by omega)
theorem lay_Mo_0 : u_lay "AttackBenchModel" T_Mo 0 ∈ allw := List.mem_filter.mpr ⟨List.mem_of_getElem? (i := 636) (by decide +kernel), by decide +kernel⟩
theorem lay_Mo_1 : u_lay "AttackBenchModel" T_Mo 1 ∈ allw := List.mem_filter.mpr ⟨List.mem_of_getElem? (i := 638) (by decide +kernel), by decide +kernel⟩
theorem lay_Mo_2 : u_lay "AttackBenchModel" T_Mo 2 ∈ allw := List.mem_filter.mpr ⟨List.mem_of_getElem? (i := 640) (by decide +kernel), by decide +kernel⟩
theorem lay_Mo_3 : u_lay "AttackBenchModel" T_Mo 3 ∈ allw := List.mem_filter.mpr ⟨List.mem_of_getElem? (i := 642) (by decide +kernel), by decide +kernel⟩
theorem lay_Mo_4 : u_lay "AttackBenchModel" T_Mo 4 ∈ allw := List.mem_filter.mpr ⟨List.mem_of_getElem? (i := 644) (by decide +kernel), by decide +kernel⟩
theorem lay_Mo_5 : u_lay "AttackBenchModel" T_Mo 5 ∈ allw := List.mem_filter.mpr ⟨List.mem_of_getElem? (i := 646) (by decide +kernel), by decide +kernel⟩
theorem lay_Mo_6 : u_lay "AttackBenchModel" T_Mo 6 ∈ allw := List.mem_filter.mpr ⟨List.mem_of_getElem? (i := 648) (by decide +kernel), by decide +kernel⟩
theorem lay_Mo_7 : u_lay "AttackBenchModel" T_Mo 7 ∈ allw := List.mem_filter.mpr ⟨List.mem_of_getElem? (i := 650) (by decide +kernel), by decide +kernel⟩
theorem lay_Mo_8 : u_lay "AttackBenchModel" T_Mo 8 ∈ allw := List.mem_filter.mpr ⟨List.mem_of_getElem? (i := 652) (by decide +kernel), by decide +kernel⟩
theorem lay_Mo_9 : u_lay "AttackBenchModel" T_Mo 9 ∈ allw := List.mem_filter.mpr ⟨List.mem_of_getElem? (i := 654) (by decide +kernel), by decide +kernel⟩
theorem lay_Mo_10 : u_lay "AttackBenchModel" T_Mo 10 ∈ allw := List.mem_filter.mpr ⟨List.mem_of_getElem? (i := 656) (by decide +kernel), by decide +kernel⟩
theorem lay_Mo_11 : u_lay "AttackBenchModel" T_Mo 11 ∈ allw := List.mem_filter.mpr ⟨List.mem_of_getElem? (i := 658) (by decide +kernel), by decide +kernel⟩
theorem lay_Mo_12 : u_lay "AttackBenchModel" T_Mo 12 ∈ allw := List.mem_filter.mpr ⟨List.mem_of_getElem? (i := 660) (by decide +kernel), by decide +kernel⟩
theorem lay_Mo_13 : u_lay "AttackBenchModel" T_Mo 13 ∈ allw := List.mem_filter.mpr ⟨List.mem_of_getElem? (i := 662) (by decide +kernel), by decide +kernel⟩
theorem lay_Mo_14 : u_lay "AttackBenchModel" T_Mo 14 ∈ allw := List.mem_filter.mpr ⟨List.mem_of_getElem? (i := 664) (by decide +kernel), by decide +kernel⟩
theorem lay_Mo_15 : u_lay "AttackBenchModel" T_Mo 15 ∈ allw := List.mem_filter.mpr ⟨List.mem_of_getElem? (i := 666) (by decide +kernel), by decide +kernel⟩
theorem lay_Mo_16 : u_lay "AttackBenchModel" T_Mo 16 ∈ allw := List.mem_filter.mpr ⟨List.mem_of_getElem? (i := 668) (by decide +kernel), by decide +kernel⟩
theorem lay_Mo_17 : u_lay "AttackBenchModel" T_Mo 17 ∈ allw := List.mem_filter.mpr ⟨List.mem_of_getElem? (i := 670) (by decide +kernel), by decide +kernel⟩
theorem lay_Mo_18 : u_lay "AttackBenchModel" T_Mo 18 ∈ allw := List.mem_filter.mpr ⟨List.mem_of_getElem? (i := 672) (by decide +kernel), by decide +kernel⟩
theorem lay_Mo_19 : u_lay "AttackBenchModel" T_Mo 19 ∈ allw := List.mem_filter.mpr ⟨List.mem_of_getElem? (i := 674) (by decide +kernel), by decide +kernel⟩
theorem lay_Mo_20 : u_lay "AttackBenchModel" T_Mo 20 ∈ allw := List.mem_filter.mpr ⟨List.mem_of_getElem? (i := 676) (by decide +kernel), by decide +kernel⟩
theorem lay_Mo_21 : u_lay "AttackBenchModel" T_Mo 21 ∈ allw := List.mem_filter.mpr ⟨List.mem_of_getElem? (i := 678) (by decide +kernel), by decide +kernel⟩
theorem lay_Mo_22 : u_lay "AttackBenchModel" T_Mo 22 ∈ allw := List.mem_filter.mpr ⟨List.mem_of_getElem? (i := 680) (by decide +kernel), by decide +kernel⟩
theorem lay_Mo_23 : u_lay "AttackBenchModel" T_Mo 23 ∈ allw := List.mem_filter.mpr ⟨List.mem_of_getElem? (i := 682) (by decide +kernel), by decide +kernel⟩
theorem lay_Mo_24 : u_lay "AttackBenchModel" T_Mo 24 ∈ allw := List.mem_filter.mpr ⟨List.mem_of_getElem? (i := 684) (by decide +kernel), by decide +kernel⟩
theorem lay_Mo : ∀ w ∈ u_ws "AttackBenchModel" T_Mo 25, w ∈ allw := by
  intro w hw
  obtain ⟨j, hj, rfl⟩ := List.mem_map.mp hw
  have hj := List.mem_range.mp hj
  match j, hj with
  | 0, _ => exact lay_Mo_0
  | 1, _ => exact lay_Mo_1
  | 2, _ => exact lay_Mo_2
  | 3, _ => exact lay_Mo_3
  | 4, _ => exact lay_Mo_4
  | 5, _ => exact lay_Mo_5
  | 6, _ => exact lay_Mo_6
  | 7, _ => exact lay_Mo_7
  | 8, _ => exact lay_Mo_8
  | 9, _ => exact lay_Mo_9
  | 10, _ => exact lay_Mo_10
  | 11, _ => exact lay_Mo_11
  | 12, _ => exact lay_Mo_12
  | 13, _ => exact lay_Mo_13
  | 14, _ => exact lay_Mo_14
  | 15, _ => exact lay_Mo_15
  | 16, _ => exact lay_Mo_16
  | 17, _ => exact lay_Mo_17
  | 18, _ => exact lay_Mo_18
  | 19, _ => exact lay_Mo_19
  | 20, _ => exact lay_Mo_20
  | 21, _ => exact lay_Mo_21
  | 22, _ => exact lay_Mo_22
  | 23, _ => exact lay_Mo_23
  | 24, _ => exact lay_Mo_24
  | j + 25, h => exact absurd h (by omega)
theorem df_Mo : ∀ j, j < 25 → defaultValue (tt_Mo j) = vp_V [.int 0, .int 0, .null, .null, .null, .null, .null, .null, .int 0, .int 0, .int 0, .int 0, .int 0, .null, .int 0, .int 0, .null, .null, .null, .null, .null, .null, .int 0, .null, .null] j := by
  intro j hj
  match j, hj with
  | 0, _ => rfl
  | 1, _ => rfl
  | 2, _ => rfl
  | 3, _ => rfl
  | 4, _ => rfl
  | 5, _ => rfl
  | 6, _ => rfl
  | 7, _ => rfl
  | 8, _ => rfl
  | 9, _ => rfl
  | 10, _ => rfl
  | 11, _ => rfl
  | 12, _ => rfl
  | 13, _ => rfl
  | 14, _ => rfl
  | 15, _ => rfl
  | 16, _ => rfl
  | 17, _ => rfl
  | 18, _ => rfl
  | 19, _ => rfl
  | 20, _ => rfl
  | 21, _ => rfl
  | 22, _ => rfl
  | 23, _ => rfl
  | 24, _ => rfl
  | j + 25, h => exact absurd h (by omega)
end
section
theorem d_AB_init_0 : decode k_AB_init 0 = .ok (.aload_n 0, 1) := by decide +kernel
theorem d_AB_init_1 : decode k_AB_init 1 = .ok (.invokespecial 3, 3) := by decide +kernel
theorem d_AB_init_4 : decode k_AB_init 4 = .ok (.aload_n 0, 1) := by decide +kernel
theorem d_AB_init_5 : decode k_AB_init 5 = .ok (.new 9, 3) := by decide +kernel
theorem d_AB_init_8 : decode k_AB_init 8 = .ok (.dup, 1) := by decide +kernel
theorem d_AB_init_9 : decode k_AB_init 9 = .ok (.invokespecial 11, 3) := by decide +kernel
theorem d_AB_init_12 : decode k_AB_init 12 = .ok (.putfield 12, 3) := by decide +kernel
theorem d_AB_init_15 : decode k_AB_init 15 = .ok (.aload_n 0, 1) := by decide +kernel
theorem d_AB_init_16 : decode k_AB_init 16 = .ok (.new 16, 3) := by decide +kernel
theorem d_AB_init_19 : decode k_AB_init 19 = .ok (.dup, 1) := by decide +kernel
theorem d_AB_init_20 : decode k_AB_init 20 = .ok (.invokespecial 18, 3) := by decide +kernel
theorem d_AB_init_23 : decode k_AB_init 23 = .ok (.putfield 19, 3) := by decide +kernel
theorem d_AB_init_26 : decode k_AB_init 26 = .ok (.aload_n 0, 1) := by decide +kernel
theorem d_AB_init_27 : decode k_AB_init 27 = .ok (.new 23, 3) := by decide +kernel
theorem d_AB_init_30 : decode k_AB_init 30 = .ok (.dup, 1) := by decide +kernel
theorem d_AB_init_31 : decode k_AB_init 31 = .ok (.invokespecial 25, 3) := by decide +kernel
theorem d_AB_init_34 : decode k_AB_init 34 = .ok (.putfield 26, 3) := by decide +kernel
theorem d_AB_init_37 : decode k_AB_init 37 = .ok (.aload_n 0, 1) := by decide +kernel
theorem d_AB_init_38 : decode k_AB_init 38 = .ok (.new 30, 3) := by decide +kernel
theorem d_AB_init_41 : decode k_AB_init 41 = .ok (.dup, 1) := by decide +kernel
theorem d_AB_init_42 : decode k_AB_init 42 = .ok (.invokespecial 32, 3) := by decide +kernel
theorem d_AB_init_45 : decode k_AB_init 45 = .ok (.putfield 33, 3) := by decide +kernel
theorem d_AB_init_48 : decode k_AB_init 48 = .ok (.aload_n 0, 1) := by decide +kernel
theorem d_AB_init_49 : decode k_AB_init 49 = .ok (.new 37, 3) := by decide +kernel
theorem d_AB_init_52 : decode k_AB_init 52 = .ok (.dup, 1) := by decide +kernel
theorem d_AB_init_53 : decode k_AB_init 53 = .ok (.invokespecial 39, 3) := by decide +kernel
theorem d_AB_init_56 : decode k_AB_init 56 = .ok (.putfield 40, 3) := by decide +kernel
theorem d_AB_init_59 : decode k_AB_init 59 = .ok (.aload_n 0, 1) := by decide +kernel
theorem d_AB_init_60 : decode k_AB_init 60 = .ok (.new 44, 3) := by decide +kernel
theorem d_AB_init_63 : decode k_AB_init 63 = .ok (.dup, 1) := by decide +kernel
theorem d_AB_init_64 : decode k_AB_init 64 = .ok (.invokespecial 46, 3) := by decide +kernel
theorem d_AB_init_67 : decode k_AB_init 67 = .ok (.putfield 47, 3) := by decide +kernel
theorem d_AB_init_70 : decode k_AB_init 70 = .ok (.return_, 1) := by decide +kernel
theorem d_Web_init_0 : decode k_Web_init 0 = .ok (.aload_n 0, 1) := by decide +kernel
theorem d_Web_init_1 : decode k_Web_init 1 = .ok (.invokespecial 3, 3) := by decide +kernel
theorem d_Web_init_4 : decode k_Web_init 4 = .ok (.aload_n 0, 1) := by decide +kernel
theorem d_Web_init_5 : decode k_Web_init 5 = .ok (.bipush 12, 2) := by decide +kernel
theorem d_Web_init_7 : decode k_Web_init 7 = .ok (.newarray .int, 2) := by decide +kernel
theorem d_Web_init_9 : decode k_Web_init 9 = .ok (.putfield 9, 3) := by decide +kernel
theorem d_Web_init_12 : decode k_Web_init 12 = .ok (.aload_n 0, 1) := by decide +kernel
theorem d_Web_init_13 : decode k_Web_init 13 = .ok (.bipush 12, 2) := by decide +kernel
theorem d_Web_init_15 : decode k_Web_init 15 = .ok (.newarray .int, 2) := by decide +kernel
theorem d_Web_init_17 : decode k_Web_init 17 = .ok (.putfield 15, 3) := by decide +kernel
theorem d_Web_init_20 : decode k_Web_init 20 = .ok (.aload_n 0, 1) := by decide +kernel
theorem d_Web_init_21 : decode k_Web_init 21 = .ok (.iconst 0, 1) := by decide +kernel
theorem d_Web_init_22 : decode k_Web_init 22 = .ok (.putfield 18, 3) := by decide +kernel
theorem d_Web_init_25 : decode k_Web_init 25 = .ok (.return_, 1) := by decide +kernel
theorem d_AB_claim_0 : decode k_AB_claim 0 = .ok (.aload_n 0, 1) := by decide +kernel
theorem d_AB_claim_1 : decode k_AB_claim 1 = .ok (.getfield 12, 3) := by decide +kernel
theorem d_AB_claim_4 : decode k_AB_claim 4 = .ok (.iconst 1, 1) := by decide +kernel
theorem d_AB_claim_5 : decode k_AB_claim 5 = .ok (.invokevirtual 51, 3) := by decide +kernel
theorem d_AB_claim_8 : decode k_AB_claim 8 = .ok (.ifCond .ne 5, 3) := by decide +kernel
theorem d_AB_claim_11 : decode k_AB_claim 11 = .ok (.iconst (-1), 1) := by decide +kernel
theorem d_AB_claim_12 : decode k_AB_claim 12 = .ok (.ireturn, 1) := by decide +kernel
theorem d_AB_claim_13 : decode k_AB_claim 13 = .ok (.aload_n 0, 1) := by decide +kernel
theorem d_AB_claim_14 : decode k_AB_claim 14 = .ok (.getfield 12, 3) := by decide +kernel
theorem d_AB_claim_17 : decode k_AB_claim 17 = .ok (.invokevirtual 55, 3) := by decide +kernel
theorem d_AB_claim_20 : decode k_AB_claim 20 = .ok (.istore_n 1, 1) := by decide +kernel
theorem d_AB_claim_21 : decode k_AB_claim 21 = .ok (.aload_n 0, 1) := by decide +kernel
theorem d_AB_claim_22 : decode k_AB_claim 22 = .ok (.invokevirtual 59, 3) := by decide +kernel
theorem d_AB_claim_25 : decode k_AB_claim 25 = .ok (.iload_n 1, 1) := by decide +kernel
theorem d_AB_claim_26 : decode k_AB_claim 26 = .ok (.ireturn, 1) := by decide +kernel
theorem d_Web_hasRoomFor_0 : decode k_Web_hasRoomFor 0 = .ok (.aload_n 0, 1) := by decide +kernel
theorem d_Web_hasRoomFor_1 : decode k_Web_hasRoomFor 1 = .ok (.getfield 18, 3) := by decide +kernel
theorem d_Web_hasRoomFor_4 : decode k_Web_hasRoomFor 4 = .ok (.iload_n 1, 1) := by decide +kernel
theorem d_Web_hasRoomFor_5 : decode k_Web_hasRoomFor 5 = .ok (.iadd, 1) := by decide +kernel
theorem d_Web_hasRoomFor_6 : decode k_Web_hasRoomFor 6 = .ok (.bipush 12, 2) := by decide +kernel
theorem d_Web_hasRoomFor_8 : decode k_Web_hasRoomFor 8 = .ok (.if_icmp .gt 7, 3) := by decide +kernel
theorem d_Web_hasRoomFor_11 : decode k_Web_hasRoomFor 11 = .ok (.iconst 1, 1) := by decide +kernel
theorem d_Web_hasRoomFor_12 : decode k_Web_hasRoomFor 12 = .ok (.goto 4, 3) := by decide +kernel
theorem d_Web_hasRoomFor_15 : decode k_Web_hasRoomFor 15 = .ok (.iconst 0, 1) := by decide +kernel
theorem d_Web_hasRoomFor_16 : decode k_Web_hasRoomFor 16 = .ok (.ireturn, 1) := by decide +kernel
theorem d_Web_add_0 : decode k_Web_add 0 = .ok (.aload_n 0, 1) := by decide +kernel
theorem d_Web_add_1 : decode k_Web_add 1 = .ok (.iconst 1, 1) := by decide +kernel
theorem d_Web_add_2 : decode k_Web_add 2 = .ok (.invokevirtual 30, 3) := by decide +kernel
theorem d_Web_add_5 : decode k_Web_add 5 = .ok (.ifCond .ne 5, 3) := by decide +kernel
theorem d_Web_add_8 : decode k_Web_add 8 = .ok (.iconst (-1), 1) := by decide +kernel
theorem d_Web_add_9 : decode k_Web_add 9 = .ok (.ireturn, 1) := by decide +kernel
theorem d_Web_add_10 : decode k_Web_add 10 = .ok (.aload_n 0, 1) := by decide +kernel
theorem d_Web_add_11 : decode k_Web_add 11 = .ok (.dup, 1) := by decide +kernel
theorem d_Web_add_12 : decode k_Web_add 12 = .ok (.getfield 18, 3) := by decide +kernel
theorem d_Web_add_15 : decode k_Web_add 15 = .ok (.iconst 1, 1) := by decide +kernel
theorem d_Web_add_16 : decode k_Web_add 16 = .ok (.iadd, 1) := by decide +kernel
theorem d_Web_add_17 : decode k_Web_add 17 = .ok (.putfield 18, 3) := by decide +kernel
theorem d_Web_add_20 : decode k_Web_add 20 = .ok (.aload_n 0, 1) := by decide +kernel
theorem d_Web_add_21 : decode k_Web_add 21 = .ok (.getfield 18, 3) := by decide +kernel
theorem d_Web_add_24 : decode k_Web_add 24 = .ok (.iconst 1, 1) := by decide +kernel
theorem d_Web_add_25 : decode k_Web_add 25 = .ok (.isub, 1) := by decide +kernel
theorem d_Web_add_26 : decode k_Web_add 26 = .ok (.ireturn, 1) := by decide +kernel
theorem d_AB_changed_0 : decode k_AB_changed 0 = .ok (.aload_n 0, 1) := by decide +kernel
theorem d_AB_changed_1 : decode k_AB_changed 1 = .ok (.getfield 26, 3) := by decide +kernel
theorem d_AB_changed_4 : decode k_AB_changed 4 = .ok (.invokevirtual 167, 3) := by decide +kernel
theorem d_AB_changed_7 : decode k_AB_changed 7 = .ok (.aload_n 0, 1) := by decide +kernel
theorem d_AB_changed_8 : decode k_AB_changed 8 = .ok (.getfield 19, 3) := by decide +kernel
theorem d_AB_changed_11 : decode k_AB_changed 11 = .ok (.invokevirtual 170, 3) := by decide +kernel
theorem d_AB_changed_14 : decode k_AB_changed 14 = .ok (.return_, 1) := by decide +kernel
theorem d_AB_attack_0 : decode k_AB_attack 0 = .ok (.aload_n 0, 1) := by decide +kernel
theorem d_AB_attack_1 : decode k_AB_attack 1 = .ok (.getfield 12, 3) := by decide +kernel
theorem d_AB_attack_4 : decode k_AB_attack 4 = .ok (.iload_n 1, 1) := by decide +kernel
theorem d_AB_attack_5 : decode k_AB_attack 5 = .ok (.invokevirtual 62, 3) := by decide +kernel
theorem d_AB_attack_8 : decode k_AB_attack 8 = .ok (.ifCond .eq 14, 3) := by decide +kernel
theorem d_AB_attack_11 : decode k_AB_attack 11 = .ok (.aload_n 0, 1) := by decide +kernel
theorem d_AB_attack_12 : decode k_AB_attack 12 = .ok (.getfield 12, 3) := by decide +kernel
theorem d_AB_attack_15 : decode k_AB_attack 15 = .ok (.iload_n 2, 1) := by decide +kernel
theorem d_AB_attack_16 : decode k_AB_attack 16 = .ok (.invokevirtual 62, 3) := by decide +kernel
theorem d_AB_attack_19 : decode k_AB_attack 19 = .ok (.ifCond .ne 5, 3) := by decide +kernel
theorem d_AB_attack_22 : decode k_AB_attack 22 = .ok (.iconst 0, 1) := by decide +kernel
theorem d_AB_attack_23 : decode k_AB_attack 23 = .ok (.ireturn, 1) := by decide +kernel
theorem d_AB_attack_24 : decode k_AB_attack 24 = .ok (.aload_n 0, 1) := by decide +kernel
theorem d_AB_attack_25 : decode k_AB_attack 25 = .ok (.getfield 12, 3) := by decide +kernel
theorem d_AB_attack_28 : decode k_AB_attack 28 = .ok (.iload_n 1, 1) := by decide +kernel
theorem d_AB_attack_29 : decode k_AB_attack 29 = .ok (.iload_n 2, 1) := by decide +kernel
theorem d_AB_attack_30 : decode k_AB_attack 30 = .ok (.invokevirtual 65, 3) := by decide +kernel
theorem d_AB_attack_33 : decode k_AB_attack 33 = .ok (.iload_n 3, 1) := by decide +kernel
theorem d_AB_attack_34 : decode k_AB_attack 34 = .ok (.if_icmp .eq 17, 3) := by decide +kernel
theorem d_AB_attack_37 : decode k_AB_attack 37 = .ok (.aload_n 0, 1) := by decide +kernel
theorem d_AB_attack_38 : decode k_AB_attack 38 = .ok (.getfield 12, 3) := by decide +kernel
theorem d_AB_attack_41 : decode k_AB_attack 41 = .ok (.iload_n 1, 1) := by decide +kernel
theorem d_AB_attack_42 : decode k_AB_attack 42 = .ok (.iload_n 2, 1) := by decide +kernel
theorem d_AB_attack_43 : decode k_AB_attack 43 = .ok (.iload_n 3, 1) := by decide +kernel
theorem d_AB_attack_44 : decode k_AB_attack 44 = .ok (.invokevirtual 69, 3) := by decide +kernel
theorem d_AB_attack_47 : decode k_AB_attack 47 = .ok (.aload_n 0, 1) := by decide +kernel
theorem d_AB_attack_48 : decode k_AB_attack 48 = .ok (.invokevirtual 59, 3) := by decide +kernel
theorem d_AB_attack_51 : decode k_AB_attack 51 = .ok (.iconst 1, 1) := by decide +kernel
theorem d_AB_attack_52 : decode k_AB_attack 52 = .ok (.ireturn, 1) := by decide +kernel
theorem d_Web_has_0 : decode k_Web_has 0 = .ok (.iload_n 1, 1) := by decide +kernel
theorem d_Web_has_1 : decode k_Web_has 1 = .ok (.ifCond .lt 15, 3) := by decide +kernel
theorem d_Web_has_4 : decode k_Web_has 4 = .ok (.iload_n 1, 1) := by decide +kernel
theorem d_Web_has_5 : decode k_Web_has 5 = .ok (.aload_n 0, 1) := by decide +kernel
theorem d_Web_has_6 : decode k_Web_has 6 = .ok (.getfield 18, 3) := by decide +kernel
theorem d_Web_has_9 : decode k_Web_has 9 = .ok (.if_icmp .ge 7, 3) := by decide +kernel
theorem d_Web_has_12 : decode k_Web_has 12 = .ok (.iconst 1, 1) := by decide +kernel
theorem d_Web_has_13 : decode k_Web_has 13 = .ok (.goto 4, 3) := by decide +kernel
theorem d_Web_has_16 : decode k_Web_has 16 = .ok (.iconst 0, 1) := by decide +kernel
theorem d_Web_has_17 : decode k_Web_has 17 = .ok (.ireturn, 1) := by decide +kernel
theorem d_Web_leads_0 : decode k_Web_leads 0 = .ok (.aload_n 0, 1) := by decide +kernel
theorem d_Web_leads_1 : decode k_Web_leads 1 = .ok (.iload_n 1, 1) := by decide +kernel
theorem d_Web_leads_2 : decode k_Web_leads 2 = .ok (.invokevirtual 34, 3) := by decide +kernel
theorem d_Web_leads_5 : decode k_Web_leads 5 = .ok (.ifCond .eq 28, 3) := by decide +kernel
theorem d_Web_leads_8 : decode k_Web_leads 8 = .ok (.aload_n 0, 1) := by decide +kernel
theorem d_Web_leads_9 : decode k_Web_leads 9 = .ok (.iload_n 2, 1) := by decide +kernel
theorem d_Web_leads_10 : decode k_Web_leads 10 = .ok (.invokevirtual 34, 3) := by decide +kernel
theorem d_Web_leads_13 : decode k_Web_leads 13 = .ok (.ifCond .eq 20, 3) := by decide +kernel
theorem d_Web_leads_16 : decode k_Web_leads 16 = .ok (.iload_n 2, 1) := by decide +kernel
theorem d_Web_leads_17 : decode k_Web_leads 17 = .ok (.aload_n 0, 1) := by decide +kernel
theorem d_Web_leads_18 : decode k_Web_leads 18 = .ok (.getfield 9, 3) := by decide +kernel
theorem d_Web_leads_21 : decode k_Web_leads 21 = .ok (.iload_n 1, 1) := by decide +kernel
theorem d_Web_leads_22 : decode k_Web_leads 22 = .ok (.iaload, 1) := by decide +kernel
theorem d_Web_leads_23 : decode k_Web_leads 23 = .ok (.invokestatic 37, 3) := by decide +kernel
theorem d_Web_leads_26 : decode k_Web_leads 26 = .ok (.ifCond .eq 7, 3) := by decide +kernel
theorem d_Web_leads_29 : decode k_Web_leads 29 = .ok (.iconst 1, 1) := by decide +kernel
theorem d_Web_leads_30 : decode k_Web_leads 30 = .ok (.goto 4, 3) := by decide +kernel
theorem d_Web_leads_33 : decode k_Web_leads 33 = .ok (.iconst 0, 1) := by decide +kernel
theorem d_Web_leads_34 : decode k_Web_leads 34 = .ok (.ireturn, 1) := by decide +kernel
theorem d_AB_isIn_0 : decode k_AB_isIn 0 = .ok (.iload_n 1, 1) := by decide +kernel
theorem d_AB_isIn_1 : decode k_AB_isIn 1 = .ok (.iconst 1, 1) := by decide +kernel
theorem d_AB_isIn_2 : decode k_AB_isIn 2 = .ok (.iload_n 0, 1) := by decide +kernel
theorem d_AB_isIn_3 : decode k_AB_isIn 3 = .ok (.ishl, 1) := by decide +kernel
theorem d_AB_isIn_4 : decode k_AB_isIn 4 = .ok (.iand, 1) := by decide +kernel
theorem d_AB_isIn_5 : decode k_AB_isIn 5 = .ok (.ifCond .eq 7, 3) := by decide +kernel
theorem d_AB_isIn_8 : decode k_AB_isIn 8 = .ok (.iconst 1, 1) := by decide +kernel
theorem d_AB_isIn_9 : decode k_AB_isIn 9 = .ok (.goto 4, 3) := by decide +kernel
theorem d_AB_isIn_12 : decode k_AB_isIn 12 = .ok (.iconst 0, 1) := by decide +kernel
theorem d_AB_isIn_13 : decode k_AB_isIn 13 = .ok (.ireturn, 1) := by decide +kernel
theorem d_Web_put_0 : decode k_Web_put 0 = .ok (.aload_n 0, 1) := by decide +kernel
theorem d_Web_put_1 : decode k_Web_put 1 = .ok (.iload_n 1, 1) := by decide +kernel
theorem d_Web_put_2 : decode k_Web_put 2 = .ok (.invokevirtual 34, 3) := by decide +kernel
theorem d_Web_put_5 : decode k_Web_put 5 = .ok (.ifCond .eq 11, 3) := by decide +kernel
theorem d_Web_put_8 : decode k_Web_put 8 = .ok (.aload_n 0, 1) := by decide +kernel
theorem d_Web_put_9 : decode k_Web_put 9 = .ok (.iload_n 2, 1) := by decide +kernel
theorem d_Web_put_10 : decode k_Web_put 10 = .ok (.invokevirtual 34, 3) := by decide +kernel
theorem d_Web_put_13 : decode k_Web_put 13 = .ok (.ifCond .ne 4, 3) := by decide +kernel
theorem d_Web_put_16 : decode k_Web_put 16 = .ok (.return_, 1) := by decide +kernel
theorem d_Web_put_17 : decode k_Web_put 17 = .ok (.iload_n 3, 1) := by decide +kernel
theorem d_Web_put_18 : decode k_Web_put 18 = .ok (.ifCond .eq 30, 3) := by decide +kernel
theorem d_Web_put_21 : decode k_Web_put 21 = .ok (.aload_n 0, 1) := by decide +kernel
theorem d_Web_put_22 : decode k_Web_put 22 = .ok (.getfield 9, 3) := by decide +kernel
theorem d_Web_put_25 : decode k_Web_put 25 = .ok (.iload_n 1, 1) := by decide +kernel
theorem d_Web_put_26 : decode k_Web_put 26 = .ok (.dup2, 1) := by decide +kernel
theorem d_Web_put_27 : decode k_Web_put 27 = .ok (.iaload, 1) := by decide +kernel
theorem d_Web_put_28 : decode k_Web_put 28 = .ok (.iconst 1, 1) := by decide +kernel
theorem d_Web_put_29 : decode k_Web_put 29 = .ok (.iload_n 2, 1) := by decide +kernel
theorem d_Web_put_30 : decode k_Web_put 30 = .ok (.ishl, 1) := by decide +kernel
theorem d_Web_put_31 : decode k_Web_put 31 = .ok (.ior, 1) := by decide +kernel
theorem d_Web_put_32 : decode k_Web_put 32 = .ok (.iastore, 1) := by decide +kernel
theorem d_Web_put_33 : decode k_Web_put 33 = .ok (.aload_n 0, 1) := by decide +kernel
theorem d_Web_put_34 : decode k_Web_put 34 = .ok (.getfield 15, 3) := by decide +kernel
theorem d_Web_put_37 : decode k_Web_put 37 = .ok (.iload_n 2, 1) := by decide +kernel
theorem d_Web_put_38 : decode k_Web_put 38 = .ok (.dup2, 1) := by decide +kernel
theorem d_Web_put_39 : decode k_Web_put 39 = .ok (.iaload, 1) := by decide +kernel
theorem d_Web_put_40 : decode k_Web_put 40 = .ok (.iconst 1, 1) := by decide +kernel
theorem d_Web_put_41 : decode k_Web_put 41 = .ok (.iload_n 1, 1) := by decide +kernel
theorem d_Web_put_42 : decode k_Web_put 42 = .ok (.ishl, 1) := by decide +kernel
theorem d_Web_put_43 : decode k_Web_put 43 = .ok (.ior, 1) := by decide +kernel
theorem d_Web_put_44 : decode k_Web_put 44 = .ok (.iastore, 1) := by decide +kernel
theorem d_Web_put_45 : decode k_Web_put 45 = .ok (.goto 31, 3) := by decide +kernel
theorem d_Web_put_48 : decode k_Web_put 48 = .ok (.aload_n 0, 1) := by decide +kernel
theorem d_Web_put_49 : decode k_Web_put 49 = .ok (.getfield 9, 3) := by decide +kernel
theorem d_Web_put_52 : decode k_Web_put 52 = .ok (.iload_n 1, 1) := by decide +kernel
theorem d_Web_put_53 : decode k_Web_put 53 = .ok (.dup2, 1) := by decide +kernel
theorem d_Web_put_54 : decode k_Web_put 54 = .ok (.iaload, 1) := by decide +kernel
theorem d_Web_put_55 : decode k_Web_put 55 = .ok (.iconst 1, 1) := by decide +kernel
theorem d_Web_put_56 : decode k_Web_put 56 = .ok (.iload_n 2, 1) := by decide +kernel
theorem d_Web_put_57 : decode k_Web_put 57 = .ok (.ishl, 1) := by decide +kernel
theorem d_Web_put_58 : decode k_Web_put 58 = .ok (.iconst (-1), 1) := by decide +kernel
theorem d_Web_put_59 : decode k_Web_put 59 = .ok (.ixor, 1) := by decide +kernel
theorem d_Web_put_60 : decode k_Web_put 60 = .ok (.iand, 1) := by decide +kernel
theorem d_Web_put_61 : decode k_Web_put 61 = .ok (.iastore, 1) := by decide +kernel
theorem d_Web_put_62 : decode k_Web_put 62 = .ok (.aload_n 0, 1) := by decide +kernel
theorem d_Web_put_63 : decode k_Web_put 63 = .ok (.getfield 15, 3) := by decide +kernel
theorem d_Web_put_66 : decode k_Web_put 66 = .ok (.iload_n 2, 1) := by decide +kernel
theorem d_Web_put_67 : decode k_Web_put 67 = .ok (.dup2, 1) := by decide +kernel
theorem d_Web_put_68 : decode k_Web_put 68 = .ok (.iaload, 1) := by decide +kernel
theorem d_Web_put_69 : decode k_Web_put 69 = .ok (.iconst 1, 1) := by decide +kernel
theorem d_Web_put_70 : decode k_Web_put 70 = .ok (.iload_n 1, 1) := by decide +kernel
theorem d_Web_put_71 : decode k_Web_put 71 = .ok (.ishl, 1) := by decide +kernel
theorem d_Web_put_72 : decode k_Web_put 72 = .ok (.iconst (-1), 1) := by decide +kernel
theorem d_Web_put_73 : decode k_Web_put 73 = .ok (.ixor, 1) := by decide +kernel
theorem d_Web_put_74 : decode k_Web_put 74 = .ok (.iand, 1) := by decide +kernel
theorem d_Web_put_75 : decode k_Web_put 75 = .ok (.iastore, 1) := by decide +kernel
theorem d_Web_put_76 : decode k_Web_put 76 = .ok (.return_, 1) := by decide +kernel
theorem d_AB_attacks_0 : decode k_AB_attacks 0 = .ok (.aload_n 0, 1) := by decide +kernel
theorem d_AB_attacks_1 : decode k_AB_attacks 1 = .ok (.getfield 12, 3) := by decide +kernel
theorem d_AB_attacks_4 : decode k_AB_attacks 4 = .ok (.iload_n 1, 1) := by decide +kernel
theorem d_AB_attacks_5 : decode k_AB_attacks 5 = .ok (.iload_n 2, 1) := by decide +kernel
theorem d_AB_attacks_6 : decode k_AB_attacks 6 = .ok (.invokevirtual 65, 3) := by decide +kernel
theorem d_AB_attacks_9 : decode k_AB_attacks 9 = .ok (.ireturn, 1) := by decide +kernel
theorem d_AB_joint_0 : decode k_AB_joint 0 = .ok (.aload_n 0, 1) := by decide +kernel
theorem d_AB_joint_1 : decode k_AB_joint 1 = .ok (.getfield 12, 3) := by decide +kernel
theorem d_AB_joint_4 : decode k_AB_joint 4 = .ok (.iload_n 1, 1) := by decide +kernel
theorem d_AB_joint_5 : decode k_AB_joint 5 = .ok (.invokevirtual 62, 3) := by decide +kernel
theorem d_AB_joint_8 : decode k_AB_joint 8 = .ok (.ifCond .eq 36, 3) := by decide +kernel
theorem d_AB_joint_11 : decode k_AB_joint 11 = .ok (.aload_n 0, 1) := by decide +kernel
theorem d_AB_joint_12 : decode k_AB_joint 12 = .ok (.getfield 12, 3) := by decide +kernel
theorem d_AB_joint_15 : decode k_AB_joint 15 = .ok (.iload_n 2, 1) := by decide +kernel
theorem d_AB_joint_16 : decode k_AB_joint 16 = .ok (.invokevirtual 62, 3) := by decide +kernel
theorem d_AB_joint_19 : decode k_AB_joint 19 = .ok (.ifCond .eq 25, 3) := by decide +kernel
theorem d_AB_joint_22 : decode k_AB_joint 22 = .ok (.aload_n 0, 1) := by decide +kernel
theorem d_AB_joint_23 : decode k_AB_joint 23 = .ok (.getfield 12, 3) := by decide +kernel
theorem d_AB_joint_26 : decode k_AB_joint 26 = .ok (.iload_n 3, 1) := by decide +kernel
theorem d_AB_joint_27 : decode k_AB_joint 27 = .ok (.invokevirtual 62, 3) := by decide +kernel
theorem d_AB_joint_30 : decode k_AB_joint 30 = .ok (.ifCond .eq 14, 3) := by decide +kernel
theorem d_AB_joint_33 : decode k_AB_joint 33 = .ok (.aload_n 0, 1) := by decide +kernel
theorem d_AB_joint_34 : decode k_AB_joint 34 = .ok (.getfield 12, 3) := by decide +kernel
theorem d_AB_joint_37 : decode k_AB_joint 37 = .ok (.iconst 3, 1) := by decide +kernel
theorem d_AB_joint_38 : decode k_AB_joint 38 = .ok (.invokevirtual 51, 3) := by decide +kernel
theorem d_AB_joint_41 : decode k_AB_joint 41 = .ok (.ifCond .ne 5, 3) := by decide +kernel
theorem d_AB_joint_44 : decode k_AB_joint 44 = .ok (.iconst (-1), 1) := by decide +kernel
theorem d_AB_joint_45 : decode k_AB_joint 45 = .ok (.ireturn, 1) := by decide +kernel
theorem d_AB_joint_46 : decode k_AB_joint 46 = .ok (.aload_n 0, 1) := by decide +kernel
theorem d_AB_joint_47 : decode k_AB_joint 47 = .ok (.getfield 12, 3) := by decide +kernel
theorem d_AB_joint_50 : decode k_AB_joint 50 = .ok (.invokevirtual 55, 3) := by decide +kernel
theorem d_AB_joint_53 : decode k_AB_joint 53 = .ok (.istore 4, 2) := by decide +kernel
theorem d_AB_joint_55 : decode k_AB_joint 55 = .ok (.aload_n 0, 1) := by decide +kernel
theorem d_AB_joint_56 : decode k_AB_joint 56 = .ok (.getfield 12, 3) := by decide +kernel
theorem d_AB_joint_59 : decode k_AB_joint 59 = .ok (.invokevirtual 55, 3) := by decide +kernel
theorem d_AB_joint_62 : decode k_AB_joint 62 = .ok (.istore 5, 2) := by decide +kernel
theorem d_AB_joint_64 : decode k_AB_joint 64 = .ok (.aload_n 0, 1) := by decide +kernel
theorem d_AB_joint_65 : decode k_AB_joint 65 = .ok (.getfield 12, 3) := by decide +kernel
theorem d_AB_joint_68 : decode k_AB_joint 68 = .ok (.invokevirtual 55, 3) := by decide +kernel
theorem d_AB_joint_71 : decode k_AB_joint 71 = .ok (.istore 6, 2) := by decide +kernel
theorem d_AB_joint_73 : decode k_AB_joint 73 = .ok (.aload_n 0, 1) := by decide +kernel
theorem d_AB_joint_74 : decode k_AB_joint 74 = .ok (.getfield 12, 3) := by decide +kernel
theorem d_AB_joint_77 : decode k_AB_joint 77 = .ok (.iload_n 1, 1) := by decide +kernel
theorem d_AB_joint_78 : decode k_AB_joint 78 = .ok (.iload 4, 2) := by decide +kernel
theorem d_AB_joint_80 : decode k_AB_joint 80 = .ok (.iconst 1, 1) := by decide +kernel
theorem d_AB_joint_81 : decode k_AB_joint 81 = .ok (.invokevirtual 69, 3) := by decide +kernel
theorem d_AB_joint_84 : decode k_AB_joint 84 = .ok (.aload_n 0, 1) := by decide +kernel
theorem d_AB_joint_85 : decode k_AB_joint 85 = .ok (.getfield 12, 3) := by decide +kernel
theorem d_AB_joint_88 : decode k_AB_joint 88 = .ok (.iload_n 2, 1) := by decide +kernel
theorem d_AB_joint_89 : decode k_AB_joint 89 = .ok (.iload 5, 2) := by decide +kernel
theorem d_AB_joint_91 : decode k_AB_joint 91 = .ok (.iconst 1, 1) := by decide +kernel
theorem d_AB_joint_92 : decode k_AB_joint 92 = .ok (.invokevirtual 69, 3) := by decide +kernel
theorem d_AB_joint_95 : decode k_AB_joint 95 = .ok (.aload_n 0, 1) := by decide +kernel
theorem d_AB_joint_96 : decode k_AB_joint 96 = .ok (.getfield 12, 3) := by decide +kernel
theorem d_AB_joint_99 : decode k_AB_joint 99 = .ok (.iload 4, 2) := by decide +kernel
theorem d_AB_joint_101 : decode k_AB_joint 101 = .ok (.iload 6, 2) := by decide +kernel
theorem d_AB_joint_103 : decode k_AB_joint 103 = .ok (.iconst 1, 1) := by decide +kernel
theorem d_AB_joint_104 : decode k_AB_joint 104 = .ok (.invokevirtual 69, 3) := by decide +kernel
theorem d_AB_joint_107 : decode k_AB_joint 107 = .ok (.aload_n 0, 1) := by decide +kernel
theorem d_AB_joint_108 : decode k_AB_joint 108 = .ok (.getfield 12, 3) := by decide +kernel
theorem d_AB_joint_111 : decode k_AB_joint 111 = .ok (.iload 5, 2) := by decide +kernel
theorem d_AB_joint_113 : decode k_AB_joint 113 = .ok (.iload 6, 2) := by decide +kernel
theorem d_AB_joint_115 : decode k_AB_joint 115 = .ok (.iconst 1, 1) := by decide +kernel
theorem d_AB_joint_116 : decode k_AB_joint 116 = .ok (.invokevirtual 69, 3) := by decide +kernel
theorem d_AB_joint_119 : decode k_AB_joint 119 = .ok (.aload_n 0, 1) := by decide +kernel
theorem d_AB_joint_120 : decode k_AB_joint 120 = .ok (.getfield 12, 3) := by decide +kernel
theorem d_AB_joint_123 : decode k_AB_joint 123 = .ok (.iload 6, 2) := by decide +kernel
theorem d_AB_joint_125 : decode k_AB_joint 125 = .ok (.iload_n 3, 1) := by decide +kernel
theorem d_AB_joint_126 : decode k_AB_joint 126 = .ok (.iconst 1, 1) := by decide +kernel
theorem d_AB_joint_127 : decode k_AB_joint 127 = .ok (.invokevirtual 69, 3) := by decide +kernel
theorem d_AB_joint_130 : decode k_AB_joint 130 = .ok (.aload_n 0, 1) := by decide +kernel
theorem d_AB_joint_131 : decode k_AB_joint 131 = .ok (.invokevirtual 59, 3) := by decide +kernel
theorem d_AB_joint_134 : decode k_AB_joint 134 = .ok (.iload 4, 2) := by decide +kernel
theorem d_AB_joint_136 : decode k_AB_joint 136 = .ok (.ireturn, 1) := by decide +kernel
theorem d_AB_support_0 : decode k_AB_support 0 = .ok (.aload_n 0, 1) := by decide +kernel
theorem d_AB_support_1 : decode k_AB_support 1 = .ok (.getfield 12, 3) := by decide +kernel
theorem d_AB_support_4 : decode k_AB_support 4 = .ok (.iload_n 1, 1) := by decide +kernel
theorem d_AB_support_5 : decode k_AB_support 5 = .ok (.invokevirtual 62, 3) := by decide +kernel
theorem d_AB_support_8 : decode k_AB_support 8 = .ok (.ifCond .eq 25, 3) := by decide +kernel
theorem d_AB_support_11 : decode k_AB_support 11 = .ok (.aload_n 0, 1) := by decide +kernel
theorem d_AB_support_12 : decode k_AB_support 12 = .ok (.getfield 12, 3) := by decide +kernel
theorem d_AB_support_15 : decode k_AB_support 15 = .ok (.iload_n 2, 1) := by decide +kernel
theorem d_AB_support_16 : decode k_AB_support 16 = .ok (.invokevirtual 62, 3) := by decide +kernel
theorem d_AB_support_19 : decode k_AB_support 19 = .ok (.ifCond .eq 14, 3) := by decide +kernel
theorem d_AB_support_22 : decode k_AB_support 22 = .ok (.aload_n 0, 1) := by decide +kernel
theorem d_AB_support_23 : decode k_AB_support 23 = .ok (.getfield 12, 3) := by decide +kernel
theorem d_AB_support_26 : decode k_AB_support 26 = .ok (.iconst 1, 1) := by decide +kernel
theorem d_AB_support_27 : decode k_AB_support 27 = .ok (.invokevirtual 51, 3) := by decide +kernel
theorem d_AB_support_30 : decode k_AB_support 30 = .ok (.ifCond .ne 5, 3) := by decide +kernel
theorem d_AB_support_33 : decode k_AB_support 33 = .ok (.iconst (-1), 1) := by decide +kernel
theorem d_AB_support_34 : decode k_AB_support 34 = .ok (.ireturn, 1) := by decide +kernel
theorem d_AB_support_35 : decode k_AB_support 35 = .ok (.aload_n 0, 1) := by decide +kernel
theorem d_AB_support_36 : decode k_AB_support 36 = .ok (.getfield 12, 3) := by decide +kernel
theorem d_AB_support_39 : decode k_AB_support 39 = .ok (.invokevirtual 55, 3) := by decide +kernel
theorem d_AB_support_42 : decode k_AB_support 42 = .ok (.istore_n 3, 1) := by decide +kernel
theorem d_AB_support_43 : decode k_AB_support 43 = .ok (.aload_n 0, 1) := by decide +kernel
theorem d_AB_support_44 : decode k_AB_support 44 = .ok (.getfield 12, 3) := by decide +kernel
theorem d_AB_support_47 : decode k_AB_support 47 = .ok (.iload_n 1, 1) := by decide +kernel
theorem d_AB_support_48 : decode k_AB_support 48 = .ok (.iload_n 3, 1) := by decide +kernel
theorem d_AB_support_49 : decode k_AB_support 49 = .ok (.iconst 1, 1) := by decide +kernel
theorem d_AB_support_50 : decode k_AB_support 50 = .ok (.invokevirtual 69, 3) := by decide +kernel
theorem d_AB_support_53 : decode k_AB_support 53 = .ok (.aload_n 0, 1) := by decide +kernel
theorem d_AB_support_54 : decode k_AB_support 54 = .ok (.getfield 12, 3) := by decide +kernel
theorem d_AB_support_57 : decode k_AB_support 57 = .ok (.iload_n 3, 1) := by decide +kernel
theorem d_AB_support_58 : decode k_AB_support 58 = .ok (.iload_n 2, 1) := by decide +kernel
theorem d_AB_support_59 : decode k_AB_support 59 = .ok (.iconst 1, 1) := by decide +kernel
theorem d_AB_support_60 : decode k_AB_support 60 = .ok (.invokevirtual 69, 3) := by decide +kernel
theorem d_AB_support_63 : decode k_AB_support 63 = .ok (.aload_n 0, 1) := by decide +kernel
theorem d_AB_support_64 : decode k_AB_support 64 = .ok (.invokevirtual 59, 3) := by decide +kernel
theorem d_AB_support_67 : decode k_AB_support 67 = .ok (.iload_n 3, 1) := by decide +kernel
theorem d_AB_support_68 : decode k_AB_support 68 = .ok (.ireturn, 1) := by decide +kernel
theorem d_AB_arguments_0 : decode k_AB_arguments 0 = .ok (.aload_n 0, 1) := by decide +kernel
theorem d_AB_arguments_1 : decode k_AB_arguments 1 = .ok (.getfield 12, 3) := by decide +kernel
theorem d_AB_arguments_4 : decode k_AB_arguments 4 = .ok (.invokevirtual 73, 3) := by decide +kernel
theorem d_AB_arguments_7 : decode k_AB_arguments 7 = .ok (.ireturn, 1) := by decide +kernel
theorem d_Web_size_0 : decode k_Web_size 0 = .ok (.aload_n 0, 1) := by decide +kernel
theorem d_Web_size_1 : decode k_Web_size 1 = .ok (.getfield 18, 3) := by decide +kernel
theorem d_Web_size_4 : decode k_Web_size 4 = .ok (.ireturn, 1) := by decide +kernel
theorem d_AB_isFree_0 : decode k_AB_isFree 0 = .ok (.aload_n 0, 1) := by decide +kernel
theorem d_AB_isFree_1 : decode k_AB_isFree 1 = .ok (.getfield 12, 3) := by decide +kernel
theorem d_AB_isFree_4 : decode k_AB_isFree 4 = .ok (.iload_n 1, 1) := by decide +kernel
theorem d_AB_isFree_5 : decode k_AB_isFree 5 = .ok (.invokevirtual 76, 3) := by decide +kernel
theorem d_AB_isFree_8 : decode k_AB_isFree 8 = .ok (.ifCond .eq 20, 3) := by decide +kernel
theorem d_AB_isFree_11 : decode k_AB_isFree 11 = .ok (.aload_n 0, 1) := by decide +kernel
theorem d_AB_isFree_12 : decode k_AB_isFree 12 = .ok (.getfield 12, 3) := by decide +kernel
theorem d_AB_isFree_15 : decode k_AB_isFree 15 = .ok (.iload_n 1, 1) := by decide +kernel
theorem d_AB_isFree_16 : decode k_AB_isFree 16 = .ok (.invokevirtual 79, 3) := by decide +kernel
theorem d_AB_isFree_19 : decode k_AB_isFree 19 = .ok (.iload_n 1, 1) := by decide +kernel
theorem d_AB_isFree_20 : decode k_AB_isFree 20 = .ok (.iand, 1) := by decide +kernel
theorem d_AB_isFree_21 : decode k_AB_isFree 21 = .ok (.ifCond .ne 7, 3) := by decide +kernel
theorem d_AB_isFree_24 : decode k_AB_isFree 24 = .ok (.iconst 1, 1) := by decide +kernel
theorem d_AB_isFree_25 : decode k_AB_isFree 25 = .ok (.goto 4, 3) := by decide +kernel
theorem d_AB_isFree_28 : decode k_AB_isFree 28 = .ok (.iconst 0, 1) := by decide +kernel
theorem d_AB_isFree_29 : decode k_AB_isFree 29 = .ok (.ireturn, 1) := by decide +kernel
theorem d_Web_hasSet_0 : decode k_Web_hasSet 0 = .ok (.iload_n 1, 1) := by decide +kernel
theorem d_Web_hasSet_1 : decode k_Web_hasSet 1 = .ok (.aload_n 0, 1) := by decide +kernel
theorem d_Web_hasSet_2 : decode k_Web_hasSet 2 = .ok (.invokevirtual 22, 3) := by decide +kernel
theorem d_Web_hasSet_5 : decode k_Web_hasSet 5 = .ok (.invokestatic 26, 3) := by decide +kernel
theorem d_Web_hasSet_8 : decode k_Web_hasSet 8 = .ok (.ireturn, 1) := by decide +kernel
theorem d_Web_everything_0 : decode k_Web_everything 0 = .ok (.iconst 1, 1) := by decide +kernel
theorem d_Web_everything_1 : decode k_Web_everything 1 = .ok (.aload_n 0, 1) := by decide +kernel
theorem d_Web_everything_2 : decode k_Web_everything 2 = .ok (.getfield 18, 3) := by decide +kernel
theorem d_Web_everything_5 : decode k_Web_everything 5 = .ok (.ishl, 1) := by decide +kernel
theorem d_Web_everything_6 : decode k_Web_everything 6 = .ok (.iconst 1, 1) := by decide +kernel
theorem d_Web_everything_7 : decode k_Web_everything 7 = .ok (.isub, 1) := by decide +kernel
theorem d_Web_everything_8 : decode k_Web_everything 8 = .ok (.ireturn, 1) := by decide +kernel
theorem d_AB_isWithin_0 : decode k_AB_isWithin 0 = .ok (.iload_n 0, 1) := by decide +kernel
theorem d_AB_isWithin_1 : decode k_AB_isWithin 1 = .ok (.iload_n 1, 1) := by decide +kernel
theorem d_AB_isWithin_2 : decode k_AB_isWithin 2 = .ok (.iconst (-1), 1) := by decide +kernel
theorem d_AB_isWithin_3 : decode k_AB_isWithin 3 = .ok (.ixor, 1) := by decide +kernel
theorem d_AB_isWithin_4 : decode k_AB_isWithin 4 = .ok (.iand, 1) := by decide +kernel
theorem d_AB_isWithin_5 : decode k_AB_isWithin 5 = .ok (.ifCond .ne 7, 3) := by decide +kernel
theorem d_AB_isWithin_8 : decode k_AB_isWithin 8 = .ok (.iconst 1, 1) := by decide +kernel
theorem d_AB_isWithin_9 : decode k_AB_isWithin 9 = .ok (.goto 4, 3) := by decide +kernel
theorem d_AB_isWithin_12 : decode k_AB_isWithin 12 = .ok (.iconst 0, 1) := by decide +kernel
theorem d_AB_isWithin_13 : decode k_AB_isWithin 13 = .ok (.ireturn, 1) := by decide +kernel
theorem d_Web_targetsOf_0 : decode k_Web_targetsOf 0 = .ok (.iconst 0, 1) := by decide +kernel
theorem d_Web_targetsOf_1 : decode k_Web_targetsOf 1 = .ok (.istore_n 2, 1) := by decide +kernel
theorem d_Web_targetsOf_2 : decode k_Web_targetsOf 2 = .ok (.iconst 0, 1) := by decide +kernel
theorem d_Web_targetsOf_3 : decode k_Web_targetsOf 3 = .ok (.istore_n 3, 1) := by decide +kernel
theorem d_Web_targetsOf_4 : decode k_Web_targetsOf 4 = .ok (.iload_n 3, 1) := by decide +kernel
theorem d_Web_targetsOf_5 : decode k_Web_targetsOf 5 = .ok (.aload_n 0, 1) := by decide +kernel
theorem d_Web_targetsOf_6 : decode k_Web_targetsOf 6 = .ok (.getfield 18, 3) := by decide +kernel
theorem d_Web_targetsOf_9 : decode k_Web_targetsOf 9 = .ok (.if_icmp .ge 26, 3) := by decide +kernel
theorem d_Web_targetsOf_12 : decode k_Web_targetsOf 12 = .ok (.iload_n 3, 1) := by decide +kernel
theorem d_Web_targetsOf_13 : decode k_Web_targetsOf 13 = .ok (.iload_n 1, 1) := by decide +kernel
theorem d_Web_targetsOf_14 : decode k_Web_targetsOf 14 = .ok (.invokestatic 37, 3) := by decide +kernel
theorem d_Web_targetsOf_17 : decode k_Web_targetsOf 17 = .ok (.ifCond .eq 12, 3) := by decide +kernel
theorem d_Web_targetsOf_20 : decode k_Web_targetsOf 20 = .ok (.iload_n 2, 1) := by decide +kernel
theorem d_Web_targetsOf_21 : decode k_Web_targetsOf 21 = .ok (.aload_n 0, 1) := by decide +kernel
theorem d_Web_targetsOf_22 : decode k_Web_targetsOf 22 = .ok (.getfield 9, 3) := by decide +kernel
theorem d_Web_targetsOf_25 : decode k_Web_targetsOf 25 = .ok (.iload_n 3, 1) := by decide +kernel
theorem d_Web_targetsOf_26 : decode k_Web_targetsOf 26 = .ok (.iaload, 1) := by decide +kernel
theorem d_Web_targetsOf_27 : decode k_Web_targetsOf 27 = .ok (.ior, 1) := by decide +kernel
theorem d_Web_targetsOf_28 : decode k_Web_targetsOf 28 = .ok (.istore_n 2, 1) := by decide +kernel
theorem d_Web_targetsOf_29 : decode k_Web_targetsOf 29 = .ok (.iinc 3 1, 3) := by decide +kernel
theorem d_Web_targetsOf_32 : decode k_Web_targetsOf 32 = .ok (.goto (-28), 3) := by decide +kernel
theorem d_Web_targetsOf_35 : decode k_Web_targetsOf 35 = .ok (.iload_n 2, 1) := by decide +kernel
theorem d_Web_targetsOf_36 : decode k_Web_targetsOf 36 = .ok (.ireturn, 1) := by decide +kernel
theorem d_AB_is_0 : decode k_AB_is 0 = .ok (.iload_n 1, 1) := by decide +kernel
theorem d_AB_is_1 : decode k_AB_is 1 = .ok (.invokestatic 83, 3) := by decide +kernel
theorem d_AB_is_4 : decode k_AB_is 4 = .ok (.ifCond .eq 14, 3) := by decide +kernel
theorem d_AB_is_7 : decode k_AB_is 7 = .ok (.aload_n 0, 1) := by decide +kernel
theorem d_AB_is_8 : decode k_AB_is 8 = .ok (.getfield 12, 3) := by decide +kernel
theorem d_AB_is_11 : decode k_AB_is 11 = .ok (.iload_n 2, 1) := by decide +kernel
theorem d_AB_is_12 : decode k_AB_is 12 = .ok (.invokevirtual 76, 3) := by decide +kernel
theorem d_AB_is_15 : decode k_AB_is 15 = .ok (.ifCond .ne 5, 3) := by decide +kernel
theorem d_AB_is_18 : decode k_AB_is 18 = .ok (.iconst 0, 1) := by decide +kernel
theorem d_AB_is_19 : decode k_AB_is 19 = .ok (.ireturn, 1) := by decide +kernel
theorem d_AB_is_20 : decode k_AB_is 20 = .ok (.aload_n 0, 1) := by decide +kernel
theorem d_AB_is_21 : decode k_AB_is 21 = .ok (.getfield 19, 3) := by decide +kernel
theorem d_AB_is_24 : decode k_AB_is 24 = .ok (.aload_n 0, 1) := by decide +kernel
theorem d_AB_is_25 : decode k_AB_is 25 = .ok (.getfield 12, 3) := by decide +kernel
theorem d_AB_is_28 : decode k_AB_is 28 = .ok (.invokevirtual 86, 3) := by decide +kernel
theorem d_AB_is_31 : decode k_AB_is 31 = .ok (.aload_n 0, 1) := by decide +kernel
theorem d_AB_is_32 : decode k_AB_is 32 = .ok (.getfield 19, 3) := by decide +kernel
theorem d_AB_is_35 : decode k_AB_is 35 = .ok (.iload_n 1, 1) := by decide +kernel
theorem d_AB_is_36 : decode k_AB_is 36 = .ok (.iload_n 2, 1) := by decide +kernel
theorem d_AB_is_37 : decode k_AB_is 37 = .ok (.invokevirtual 90, 3) := by decide +kernel
theorem d_AB_is_40 : decode k_AB_is 40 = .ok (.ireturn, 1) := by decide +kernel
theorem d_AB_isKind_0 : decode k_AB_isKind 0 = .ok (.iload_n 0, 1) := by decide +kernel
theorem d_AB_isKind_1 : decode k_AB_isKind 1 = .ok (.ifCond .lt 12, 3) := by decide +kernel
theorem d_AB_isKind_4 : decode k_AB_isKind 4 = .ok (.iload_n 0, 1) := by decide +kernel
theorem d_AB_isKind_5 : decode k_AB_isKind 5 = .ok (.iconst 5, 1) := by decide +kernel
theorem d_AB_isKind_6 : decode k_AB_isKind 6 = .ok (.if_icmp .ge 7, 3) := by decide +kernel
theorem d_AB_isKind_9 : decode k_AB_isKind 9 = .ok (.iconst 1, 1) := by decide +kernel
theorem d_AB_isKind_10 : decode k_AB_isKind 10 = .ok (.goto 4, 3) := by decide +kernel
theorem d_AB_isKind_13 : decode k_AB_isKind 13 = .ok (.iconst 0, 1) := by decide +kernel
theorem d_AB_isKind_14 : decode k_AB_isKind 14 = .ok (.ireturn, 1) := by decide +kernel
theorem d_Web_targetsOfOne_0 : decode k_Web_targetsOfOne 0 = .ok (.aload_n 0, 1) := by decide +kernel
theorem d_Web_targetsOfOne_1 : decode k_Web_targetsOfOne 1 = .ok (.iload_n 1, 1) := by decide +kernel
theorem d_Web_targetsOfOne_2 : decode k_Web_targetsOfOne 2 = .ok (.invokevirtual 34, 3) := by decide +kernel
theorem d_Web_targetsOfOne_5 : decode k_Web_targetsOfOne 5 = .ok (.ifCond .eq 12, 3) := by decide +kernel
theorem d_Web_targetsOfOne_8 : decode k_Web_targetsOfOne 8 = .ok (.aload_n 0, 1) := by decide +kernel
theorem d_Web_targetsOfOne_9 : decode k_Web_targetsOfOne 9 = .ok (.getfield 9, 3) := by decide +kernel
theorem d_Web_targetsOfOne_12 : decode k_Web_targetsOfOne 12 = .ok (.iload_n 1, 1) := by decide +kernel
theorem d_Web_targetsOfOne_13 : decode k_Web_targetsOfOne 13 = .ok (.iaload, 1) := by decide +kernel
theorem d_Web_targetsOfOne_14 : decode k_Web_targetsOfOne 14 = .ok (.goto 4, 3) := by decide +kernel
theorem d_Web_targetsOfOne_17 : decode k_Web_targetsOfOne 17 = .ok (.iconst 0, 1) := by decide +kernel
theorem d_Web_targetsOfOne_18 : decode k_Web_targetsOfOne 18 = .ok (.ireturn, 1) := by decide +kernel
theorem d_AB_attackedBy_0 : decode k_AB_attackedBy 0 = .ok (.aload_n 0, 1) := by decide +kernel
theorem d_AB_attackedBy_1 : decode k_AB_attackedBy 1 = .ok (.getfield 12, 3) := by decide +kernel
theorem d_AB_attackedBy_4 : decode k_AB_attackedBy 4 = .ok (.iload_n 1, 1) := by decide +kernel
theorem d_AB_attackedBy_5 : decode k_AB_attackedBy 5 = .ok (.invokevirtual 76, 3) := by decide +kernel
theorem d_AB_attackedBy_8 : decode k_AB_attackedBy 8 = .ok (.ifCond .eq 14, 3) := by decide +kernel
theorem d_AB_attackedBy_11 : decode k_AB_attackedBy 11 = .ok (.aload_n 0, 1) := by decide +kernel
theorem d_AB_attackedBy_12 : decode k_AB_attackedBy 12 = .ok (.getfield 12, 3) := by decide +kernel
theorem d_AB_attackedBy_15 : decode k_AB_attackedBy 15 = .ok (.iload_n 1, 1) := by decide +kernel
theorem d_AB_attackedBy_16 : decode k_AB_attackedBy 16 = .ok (.invokevirtual 79, 3) := by decide +kernel
theorem d_AB_attackedBy_19 : decode k_AB_attackedBy 19 = .ok (.goto 4, 3) := by decide +kernel
theorem d_AB_attackedBy_22 : decode k_AB_attackedBy 22 = .ok (.iconst (-1), 1) := by decide +kernel
theorem d_AB_attackedBy_23 : decode k_AB_attackedBy 23 = .ok (.ireturn, 1) := by decide +kernel
theorem d_AB_defendedBy_0 : decode k_AB_defendedBy 0 = .ok (.aload_n 0, 1) := by decide +kernel
theorem d_AB_defendedBy_1 : decode k_AB_defendedBy 1 = .ok (.getfield 12, 3) := by decide +kernel
theorem d_AB_defendedBy_4 : decode k_AB_defendedBy 4 = .ok (.iload_n 1, 1) := by decide +kernel
theorem d_AB_defendedBy_5 : decode k_AB_defendedBy 5 = .ok (.invokevirtual 76, 3) := by decide +kernel
theorem d_AB_defendedBy_8 : decode k_AB_defendedBy 8 = .ok (.ifCond .eq 14, 3) := by decide +kernel
theorem d_AB_defendedBy_11 : decode k_AB_defendedBy 11 = .ok (.aload_n 0, 1) := by decide +kernel
theorem d_AB_defendedBy_12 : decode k_AB_defendedBy 12 = .ok (.getfield 12, 3) := by decide +kernel
theorem d_AB_defendedBy_15 : decode k_AB_defendedBy 15 = .ok (.iload_n 1, 1) := by decide +kernel
theorem d_AB_defendedBy_16 : decode k_AB_defendedBy 16 = .ok (.invokevirtual 93, 3) := by decide +kernel
theorem d_AB_defendedBy_19 : decode k_AB_defendedBy 19 = .ok (.goto 4, 3) := by decide +kernel
theorem d_AB_defendedBy_22 : decode k_AB_defendedBy 22 = .ok (.iconst (-1), 1) := by decide +kernel
theorem d_AB_defendedBy_23 : decode k_AB_defendedBy 23 = .ok (.ireturn, 1) := by decide +kernel
theorem d_Web_defendedOf_0 : decode k_Web_defendedOf 0 = .ok (.aload_n 0, 1) := by decide +kernel
theorem d_Web_defendedOf_1 : decode k_Web_defendedOf 1 = .ok (.invokevirtual 22, 3) := by decide +kernel
theorem d_Web_defendedOf_4 : decode k_Web_defendedOf 4 = .ok (.aload_n 0, 1) := by decide +kernel
theorem d_Web_defendedOf_5 : decode k_Web_defendedOf 5 = .ok (.iload_n 1, 1) := by decide +kernel
theorem d_Web_defendedOf_6 : decode k_Web_defendedOf 6 = .ok (.invokevirtual 40, 3) := by decide +kernel
theorem d_Web_defendedOf_9 : decode k_Web_defendedOf 9 = .ok (.iconst (-1), 1) := by decide +kernel
theorem d_Web_defendedOf_10 : decode k_Web_defendedOf 10 = .ok (.ixor, 1) := by decide +kernel
theorem d_Web_defendedOf_11 : decode k_Web_defendedOf 11 = .ok (.iand, 1) := by decide +kernel
theorem d_Web_defendedOf_12 : decode k_Web_defendedOf 12 = .ok (.istore_n 2, 1) := by decide +kernel
theorem d_Web_defendedOf_13 : decode k_Web_defendedOf 13 = .ok (.aload_n 0, 1) := by decide +kernel
theorem d_Web_defendedOf_14 : decode k_Web_defendedOf 14 = .ok (.invokevirtual 22, 3) := by decide +kernel
theorem d_Web_defendedOf_17 : decode k_Web_defendedOf 17 = .ok (.aload_n 0, 1) := by decide +kernel
theorem d_Web_defendedOf_18 : decode k_Web_defendedOf 18 = .ok (.iload_n 2, 1) := by decide +kernel
theorem d_Web_defendedOf_19 : decode k_Web_defendedOf 19 = .ok (.invokevirtual 40, 3) := by decide +kernel
theorem d_Web_defendedOf_22 : decode k_Web_defendedOf 22 = .ok (.iconst (-1), 1) := by decide +kernel
theorem d_Web_defendedOf_23 : decode k_Web_defendedOf 23 = .ok (.ixor, 1) := by decide +kernel
theorem d_Web_defendedOf_24 : decode k_Web_defendedOf 24 = .ok (.iand, 1) := by decide +kernel
theorem d_Web_defendedOf_25 : decode k_Web_defendedOf 25 = .ok (.ireturn, 1) := by decide +kernel
theorem d_AB_grounded_0 : decode k_AB_grounded 0 = .ok (.aload_n 0, 1) := by decide +kernel
theorem d_AB_grounded_1 : decode k_AB_grounded 1 = .ok (.getfield 33, 3) := by decide +kernel
theorem d_AB_grounded_4 : decode k_AB_grounded 4 = .ok (.aload_n 0, 1) := by decide +kernel
theorem d_AB_grounded_5 : decode k_AB_grounded 5 = .ok (.getfield 12, 3) := by decide +kernel
theorem d_AB_grounded_8 : decode k_AB_grounded 8 = .ok (.invokevirtual 96, 3) := by decide +kernel
theorem d_AB_grounded_11 : decode k_AB_grounded 11 = .ok (.aload_n 0, 1) := by decide +kernel
theorem d_AB_grounded_12 : decode k_AB_grounded 12 = .ok (.getfield 33, 3) := by decide +kernel
theorem d_AB_grounded_15 : decode k_AB_grounded 15 = .ok (.invokevirtual 99, 3) := by decide +kernel
theorem d_AB_grounded_18 : decode k_AB_grounded 18 = .ok (.ireturn, 1) := by decide +kernel
theorem d_AB_round_0 : decode k_AB_round 0 = .ok (.aload_n 0, 1) := by decide +kernel
theorem d_AB_round_1 : decode k_AB_round 1 = .ok (.getfield 12, 3) := by decide +kernel
theorem d_AB_round_4 : decode k_AB_round 4 = .ok (.iload_n 1, 1) := by decide +kernel
theorem d_AB_round_5 : decode k_AB_round 5 = .ok (.invokevirtual 62, 3) := by decide +kernel
theorem d_AB_round_8 : decode k_AB_round 8 = .ok (.ifCond .ne 5, 3) := by decide +kernel
theorem d_AB_round_11 : decode k_AB_round 11 = .ok (.iconst 0, 1) := by decide +kernel
theorem d_AB_round_12 : decode k_AB_round 12 = .ok (.ireturn, 1) := by decide +kernel
theorem d_AB_round_13 : decode k_AB_round 13 = .ok (.aload_n 0, 1) := by decide +kernel
theorem d_AB_round_14 : decode k_AB_round 14 = .ok (.getfield 33, 3) := by decide +kernel
theorem d_AB_round_17 : decode k_AB_round 17 = .ok (.aload_n 0, 1) := by decide +kernel
theorem d_AB_round_18 : decode k_AB_round 18 = .ok (.getfield 12, 3) := by decide +kernel
theorem d_AB_round_21 : decode k_AB_round 21 = .ok (.invokevirtual 96, 3) := by decide +kernel
theorem d_AB_round_24 : decode k_AB_round 24 = .ok (.aload_n 0, 1) := by decide +kernel
theorem d_AB_round_25 : decode k_AB_round 25 = .ok (.getfield 33, 3) := by decide +kernel
theorem d_AB_round_28 : decode k_AB_round 28 = .ok (.iload_n 1, 1) := by decide +kernel
theorem d_AB_round_29 : decode k_AB_round 29 = .ok (.invokevirtual 102, 3) := by decide +kernel
theorem d_AB_round_32 : decode k_AB_round 32 = .ok (.ireturn, 1) := by decide +kernel
theorem d_AB_ideal_0 : decode k_AB_ideal 0 = .ok (.aload_n 0, 1) := by decide +kernel
theorem d_AB_ideal_1 : decode k_AB_ideal 1 = .ok (.getfield 19, 3) := by decide +kernel
theorem d_AB_ideal_4 : decode k_AB_ideal 4 = .ok (.aload_n 0, 1) := by decide +kernel
theorem d_AB_ideal_5 : decode k_AB_ideal 5 = .ok (.getfield 12, 3) := by decide +kernel
theorem d_AB_ideal_8 : decode k_AB_ideal 8 = .ok (.invokevirtual 86, 3) := by decide +kernel
theorem d_AB_ideal_11 : decode k_AB_ideal 11 = .ok (.aload_n 0, 1) := by decide +kernel
theorem d_AB_ideal_12 : decode k_AB_ideal 12 = .ok (.getfield 19, 3) := by decide +kernel
theorem d_AB_ideal_15 : decode k_AB_ideal 15 = .ok (.iconst 4, 1) := by decide +kernel
theorem d_AB_ideal_16 : decode k_AB_ideal 16 = .ok (.aload_n 0, 1) := by decide +kernel
theorem d_AB_ideal_17 : decode k_AB_ideal 17 = .ok (.getfield 19, 3) := by decide +kernel
theorem d_AB_ideal_20 : decode k_AB_ideal 20 = .ok (.iconst 1, 1) := by decide +kernel
theorem d_AB_ideal_21 : decode k_AB_ideal 21 = .ok (.invokevirtual 105, 3) := by decide +kernel
theorem d_AB_ideal_24 : decode k_AB_ideal 24 = .ok (.invokevirtual 108, 3) := by decide +kernel
theorem d_AB_ideal_27 : decode k_AB_ideal 27 = .ok (.ireturn, 1) := by decide +kernel
theorem d_AB_move_0 : decode k_AB_move 0 = .ok (.aload_n 0, 1) := by decide +kernel
theorem d_AB_move_1 : decode k_AB_move 1 = .ok (.getfield 40, 3) := by decide +kernel
theorem d_AB_move_4 : decode k_AB_move 4 = .ok (.iload_n 1, 1) := by decide +kernel
theorem d_AB_move_5 : decode k_AB_move 5 = .ok (.iload_n 2, 1) := by decide +kernel
theorem d_AB_move_6 : decode k_AB_move 6 = .ok (.invokevirtual 158, 3) := by decide +kernel
theorem d_AB_move_9 : decode k_AB_move 9 = .ok (.ireturn, 1) := by decide +kernel
theorem d_AB_circle_0 : decode k_AB_circle 0 = .ok (.aload_n 0, 1) := by decide +kernel
theorem d_AB_circle_1 : decode k_AB_circle 1 = .ok (.getfield 12, 3) := by decide +kernel
theorem d_AB_circle_4 : decode k_AB_circle 4 = .ok (.iload_n 1, 1) := by decide +kernel
theorem d_AB_circle_5 : decode k_AB_circle 5 = .ok (.invokevirtual 62, 3) := by decide +kernel
theorem d_AB_circle_8 : decode k_AB_circle 8 = .ok (.ifCond .ne 5, 3) := by decide +kernel
theorem d_AB_circle_11 : decode k_AB_circle 11 = .ok (.iconst (-1), 1) := by decide +kernel
theorem d_AB_circle_12 : decode k_AB_circle 12 = .ok (.ireturn, 1) := by decide +kernel
theorem d_AB_circle_13 : decode k_AB_circle 13 = .ok (.aload_n 0, 1) := by decide +kernel
theorem d_AB_circle_14 : decode k_AB_circle 14 = .ok (.getfield 47, 3) := by decide +kernel
theorem d_AB_circle_17 : decode k_AB_circle 17 = .ok (.aload_n 0, 1) := by decide +kernel
theorem d_AB_circle_18 : decode k_AB_circle 18 = .ok (.getfield 12, 3) := by decide +kernel
theorem d_AB_circle_21 : decode k_AB_circle 21 = .ok (.invokevirtual 160, 3) := by decide +kernel
theorem d_AB_circle_24 : decode k_AB_circle 24 = .ok (.aload_n 0, 1) := by decide +kernel
theorem d_AB_circle_25 : decode k_AB_circle 25 = .ok (.getfield 47, 3) := by decide +kernel
theorem d_AB_circle_28 : decode k_AB_circle 28 = .ok (.iload_n 1, 1) := by decide +kernel
theorem d_AB_circle_29 : decode k_AB_circle 29 = .ok (.invokevirtual 163, 3) := by decide +kernel
theorem d_AB_circle_32 : decode k_AB_circle 32 = .ok (.ireturn, 1) := by decide +kernel
theorem d_Web_attackersOf_0 : decode k_Web_attackersOf 0 = .ok (.iconst 0, 1) := by decide +kernel
theorem d_Web_attackersOf_1 : decode k_Web_attackersOf 1 = .ok (.istore_n 2, 1) := by decide +kernel
theorem d_Web_attackersOf_2 : decode k_Web_attackersOf 2 = .ok (.iconst 0, 1) := by decide +kernel
theorem d_Web_attackersOf_3 : decode k_Web_attackersOf 3 = .ok (.istore_n 3, 1) := by decide +kernel
theorem d_Web_attackersOf_4 : decode k_Web_attackersOf 4 = .ok (.iload_n 3, 1) := by decide +kernel
theorem d_Web_attackersOf_5 : decode k_Web_attackersOf 5 = .ok (.aload_n 0, 1) := by decide +kernel
theorem d_Web_attackersOf_6 : decode k_Web_attackersOf 6 = .ok (.getfield 18, 3) := by decide +kernel
theorem d_Web_attackersOf_9 : decode k_Web_attackersOf 9 = .ok (.if_icmp .ge 26, 3) := by decide +kernel
theorem d_Web_attackersOf_12 : decode k_Web_attackersOf 12 = .ok (.iload_n 3, 1) := by decide +kernel
theorem d_Web_attackersOf_13 : decode k_Web_attackersOf 13 = .ok (.iload_n 1, 1) := by decide +kernel
theorem d_Web_attackersOf_14 : decode k_Web_attackersOf 14 = .ok (.invokestatic 37, 3) := by decide +kernel
theorem d_Web_attackersOf_17 : decode k_Web_attackersOf 17 = .ok (.ifCond .eq 12, 3) := by decide +kernel
theorem d_Web_attackersOf_20 : decode k_Web_attackersOf 20 = .ok (.iload_n 2, 1) := by decide +kernel
theorem d_Web_attackersOf_21 : decode k_Web_attackersOf 21 = .ok (.aload_n 0, 1) := by decide +kernel
theorem d_Web_attackersOf_22 : decode k_Web_attackersOf 22 = .ok (.getfield 15, 3) := by decide +kernel
theorem d_Web_attackersOf_25 : decode k_Web_attackersOf 25 = .ok (.iload_n 3, 1) := by decide +kernel
theorem d_Web_attackersOf_26 : decode k_Web_attackersOf 26 = .ok (.iaload, 1) := by decide +kernel
theorem d_Web_attackersOf_27 : decode k_Web_attackersOf 27 = .ok (.ior, 1) := by decide +kernel
theorem d_Web_attackersOf_28 : decode k_Web_attackersOf 28 = .ok (.istore_n 2, 1) := by decide +kernel
theorem d_Web_attackersOf_29 : decode k_Web_attackersOf 29 = .ok (.iinc 3 1, 3) := by decide +kernel
theorem d_Web_attackersOf_32 : decode k_Web_attackersOf 32 = .ok (.goto (-28), 3) := by decide +kernel
theorem d_Web_attackersOf_35 : decode k_Web_attackersOf 35 = .ok (.iload_n 2, 1) := by decide +kernel
theorem d_Web_attackersOf_36 : decode k_Web_attackersOf 36 = .ok (.ireturn, 1) := by decide +kernel
theorem d_AB_circles_0 : decode k_AB_circles 0 = .ok (.aload_n 0, 1) := by decide +kernel
theorem d_AB_circles_1 : decode k_AB_circles 1 = .ok (.getfield 47, 3) := by decide +kernel
theorem d_AB_circles_4 : decode k_AB_circles 4 = .ok (.aload_n 0, 1) := by decide +kernel
theorem d_AB_circles_5 : decode k_AB_circles 5 = .ok (.getfield 12, 3) := by decide +kernel
theorem d_AB_circles_8 : decode k_AB_circles 8 = .ok (.invokevirtual 160, 3) := by decide +kernel
theorem d_AB_circles_11 : decode k_AB_circles 11 = .ok (.aload_n 0, 1) := by decide +kernel
theorem d_AB_circles_12 : decode k_AB_circles 12 = .ok (.getfield 47, 3) := by decide +kernel
theorem d_AB_circles_15 : decode k_AB_circles 15 = .ok (.invokevirtual 166, 3) := by decide +kernel
theorem d_AB_circles_18 : decode k_AB_circles 18 = .ok (.ireturn, 1) := by decide +kernel
theorem d_AB_start_0 : decode k_AB_start 0 = .ok (.iload_n 1, 1) := by decide +kernel
theorem d_AB_start_1 : decode k_AB_start 1 = .ok (.invokestatic 83, 3) := by decide +kernel
theorem d_AB_start_4 : decode k_AB_start 4 = .ok (.ifCond .ne 13, 3) := by decide +kernel
theorem d_AB_start_7 : decode k_AB_start 7 = .ok (.new 112, 3) := by decide +kernel
theorem d_AB_start_10 : decode k_AB_start 10 = .ok (.dup, 1) := by decide +kernel
theorem d_AB_start_11 : decode k_AB_start 11 = .ok (.ldc 114, 2) := by decide +kernel
theorem d_AB_start_13 : decode k_AB_start 13 = .ok (.invokespecial 116, 3) := by decide +kernel
theorem d_AB_start_16 : decode k_AB_start 16 = .ok (.athrow, 1) := by decide +kernel
theorem d_AB_start_17 : decode k_AB_start 17 = .ok (.aload_n 0, 1) := by decide +kernel
theorem d_AB_start_18 : decode k_AB_start 18 = .ok (.getfield 26, 3) := by decide +kernel
theorem d_AB_start_21 : decode k_AB_start 21 = .ok (.iload_n 1, 1) := by decide +kernel
theorem d_AB_start_22 : decode k_AB_start 22 = .ok (.invokevirtual 119, 3) := by decide +kernel
theorem d_AB_start_25 : decode k_AB_start 25 = .ok (.return_, 1) := by decide +kernel
theorem d_AB_next_0 : decode k_AB_next 0 = .ok (.aload_n 0, 1) := by decide +kernel
theorem d_AB_next_1 : decode k_AB_next 1 = .ok (.getfield 26, 3) := by decide +kernel
theorem d_AB_next_4 : decode k_AB_next 4 = .ok (.invokevirtual 123, 3) := by decide +kernel
theorem d_AB_next_7 : decode k_AB_next 7 = .ok (.ifCond .ne 13, 3) := by decide +kernel
theorem d_AB_next_10 : decode k_AB_next 10 = .ok (.new 127, 3) := by decide +kernel
theorem d_AB_next_13 : decode k_AB_next 13 = .ok (.dup, 1) := by decide +kernel
theorem d_AB_next_14 : decode k_AB_next 14 = .ok (.ldc 129, 2) := by decide +kernel
theorem d_AB_next_16 : decode k_AB_next 16 = .ok (.invokespecial 131, 3) := by decide +kernel
theorem d_AB_next_19 : decode k_AB_next 19 = .ok (.athrow, 1) := by decide +kernel
theorem d_AB_next_20 : decode k_AB_next 20 = .ok (.aload_n 0, 1) := by decide +kernel
theorem d_AB_next_21 : decode k_AB_next 21 = .ok (.getfield 19, 3) := by decide +kernel
theorem d_AB_next_24 : decode k_AB_next 24 = .ok (.aload_n 0, 1) := by decide +kernel
theorem d_AB_next_25 : decode k_AB_next 25 = .ok (.getfield 12, 3) := by decide +kernel
theorem d_AB_next_28 : decode k_AB_next 28 = .ok (.invokevirtual 86, 3) := by decide +kernel
theorem d_AB_next_31 : decode k_AB_next 31 = .ok (.aload_n 0, 1) := by decide +kernel
theorem d_AB_next_32 : decode k_AB_next 32 = .ok (.getfield 26, 3) := by decide +kernel
theorem d_AB_next_35 : decode k_AB_next 35 = .ok (.aload_n 0, 1) := by decide +kernel
theorem d_AB_next_36 : decode k_AB_next 36 = .ok (.getfield 19, 3) := by decide +kernel
theorem d_AB_next_39 : decode k_AB_next 39 = .ok (.invokevirtual 132, 3) := by decide +kernel
theorem d_AB_next_42 : decode k_AB_next 42 = .ok (.ireturn, 1) := by decide +kernel
theorem d_AB_label_0 : decode k_AB_label 0 = .ok (.aload_n 0, 1) := by decide +kernel
theorem d_AB_label_1 : decode k_AB_label 1 = .ok (.getfield 12, 3) := by decide +kernel
theorem d_AB_label_4 : decode k_AB_label 4 = .ok (.iload_n 1, 1) := by decide +kernel
theorem d_AB_label_5 : decode k_AB_label 5 = .ok (.invokevirtual 62, 3) := by decide +kernel
theorem d_AB_label_8 : decode k_AB_label 8 = .ok (.ifCond .ne 13, 3) := by decide +kernel
theorem d_AB_label_11 : decode k_AB_label 11 = .ok (.new 112, 3) := by decide +kernel
theorem d_AB_label_14 : decode k_AB_label 14 = .ok (.dup, 1) := by decide +kernel
theorem d_AB_label_15 : decode k_AB_label 15 = .ok (.ldc 136, 2) := by decide +kernel
theorem d_AB_label_17 : decode k_AB_label 17 = .ok (.invokespecial 116, 3) := by decide +kernel
theorem d_AB_label_20 : decode k_AB_label 20 = .ok (.athrow, 1) := by decide +kernel
theorem d_AB_label_21 : decode k_AB_label 21 = .ok (.aload_n 0, 1) := by decide +kernel
theorem d_AB_label_22 : decode k_AB_label 22 = .ok (.getfield 26, 3) := by decide +kernel
theorem d_AB_label_25 : decode k_AB_label 25 = .ok (.invokevirtual 138, 3) := by decide +kernel
theorem d_AB_label_28 : decode k_AB_label 28 = .ok (.istore_n 2, 1) := by decide +kernel
theorem d_AB_label_29 : decode k_AB_label 29 = .ok (.iload_n 2, 1) := by decide +kernel
theorem d_AB_label_30 : decode k_AB_label 30 = .ok (.iconst (-1), 1) := by decide +kernel
theorem d_AB_label_31 : decode k_AB_label 31 = .ok (.if_icmp .ne 13, 3) := by decide +kernel
theorem d_AB_label_34 : decode k_AB_label 34 = .ok (.new 127, 3) := by decide +kernel
theorem d_AB_label_37 : decode k_AB_label 37 = .ok (.dup, 1) := by decide +kernel
theorem d_AB_label_38 : decode k_AB_label 38 = .ok (.ldc 141, 2) := by decide +kernel
theorem d_AB_label_40 : decode k_AB_label 40 = .ok (.invokespecial 131, 3) := by decide +kernel
theorem d_AB_label_43 : decode k_AB_label 43 = .ok (.athrow, 1) := by decide +kernel
theorem d_AB_label_44 : decode k_AB_label 44 = .ok (.iload_n 1, 1) := by decide +kernel
theorem d_AB_label_45 : decode k_AB_label 45 = .ok (.iload_n 2, 1) := by decide +kernel
theorem d_AB_label_46 : decode k_AB_label 46 = .ok (.invokestatic 143, 3) := by decide +kernel
theorem d_AB_label_49 : decode k_AB_label 49 = .ok (.ifCond .eq 5, 3) := by decide +kernel
theorem d_AB_label_52 : decode k_AB_label 52 = .ok (.iconst 1, 1) := by decide +kernel
theorem d_AB_label_53 : decode k_AB_label 53 = .ok (.ireturn, 1) := by decide +kernel
theorem d_AB_label_54 : decode k_AB_label 54 = .ok (.iload_n 1, 1) := by decide +kernel
theorem d_AB_label_55 : decode k_AB_label 55 = .ok (.aload_n 0, 1) := by decide +kernel
theorem d_AB_label_56 : decode k_AB_label 56 = .ok (.getfield 12, 3) := by decide +kernel
theorem d_AB_label_59 : decode k_AB_label 59 = .ok (.iload_n 2, 1) := by decide +kernel
theorem d_AB_label_60 : decode k_AB_label 60 = .ok (.invokevirtual 79, 3) := by decide +kernel
theorem d_AB_label_63 : decode k_AB_label 63 = .ok (.invokestatic 143, 3) := by decide +kernel
theorem d_AB_label_66 : decode k_AB_label 66 = .ok (.ifCond .eq 7, 3) := by decide +kernel
theorem d_AB_label_69 : decode k_AB_label 69 = .ok (.iconst 0, 1) := by decide +kernel
theorem d_AB_label_70 : decode k_AB_label 70 = .ok (.goto 4, 3) := by decide +kernel
theorem d_AB_label_73 : decode k_AB_label 73 = .ok (.iconst 2, 1) := by decide +kernel
theorem d_AB_label_74 : decode k_AB_label 74 = .ok (.ireturn, 1) := by decide +kernel
theorem d_AB_count_0 : decode k_AB_count 0 = .ok (.iload_n 1, 1) := by decide +kernel
theorem d_AB_count_1 : decode k_AB_count 1 = .ok (.invokestatic 83, 3) := by decide +kernel
theorem d_AB_count_4 : decode k_AB_count 4 = .ok (.ifCond .ne 13, 3) := by decide +kernel
theorem d_AB_count_7 : decode k_AB_count 7 = .ok (.new 112, 3) := by decide +kernel
theorem d_AB_count_10 : decode k_AB_count 10 = .ok (.dup, 1) := by decide +kernel
theorem d_AB_count_11 : decode k_AB_count 11 = .ok (.ldc 114, 2) := by decide +kernel
theorem d_AB_count_13 : decode k_AB_count 13 = .ok (.invokespecial 116, 3) := by decide +kernel
theorem d_AB_count_16 : decode k_AB_count 16 = .ok (.athrow, 1) := by decide +kernel
theorem d_AB_count_17 : decode k_AB_count 17 = .ok (.aload_n 0, 1) := by decide +kernel
theorem d_AB_count_18 : decode k_AB_count 18 = .ok (.getfield 19, 3) := by decide +kernel
theorem d_AB_count_21 : decode k_AB_count 21 = .ok (.aload_n 0, 1) := by decide +kernel
theorem d_AB_count_22 : decode k_AB_count 22 = .ok (.getfield 12, 3) := by decide +kernel
theorem d_AB_count_25 : decode k_AB_count 25 = .ok (.invokevirtual 86, 3) := by decide +kernel
theorem d_AB_count_28 : decode k_AB_count 28 = .ok (.aload_n 0, 1) := by decide +kernel
theorem d_AB_count_29 : decode k_AB_count 29 = .ok (.getfield 19, 3) := by decide +kernel
theorem d_AB_count_32 : decode k_AB_count 32 = .ok (.iload_n 1, 1) := by decide +kernel
theorem d_AB_count_33 : decode k_AB_count 33 = .ok (.invokevirtual 146, 3) := by decide +kernel
theorem d_AB_count_36 : decode k_AB_count 36 = .ok (.ireturn, 1) := by decide +kernel
theorem d_AB_holds_0 : decode k_AB_holds 0 = .ok (.iload_n 1, 1) := by decide +kernel
theorem d_AB_holds_1 : decode k_AB_holds 1 = .ok (.invokestatic 83, 3) := by decide +kernel
theorem d_AB_holds_4 : decode k_AB_holds 4 = .ok (.ifCond .eq 14, 3) := by decide +kernel
theorem d_AB_holds_7 : decode k_AB_holds 7 = .ok (.aload_n 0, 1) := by decide +kernel
theorem d_AB_holds_8 : decode k_AB_holds 8 = .ok (.getfield 12, 3) := by decide +kernel
theorem d_AB_holds_11 : decode k_AB_holds 11 = .ok (.iload_n 2, 1) := by decide +kernel
theorem d_AB_holds_12 : decode k_AB_holds 12 = .ok (.invokevirtual 62, 3) := by decide +kernel
theorem d_AB_holds_15 : decode k_AB_holds 15 = .ok (.ifCond .ne 13, 3) := by decide +kernel
theorem d_AB_holds_18 : decode k_AB_holds 18 = .ok (.new 112, 3) := by decide +kernel
theorem d_AB_holds_21 : decode k_AB_holds 21 = .ok (.dup, 1) := by decide +kernel
theorem d_AB_holds_22 : decode k_AB_holds 22 = .ok (.ldc 149, 2) := by decide +kernel
theorem d_AB_holds_24 : decode k_AB_holds 24 = .ok (.invokespecial 116, 3) := by decide +kernel
theorem d_AB_holds_27 : decode k_AB_holds 27 = .ok (.athrow, 1) := by decide +kernel
theorem d_AB_holds_28 : decode k_AB_holds 28 = .ok (.aload_n 0, 1) := by decide +kernel
theorem d_AB_holds_29 : decode k_AB_holds 29 = .ok (.getfield 19, 3) := by decide +kernel
theorem d_AB_holds_32 : decode k_AB_holds 32 = .ok (.aload_n 0, 1) := by decide +kernel
theorem d_AB_holds_33 : decode k_AB_holds 33 = .ok (.getfield 12, 3) := by decide +kernel
theorem d_AB_holds_36 : decode k_AB_holds 36 = .ok (.invokevirtual 86, 3) := by decide +kernel
theorem d_AB_holds_39 : decode k_AB_holds 39 = .ok (.iload_n 2, 1) := by decide +kernel
theorem d_AB_holds_40 : decode k_AB_holds 40 = .ok (.iload_n 3, 1) := by decide +kernel
theorem d_AB_holds_41 : decode k_AB_holds 41 = .ok (.ifCond .eq 14, 3) := by decide +kernel
theorem d_AB_holds_44 : decode k_AB_holds 44 = .ok (.aload_n 0, 1) := by decide +kernel
theorem d_AB_holds_45 : decode k_AB_holds 45 = .ok (.getfield 19, 3) := by decide +kernel
theorem d_AB_holds_48 : decode k_AB_holds 48 = .ok (.iload_n 1, 1) := by decide +kernel
theorem d_AB_holds_49 : decode k_AB_holds 49 = .ok (.invokevirtual 105, 3) := by decide +kernel
theorem d_AB_holds_52 : decode k_AB_holds 52 = .ok (.goto 18, 3) := by decide +kernel
theorem d_AB_holds_55 : decode k_AB_holds 55 = .ok (.aload_n 0, 1) := by decide +kernel
theorem d_AB_holds_56 : decode k_AB_holds 56 = .ok (.getfield 19, 3) := by decide +kernel
theorem d_AB_holds_59 : decode k_AB_holds 59 = .ok (.iload_n 1, 1) := by decide +kernel
theorem d_AB_holds_60 : decode k_AB_holds 60 = .ok (.aload_n 0, 1) := by decide +kernel
theorem d_AB_holds_61 : decode k_AB_holds 61 = .ok (.getfield 12, 3) := by decide +kernel
theorem d_AB_holds_64 : decode k_AB_holds 64 = .ok (.invokevirtual 151, 3) := by decide +kernel
theorem d_AB_holds_67 : decode k_AB_holds 67 = .ok (.invokevirtual 108, 3) := by decide +kernel
theorem d_AB_holds_70 : decode k_AB_holds 70 = .ok (.invokestatic 143, 3) := by decide +kernel
theorem d_AB_holds_73 : decode k_AB_holds 73 = .ok (.ireturn, 1) := by decide +kernel
theorem d_AB_dialogue_0 : decode k_AB_dialogue 0 = .ok (.aload_n 0, 1) := by decide +kernel
theorem d_AB_dialogue_1 : decode k_AB_dialogue 1 = .ok (.getfield 12, 3) := by decide +kernel
theorem d_AB_dialogue_4 : decode k_AB_dialogue 4 = .ok (.iload_n 1, 1) := by decide +kernel
theorem d_AB_dialogue_5 : decode k_AB_dialogue 5 = .ok (.invokevirtual 62, 3) := by decide +kernel
theorem d_AB_dialogue_8 : decode k_AB_dialogue 8 = .ok (.ifCond .ne 13, 3) := by decide +kernel
theorem d_AB_dialogue_11 : decode k_AB_dialogue 11 = .ok (.new 112, 3) := by decide +kernel
theorem d_AB_dialogue_14 : decode k_AB_dialogue 14 = .ok (.dup, 1) := by decide +kernel
theorem d_AB_dialogue_15 : decode k_AB_dialogue 15 = .ok (.ldc 136, 2) := by decide +kernel
theorem d_AB_dialogue_17 : decode k_AB_dialogue 17 = .ok (.invokespecial 116, 3) := by decide +kernel
theorem d_AB_dialogue_20 : decode k_AB_dialogue 20 = .ok (.athrow, 1) := by decide +kernel
theorem d_AB_dialogue_21 : decode k_AB_dialogue 21 = .ok (.aload_n 0, 1) := by decide +kernel
theorem d_AB_dialogue_22 : decode k_AB_dialogue 22 = .ok (.getfield 33, 3) := by decide +kernel
theorem d_AB_dialogue_25 : decode k_AB_dialogue 25 = .ok (.aload_n 0, 1) := by decide +kernel
theorem d_AB_dialogue_26 : decode k_AB_dialogue 26 = .ok (.getfield 12, 3) := by decide +kernel
theorem d_AB_dialogue_29 : decode k_AB_dialogue 29 = .ok (.invokevirtual 96, 3) := by decide +kernel
theorem d_AB_dialogue_32 : decode k_AB_dialogue 32 = .ok (.aload_n 0, 1) := by decide +kernel
theorem d_AB_dialogue_33 : decode k_AB_dialogue 33 = .ok (.getfield 40, 3) := by decide +kernel
theorem d_AB_dialogue_36 : decode k_AB_dialogue 36 = .ok (.iload_n 1, 1) := by decide +kernel
theorem d_AB_dialogue_37 : decode k_AB_dialogue 37 = .ok (.aload_n 0, 1) := by decide +kernel
theorem d_AB_dialogue_38 : decode k_AB_dialogue 38 = .ok (.getfield 12, 3) := by decide +kernel
theorem d_AB_dialogue_41 : decode k_AB_dialogue 41 = .ok (.aload_n 0, 1) := by decide +kernel
theorem d_AB_dialogue_42 : decode k_AB_dialogue 42 = .ok (.getfield 33, 3) := by decide +kernel
theorem d_AB_dialogue_45 : decode k_AB_dialogue 45 = .ok (.invokevirtual 154, 3) := by decide +kernel
theorem d_AB_dialogue_48 : decode k_AB_dialogue 48 = .ok (.ireturn, 1) := by decide +kernel
theorem d_Web_attackersOfOne_0 : decode k_Web_attackersOfOne 0 = .ok (.aload_n 0, 1) := by decide +kernel
theorem d_Web_attackersOfOne_1 : decode k_Web_attackersOfOne 1 = .ok (.iload_n 1, 1) := by decide +kernel
theorem d_Web_attackersOfOne_2 : decode k_Web_attackersOfOne 2 = .ok (.invokevirtual 34, 3) := by decide +kernel
theorem d_Web_attackersOfOne_5 : decode k_Web_attackersOfOne 5 = .ok (.ifCond .eq 12, 3) := by decide +kernel
theorem d_Web_attackersOfOne_8 : decode k_Web_attackersOfOne 8 = .ok (.aload_n 0, 1) := by decide +kernel
theorem d_Web_attackersOfOne_9 : decode k_Web_attackersOfOne 9 = .ok (.getfield 15, 3) := by decide +kernel
theorem d_Web_attackersOfOne_12 : decode k_Web_attackersOfOne 12 = .ok (.iload_n 1, 1) := by decide +kernel
theorem d_Web_attackersOfOne_13 : decode k_Web_attackersOfOne 13 = .ok (.iaload, 1) := by decide +kernel
theorem d_Web_attackersOfOne_14 : decode k_Web_attackersOfOne 14 = .ok (.goto 4, 3) := by decide +kernel
theorem d_Web_attackersOfOne_17 : decode k_Web_attackersOfOne 17 = .ok (.iconst 0, 1) := by decide +kernel
theorem d_Web_attackersOfOne_18 : decode k_Web_attackersOfOne 18 = .ok (.ireturn, 1) := by decide +kernel
end
section
/-! Rows over a walk's state as data: the place, the locals, the operand stack, the cells. Written by gen_rows.py. -/

/-- what stands for the whole run: the classes, the arrays' classes, the tables' words -/
def KK (D : va_G) (E : Nat → ClassId) (U : State) : Prop := va_K D vwCl [(E 0, .int), (E 1, .long), (E 2, .byte), (E 3, .boolean)] U ∧ ∀ w ∈ allw, ∀ a : Array Value, w.before a U = true
theorem kk_warm1 {w : Cond} (h : (goodWord w || isNest w) = true) {s U : State} (hW : s.WarmedH U.vm) (hw : ∀ a : Array Value, w.before a s = true) : ∀ a : Array Value, w.before a U = true := by
  intro a
  rcases Bool.or_eq_true _ _ |>.mp h with h | h
  · exact word_at hW (good_of_word h) (hw a)
  · cases w <;> first | (simp [isNest] at h; done) | exact va_Nw.use rfl (va_Nw.warmM hW (hw #[])) | exact va_Nw.use rfl (va_Nw.warmF hW (hw #[]))
theorem KK.warm {D : va_G} {E : Nat → ClassId} {s U : State} (hW : s.WarmedH U.vm) (h : KK D E s) : KK D E U :=
  ⟨va_K.moved hW.alike h.1, fun w hw => kk_warm1 (List.all_eq_true.mp allw_ok w hw) hW (h.2 w hw)⟩
/-- the machine in a method at pc, with locals lv, stack st and the cells ws, comes to Q -/
def GG (p : Program) (l : Launch) (e : Env) (R : Room) (s : State) (m : MethodId) (args : Array Value) (below : List Frame) (meth : Method) (c : Code) (Q : State → Prop) (D : va_G) (A : Nat → Prop) (nL cells slots pc : Nat) (lv : List (Nat × Value)) (st : List Value) (ws : va_W) : Prop :=
  ∀ (H : Heap) (locs : List Loc) (ls : Array Slot), va_P D vwCl ws H → va_D A ws → va_S A s.heap H locs → lv_has ls nL lv → W p l e R s m args below meth c H locs cells slots Q (F0 m pc ls st)
def CX (p : Program) (s : State) (m : MethodId) (args : Array Value) (c : Code) (D : va_G) (E : Nat → ClassId) (A : Nat → Prop) (cc : ByteArray) (nL : Nat) (own : String) : Prop :=
  p.tables.exec = Jvm.exec ∧ c.code = cc ∧ c.maxLocals = nL ∧ s.vm.findClass own = some m.cls ∧ KK D E s ∧ ∀ q, s.heap.size ≤ q → A q
theorem va_P.subm {D : va_G} {cl : List vw_C} {ws ws' : va_W} {H : Heap} (h : va_P D cl ws H) (is : List Nat) (hs : is.map (fun i => ws[i]?) = ws'.map some) : va_P D cl ws' H := by
  intro k q hk
  have h1 : (is.map (fun i => ws[i]?))[k]? = some (some q) := by rw [hs, List.getElem?_map, hk]; rfl
  rw [List.getElem?_map] at h1
  cases hi : is[k]? with
  | none => rw [hi] at h1; cases h1
  | some i => rw [hi] at h1; exact h i q (Option.some.inj h1)
section Rows
variable {p : Program} {l : Launch} {e : Env} {R : Room} {s : State} {m : MethodId} {args : Array Value} {below : List Frame} {meth : Method} {c : Code} {Q : State → Prop} {D : va_G} {E : Nat → ClassId} {A : Nat → Prop} {cc : ByteArray} {own : String} {nL cells slots pc : Nat} {lv lv' : List (Nat × Value)} {st : List Value} {ws ws' : va_W}
theorem g_perm (ks : List Nat) (h : lv_pick lv ks = lv') (k : GG p l e R s m args below meth c Q D A nL cells slots pc lv' st ws) : GG p l e R s m args below meth c Q D A nL cells slots pc lv st ws :=
  fun H locs ls hP hD hS hl => k H locs ls hP hD hS (lv_sub hl ks h)
theorem g_cells (is : List Nat) (hn : va_nd is = true) (h : is.map (fun i => ws[i]?) = ws'.map some) (k : GG p l e R s m args below meth c Q D A nL cells slots pc lv st ws') : GG p l e R s m args below meth c Q D A nL cells slots pc lv st ws :=
  fun H locs ls hP hD hS hl => k H locs ls (hP.subm is h) (hD.sub is hn h) hS hl
theorem g_widen {k n : Nat} (h1 : cells ≤ k) (h2 : slots ≤ n) (g : GG p l e R s m args below meth c Q D A nL k n pc lv st ws) : GG p l e R s m args below meth c Q D A nL cells slots pc lv st ws :=
  fun H locs ls hP hD hS hl => W.widen h1 h2 (g H locs ls hP hD hS hl)
theorem g_top {x y : Int32} (h : x = y) (k : GG p l e R s m args below meth c Q D A nL cells slots pc lv (.int y :: st) ws) : GG p l e R s m args below meth c Q D A nL cells slots pc lv (.int x :: st) ws := h ▸ k
theorem g_topl {x y : Int64} (h : x = y) (k : GG p l e R s m args below meth c Q D A nL cells slots pc lv (.long y :: st) ws) : GG p l e R s m args below meth c Q D A nL cells slots pc lv (.long x :: st) ws := h ▸ k
theorem g_ws (h : ws = ws') (k : GG p l e R s m args below meth c Q D A nL cells slots pc lv st ws') : GG p l e R s m args below meth c Q D A nL cells slots pc lv st ws := h ▸ k
theorem g_lv (h : lv = lv') (k : GG p l e R s m args below meth c Q D A nL cells slots pc lv' st ws) : GG p l e R s m args below meth c Q D A nL cells slots pc lv st ws := h ▸ k
theorem g_iconst (C : CX p s m args c D E A cc nL own) {n : Int} {v : Int32} (d : decode cc pc = .ok (.iconst n, 1)) (hv : Int32.ofInt n = v) (k : GG p l e R s m args below meth c Q D A nL cells slots (pc + 1) lv (.int v :: st) ws) : GG p l e R s m args below meth c Q D A nL cells slots pc lv st ws :=
  fun H locs ls hP hD hS hl => lv_iconst C.1 C.2.1 d hv (k H locs ls hP hD hS hl)
theorem g_bipush (C : CX p s m args c D E A cc nL own) {n : Int} {v : Int32} (d : decode cc pc = .ok (.bipush n, 2)) (hv : (Int8.ofInt n).toInt32 = v) (k : GG p l e R s m args below meth c Q D A nL cells slots (pc + 2) lv (.int v :: st) ws) : GG p l e R s m args below meth c Q D A nL cells slots pc lv st ws :=
  fun H locs ls hP hD hS hl => lv_bipush C.1 C.2.1 d hv (k H locs ls hP hD hS hl)
theorem g_sipush (C : CX p s m args c D E A cc nL own) {n : Int} {v : Int32} (d : decode cc pc = .ok (.sipush n, 3)) (hv : (Int16.ofInt n).toInt32 = v) (k : GG p l e R s m args below meth c Q D A nL cells slots (pc + 3) lv (.int v :: st) ws) : GG p l e R s m args below meth c Q D A nL cells slots pc lv st ws :=
  fun H locs ls hP hD hS hl => lv_sipush C.1 C.2.1 d hv (k H locs ls hP hD hS hl)
theorem g_iload_n (C : CX p s m args c D E A cc nL own) {f : Fin 4} {i : Nat} {x : Int32} (d : decode cc pc = .ok (.iload_n f, 1)) (hi : (f : Nat) = i) (j : Nat) (h : lv[j]? = some (i, .int x)) (k : GG p l e R s m args below meth c Q D A nL cells slots (pc + 1) lv (.int x :: st) ws) : GG p l e R s m args below meth c Q D A nL cells slots pc lv st ws :=
  fun H locs ls hP hD hS hl => lv_iload_n C.1 C.2.1 d hi (lv_at hl j h) (k H locs ls hP hD hS hl)
theorem g_iload (C : CX p s m args c D E A cc nL own) {i : Nat} {x : Int32} (d : decode cc pc = .ok (.iload i, 2)) (j : Nat) (h : lv[j]? = some (i, .int x)) (k : GG p l e R s m args below meth c Q D A nL cells slots (pc + 2) lv (.int x :: st) ws) : GG p l e R s m args below meth c Q D A nL cells slots pc lv st ws :=
  fun H locs ls hP hD hS hl => lv_iload C.1 C.2.1 d (lv_at hl j h) (k H locs ls hP hD hS hl)
theorem g_aload_n (C : CX p s m args c D E A cc nL own) {f : Fin 4} {i : Nat} {x : Nat} (d : decode cc pc = .ok (.aload_n f, 1)) (hi : (f : Nat) = i) (j : Nat) (h : lv[j]? = some (i, .ref x)) (k : GG p l e R s m args below meth c Q D A nL cells slots (pc + 1) lv (.ref x :: st) ws) : GG p l e R s m args below meth c Q D A nL cells slots pc lv st ws :=
  fun H locs ls hP hD hS hl => lv_aload_n C.1 C.2.1 d hi (lv_at hl j h) (k H locs ls hP hD hS hl)
theorem g_aload (C : CX p s m args c D E A cc nL own) {i : Nat} {x : Nat} (d : decode cc pc = .ok (.aload i, 2)) (j : Nat) (h : lv[j]? = some (i, .ref x)) (k : GG p l e R s m args below meth c Q D A nL cells slots (pc + 2) lv (.ref x :: st) ws) : GG p l e R s m args below meth c Q D A nL cells slots pc lv st ws :=
  fun H locs ls hP hD hS hl => lv_aload C.1 C.2.1 d (lv_at hl j h) (k H locs ls hP hD hS hl)
theorem g_istore_n (C : CX p s m args c D E A cc nL own) {f : Fin 4} {i : Nat} {x : Int32} (d : decode cc pc = .ok (.istore_n f, 1)) (hi : (f : Nat) = i) (hn : i < nL) (hv : (i, Value.int x) :: lv.filter (fun q => !(q.1 == i) && !(q.1 + 1 == i && q.2.category == 2)) = lv') (k : GG p l e R s m args below meth c Q D A nL cells slots (pc + 1) lv' st ws) : GG p l e R s m args below meth c Q D A nL cells slots pc lv (.int x :: st) ws :=
  fun H locs ls hP hD hS hl => lv_istore_n C.1 C.2.1 d hi hl hn hv (fun ls hl => k H locs ls hP hD hS hl)
theorem g_istore (C : CX p s m args c D E A cc nL own) {i : Nat} {x : Int32} (d : decode cc pc = .ok (.istore i, 2)) (hn : i < nL) (hv : (i, Value.int x) :: lv.filter (fun q => !(q.1 == i) && !(q.1 + 1 == i && q.2.category == 2)) = lv') (k : GG p l e R s m args below meth c Q D A nL cells slots (pc + 2) lv' st ws) : GG p l e R s m args below meth c Q D A nL cells slots pc lv (.int x :: st) ws :=
  fun H locs ls hP hD hS hl => lv_istore C.1 C.2.1 d hl hn hv (fun ls hl => k H locs ls hP hD hS hl)
theorem g_astore_n (C : CX p s m args c D E A cc nL own) {f : Fin 4} {i : Nat} {x : Nat} (d : decode cc pc = .ok (.astore_n f, 1)) (hi : (f : Nat) = i) (hn : i < nL) (hv : (i, Value.ref x) :: lv.filter (fun q => !(q.1 == i) && !(q.1 + 1 == i && q.2.category == 2)) = lv') (k : GG p l e R s m args below meth c Q D A nL cells slots (pc + 1) lv' st ws) : GG p l e R s m args below meth c Q D A nL cells slots pc lv (.ref x :: st) ws :=
  fun H locs ls hP hD hS hl => lv_astore_n C.1 C.2.1 d hi hl hn hv (fun ls hl => k H locs ls hP hD hS hl)
theorem g_astore (C : CX p s m args c D E A cc nL own) {i : Nat} {x : Nat} (d : decode cc pc = .ok (.astore i, 2)) (hn : i < nL) (hv : (i, Value.ref x) :: lv.filter (fun q => !(q.1 == i) && !(q.1 + 1 == i && q.2.category == 2)) = lv') (k : GG p l e R s m args below meth c Q D A nL cells slots (pc + 2) lv' st ws) : GG p l e R s m args below meth c Q D A nL cells slots pc lv (.ref x :: st) ws :=
  fun H locs ls hP hD hS hl => lv_astore C.1 C.2.1 d hl hn hv (fun ls hl => k H locs ls hP hD hS hl)
theorem g_iinc (C : CX p s m args c D E A cc nL own) {i : Nat} {n : Int} {x v : Int32} (d : decode cc pc = .ok (.iinc i n, 3)) (j : Nat) (h : lv[j]? = some (i, .int x)) (he : x + Int32.ofInt n = v) (hn : i < nL) (hv : (i, Value.int v) :: lv.filter (fun q => !(q.1 == i) && !(q.1 + 1 == i && q.2.category == 2)) = lv') (k : GG p l e R s m args below meth c Q D A nL cells slots (pc + 3) lv' st ws) : GG p l e R s m args below meth c Q D A nL cells slots pc lv st ws :=
  fun H locs ls hP hD hS hl => lv_iinc (k := j) C.1 C.2.1 d hl h he hn hv (fun ls hl => k H locs ls hP hD hS hl)
theorem g_iadd (C : CX p s m args c D E A cc nL own) {x y : Int32} (d : decode cc pc = .ok (.iadd, 1)) (k : GG p l e R s m args below meth c Q D A nL cells slots (pc + 1) lv (.int (x + y) :: st) ws) : GG p l e R s m args below meth c Q D A nL cells slots pc lv (.int y :: .int x :: st) ws :=
  fun H locs ls hP hD hS hl => lv_iadd C.1 C.2.1 d (k H locs ls hP hD hS hl)
theorem g_isub (C : CX p s m args c D E A cc nL own) {x y : Int32} (d : decode cc pc = .ok (.isub, 1)) (k : GG p l e R s m args below meth c Q D A nL cells slots (pc + 1) lv (.int (x - y) :: st) ws) : GG p l e R s m args below meth c Q D A nL cells slots pc lv (.int y :: .int x :: st) ws :=
  fun H locs ls hP hD hS hl => lv_isub C.1 C.2.1 d (k H locs ls hP hD hS hl)
theorem g_imul (C : CX p s m args c D E A cc nL own) {x y : Int32} (d : decode cc pc = .ok (.imul, 1)) (k : GG p l e R s m args below meth c Q D A nL cells slots (pc + 1) lv (.int (x * y) :: st) ws) : GG p l e R s m args below meth c Q D A nL cells slots pc lv (.int y :: .int x :: st) ws :=
  fun H locs ls hP hD hS hl => lv_imul C.1 C.2.1 d (k H locs ls hP hD hS hl)
theorem g_iand (C : CX p s m args c D E A cc nL own) {x y : Int32} (d : decode cc pc = .ok (.iand, 1)) (k : GG p l e R s m args below meth c Q D A nL cells slots (pc + 1) lv (.int (x &&& y) :: st) ws) : GG p l e R s m args below meth c Q D A nL cells slots pc lv (.int y :: .int x :: st) ws :=
  fun H locs ls hP hD hS hl => lv_iand C.1 C.2.1 d (k H locs ls hP hD hS hl)
theorem g_ior (C : CX p s m args c D E A cc nL own) {x y : Int32} (d : decode cc pc = .ok (.ior, 1)) (k : GG p l e R s m args below meth c Q D A nL cells slots (pc + 1) lv (.int (x ||| y) :: st) ws) : GG p l e R s m args below meth c Q D A nL cells slots pc lv (.int y :: .int x :: st) ws :=
  fun H locs ls hP hD hS hl => lv_ior C.1 C.2.1 d (k H locs ls hP hD hS hl)
theorem g_ixor (C : CX p s m args c D E A cc nL own) {x y : Int32} (d : decode cc pc = .ok (.ixor, 1)) (k : GG p l e R s m args below meth c Q D A nL cells slots (pc + 1) lv (.int (x ^^^ y) :: st) ws) : GG p l e R s m args below meth c Q D A nL cells slots pc lv (.int y :: .int x :: st) ws :=
  fun H locs ls hP hD hS hl => lv_ixor C.1 C.2.1 d (k H locs ls hP hD hS hl)
theorem g_ishl (C : CX p s m args c D E A cc nL own) {x y : Int32} (d : decode cc pc = .ok (.ishl, 1)) (k : GG p l e R s m args below meth c Q D A nL cells slots (pc + 1) lv (.int (x <<< (y &&& 31)) :: st) ws) : GG p l e R s m args below meth c Q D A nL cells slots pc lv (.int y :: .int x :: st) ws :=
  fun H locs ls hP hD hS hl => lv_ishl C.1 C.2.1 d (k H locs ls hP hD hS hl)
theorem g_ishr (C : CX p s m args c D E A cc nL own) {x y : Int32} (d : decode cc pc = .ok (.ishr, 1)) (k : GG p l e R s m args below meth c Q D A nL cells slots (pc + 1) lv (.int (x >>> (y &&& 31)) :: st) ws) : GG p l e R s m args below meth c Q D A nL cells slots pc lv (.int y :: .int x :: st) ws :=
  fun H locs ls hP hD hS hl => lv_ishr C.1 C.2.1 d (k H locs ls hP hD hS hl)
theorem g_dup (C : CX p s m args c D E A cc nL own) {v : Value} (d : decode cc pc = .ok (.dup, 1)) (hc : v.category = 1) (k : GG p l e R s m args below meth c Q D A nL cells slots (pc + 1) lv (v :: v :: st) ws) : GG p l e R s m args below meth c Q D A nL cells slots pc lv (v :: st) ws :=
  fun H locs ls hP hD hS hl => lv_dup C.1 C.2.1 d hc (k H locs ls hP hD hS hl)
theorem g_pop (C : CX p s m args c D E A cc nL own) {v : Value} (d : decode cc pc = .ok (.pop, 1)) (hc : v.category = 1) (k : GG p l e R s m args below meth c Q D A nL cells slots (pc + 1) lv st ws) : GG p l e R s m args below meth c Q D A nL cells slots pc lv (v :: st) ws :=
  fun H locs ls hP hD hS hl => lv_pop C.1 C.2.1 d hc (k H locs ls hP hD hS hl)
theorem g_dup_x1 (C : CX p s m args c D E A cc nL own) {va vb : Value} (d : decode cc pc = .ok (.dup_x1, 1)) (ha : va.category = 1) (hb : vb.category = 1) (k : GG p l e R s m args below meth c Q D A nL cells slots (pc + 1) lv (va :: vb :: va :: st) ws) : GG p l e R s m args below meth c Q D A nL cells slots pc lv (va :: vb :: st) ws :=
  fun H locs ls hP hD hS hl => lv_dup_x1 C.1 C.2.1 d ha hb (k H locs ls hP hD hS hl)
theorem g_dup2 (C : CX p s m args c D E A cc nL own) {va vb : Value} (d : decode cc pc = .ok (.dup2, 1)) (ha : va.category = 1) (hb : vb.category = 1) (k : GG p l e R s m args below meth c Q D A nL cells slots (pc + 1) lv (va :: vb :: va :: vb :: st) ws) : GG p l e R s m args below meth c Q D A nL cells slots pc lv (va :: vb :: st) ws :=
  fun H locs ls hP hD hS hl => lv_dup2_11 C.1 C.2.1 d ha hb (k H locs ls hP hD hS hl)
theorem g_if_eq (C : CX p s m args c D E A cc nL own) {x : Int32} {off : Int} {tgt : Nat} (d : decode cc pc = .ok (.ifCond .eq off, 3)) (ht : (pc : Int) + off = (tgt : Int)) (kt : x = 0 → GG p l e R s m args below meth c Q D A nL cells slots tgt lv st ws) (kf : ¬ x = 0 → GG p l e R s m args below meth c Q D A nL cells slots (pc + 3) lv st ws) : GG p l e R s m args below meth c Q D A nL cells slots pc lv (.int x :: st) ws :=
  fun H locs ls hP hD hS hl => lv_if_eq C.1 C.2.1 d ht (fun h => kt h H locs ls hP hD hS hl) (fun h => kf h H locs ls hP hD hS hl)
theorem g_if_ne (C : CX p s m args c D E A cc nL own) {x : Int32} {off : Int} {tgt : Nat} (d : decode cc pc = .ok (.ifCond .ne off, 3)) (ht : (pc : Int) + off = (tgt : Int)) (kt : ¬ x = 0 → GG p l e R s m args below meth c Q D A nL cells slots tgt lv st ws) (kf : x = 0 → GG p l e R s m args below meth c Q D A nL cells slots (pc + 3) lv st ws) : GG p l e R s m args below meth c Q D A nL cells slots pc lv (.int x :: st) ws :=
  fun H locs ls hP hD hS hl => lv_if_ne C.1 C.2.1 d ht (fun h => kt h H locs ls hP hD hS hl) (fun h => kf h H locs ls hP hD hS hl)
theorem g_if_lt (C : CX p s m args c D E A cc nL own) {x : Int32} {off : Int} {tgt : Nat} (d : decode cc pc = .ok (.ifCond .lt off, 3)) (ht : (pc : Int) + off = (tgt : Int)) (kt : x < 0 → GG p l e R s m args below meth c Q D A nL cells slots tgt lv st ws) (kf : ¬ x < 0 → GG p l e R s m args below meth c Q D A nL cells slots (pc + 3) lv st ws) : GG p l e R s m args below meth c Q D A nL cells slots pc lv (.int x :: st) ws :=
  fun H locs ls hP hD hS hl => lv_if_lt C.1 C.2.1 d ht (fun h => kt h H locs ls hP hD hS hl) (fun h => kf h H locs ls hP hD hS hl)
theorem g_if_ge (C : CX p s m args c D E A cc nL own) {x : Int32} {off : Int} {tgt : Nat} (d : decode cc pc = .ok (.ifCond .ge off, 3)) (ht : (pc : Int) + off = (tgt : Int)) (kt : 0 ≤ x → GG p l e R s m args below meth c Q D A nL cells slots tgt lv st ws) (kf : ¬ 0 ≤ x → GG p l e R s m args below meth c Q D A nL cells slots (pc + 3) lv st ws) : GG p l e R s m args below meth c Q D A nL cells slots pc lv (.int x :: st) ws :=
  fun H locs ls hP hD hS hl => lv_if_ge C.1 C.2.1 d ht (fun h => kt h H locs ls hP hD hS hl) (fun h => kf h H locs ls hP hD hS hl)
theorem g_if_gt (C : CX p s m args c D E A cc nL own) {x : Int32} {off : Int} {tgt : Nat} (d : decode cc pc = .ok (.ifCond .gt off, 3)) (ht : (pc : Int) + off = (tgt : Int)) (kt : 0 < x → GG p l e R s m args below meth c Q D A nL cells slots tgt lv st ws) (kf : ¬ 0 < x → GG p l e R s m args below meth c Q D A nL cells slots (pc + 3) lv st ws) : GG p l e R s m args below meth c Q D A nL cells slots pc lv (.int x :: st) ws :=
  fun H locs ls hP hD hS hl => lv_if_gt C.1 C.2.1 d ht (fun h => kt h H locs ls hP hD hS hl) (fun h => kf h H locs ls hP hD hS hl)
theorem g_if_le (C : CX p s m args c D E A cc nL own) {x : Int32} {off : Int} {tgt : Nat} (d : decode cc pc = .ok (.ifCond .le off, 3)) (ht : (pc : Int) + off = (tgt : Int)) (kt : x ≤ 0 → GG p l e R s m args below meth c Q D A nL cells slots tgt lv st ws) (kf : ¬ x ≤ 0 → GG p l e R s m args below meth c Q D A nL cells slots (pc + 3) lv st ws) : GG p l e R s m args below meth c Q D A nL cells slots pc lv (.int x :: st) ws :=
  fun H locs ls hP hD hS hl => lv_if_le C.1 C.2.1 d ht (fun h => kt h H locs ls hP hD hS hl) (fun h => kf h H locs ls hP hD hS hl)
theorem g_icmp_eq (C : CX p s m args c D E A cc nL own) {x y : Int32} {off : Int} {tgt : Nat} (d : decode cc pc = .ok (.if_icmp .eq off, 3)) (ht : (pc : Int) + off = (tgt : Int)) (kt : x = y → GG p l e R s m args below meth c Q D A nL cells slots tgt lv st ws) (kf : ¬ x = y → GG p l e R s m args below meth c Q D A nL cells slots (pc + 3) lv st ws) : GG p l e R s m args below meth c Q D A nL cells slots pc lv (.int y :: .int x :: st) ws :=
  fun H locs ls hP hD hS hl => lv_icmp_eq C.1 C.2.1 d ht (fun h => kt h H locs ls hP hD hS hl) (fun h => kf h H locs ls hP hD hS hl)
theorem g_icmp_ne (C : CX p s m args c D E A cc nL own) {x y : Int32} {off : Int} {tgt : Nat} (d : decode cc pc = .ok (.if_icmp .ne off, 3)) (ht : (pc : Int) + off = (tgt : Int)) (kt : ¬ x = y → GG p l e R s m args below meth c Q D A nL cells slots tgt lv st ws) (kf : x = y → GG p l e R s m args below meth c Q D A nL cells slots (pc + 3) lv st ws) : GG p l e R s m args below meth c Q D A nL cells slots pc lv (.int y :: .int x :: st) ws :=
  fun H locs ls hP hD hS hl => lv_icmp_ne C.1 C.2.1 d ht (fun h => kt h H locs ls hP hD hS hl) (fun h => kf h H locs ls hP hD hS hl)
theorem g_icmp_lt (C : CX p s m args c D E A cc nL own) {x y : Int32} {off : Int} {tgt : Nat} (d : decode cc pc = .ok (.if_icmp .lt off, 3)) (ht : (pc : Int) + off = (tgt : Int)) (kt : x < y → GG p l e R s m args below meth c Q D A nL cells slots tgt lv st ws) (kf : ¬ x < y → GG p l e R s m args below meth c Q D A nL cells slots (pc + 3) lv st ws) : GG p l e R s m args below meth c Q D A nL cells slots pc lv (.int y :: .int x :: st) ws :=
  fun H locs ls hP hD hS hl => lv_icmp_lt C.1 C.2.1 d ht (fun h => kt h H locs ls hP hD hS hl) (fun h => kf h H locs ls hP hD hS hl)
theorem g_icmp_ge (C : CX p s m args c D E A cc nL own) {x y : Int32} {off : Int} {tgt : Nat} (d : decode cc pc = .ok (.if_icmp .ge off, 3)) (ht : (pc : Int) + off = (tgt : Int)) (kt : y ≤ x → GG p l e R s m args below meth c Q D A nL cells slots tgt lv st ws) (kf : ¬ y ≤ x → GG p l e R s m args below meth c Q D A nL cells slots (pc + 3) lv st ws) : GG p l e R s m args below meth c Q D A nL cells slots pc lv (.int y :: .int x :: st) ws :=
  fun H locs ls hP hD hS hl => lv_icmp_ge C.1 C.2.1 d ht (fun h => kt h H locs ls hP hD hS hl) (fun h => kf h H locs ls hP hD hS hl)
theorem g_icmp_gt (C : CX p s m args c D E A cc nL own) {x y : Int32} {off : Int} {tgt : Nat} (d : decode cc pc = .ok (.if_icmp .gt off, 3)) (ht : (pc : Int) + off = (tgt : Int)) (kt : y < x → GG p l e R s m args below meth c Q D A nL cells slots tgt lv st ws) (kf : ¬ y < x → GG p l e R s m args below meth c Q D A nL cells slots (pc + 3) lv st ws) : GG p l e R s m args below meth c Q D A nL cells slots pc lv (.int y :: .int x :: st) ws :=
  fun H locs ls hP hD hS hl => lv_icmp_gt C.1 C.2.1 d ht (fun h => kt h H locs ls hP hD hS hl) (fun h => kf h H locs ls hP hD hS hl)
theorem g_icmp_le (C : CX p s m args c D E A cc nL own) {x y : Int32} {off : Int} {tgt : Nat} (d : decode cc pc = .ok (.if_icmp .le off, 3)) (ht : (pc : Int) + off = (tgt : Int)) (kt : x ≤ y → GG p l e R s m args below meth c Q D A nL cells slots tgt lv st ws) (kf : ¬ x ≤ y → GG p l e R s m args below meth c Q D A nL cells slots (pc + 3) lv st ws) : GG p l e R s m args below meth c Q D A nL cells slots pc lv (.int y :: .int x :: st) ws :=
  fun H locs ls hP hD hS hl => lv_icmp_le C.1 C.2.1 d ht (fun h => kt h H locs ls hP hD hS hl) (fun h => kf h H locs ls hP hD hS hl)
theorem g_goto (C : CX p s m args c D E A cc nL own) {off : Int} {tgt : Nat} (d : decode cc pc = .ok (.goto off, 3)) (ht : (pc : Int) + off = (tgt : Int)) (k : GG p l e R s m args below meth c Q D A nL cells slots tgt lv st ws) : GG p l e R s m args below meth c Q D A nL cells slots pc lv st ws :=
  fun H locs ls hP hD hS hl => lv_goto C.1 C.2.1 d ht (k H locs ls hP hD hS hl)
theorem g_icmp_eqN (C : CX p s m args c D E A cc nL own) {a b : Nat} (ha : a < 2 ^ 31) (hb : b < 2 ^ 31) {off : Int} {tgt : Nat} (d : decode cc pc = .ok (.if_icmp .eq off, 3)) (ht : (pc : Int) + off = (tgt : Int)) (kt : a = b → GG p l e R s m args below meth c Q D A nL cells slots tgt lv st ws) (kf : a ≠ b → GG p l e R s m args below meth c Q D A nL cells slots (pc + 3) lv st ws) : GG p l e R s m args below meth c Q D A nL cells slots pc lv (.int (nI b) :: .int (nI a) :: st) ws :=
  g_icmp_eq C d ht (fun h => kt ((nI_eq ha hb).mp h)) (fun h => kf (fun q => h ((nI_eq ha hb).mpr q)))
theorem g_icmp_neN (C : CX p s m args c D E A cc nL own) {a b : Nat} (ha : a < 2 ^ 31) (hb : b < 2 ^ 31) {off : Int} {tgt : Nat} (d : decode cc pc = .ok (.if_icmp .ne off, 3)) (ht : (pc : Int) + off = (tgt : Int)) (kt : a ≠ b → GG p l e R s m args below meth c Q D A nL cells slots tgt lv st ws) (kf : a = b → GG p l e R s m args below meth c Q D A nL cells slots (pc + 3) lv st ws) : GG p l e R s m args below meth c Q D A nL cells slots pc lv (.int (nI b) :: .int (nI a) :: st) ws :=
  g_icmp_ne C d ht (fun h => kt (fun q => h ((nI_eq ha hb).mpr q))) (fun h => kf ((nI_eq ha hb).mp h))
theorem g_icmp_ltN (C : CX p s m args c D E A cc nL own) {a b : Nat} (ha : a < 2 ^ 31) (hb : b < 2 ^ 31) {off : Int} {tgt : Nat} (d : decode cc pc = .ok (.if_icmp .lt off, 3)) (ht : (pc : Int) + off = (tgt : Int)) (kt : a < b → GG p l e R s m args below meth c Q D A nL cells slots tgt lv st ws) (kf : b ≤ a → GG p l e R s m args below meth c Q D A nL cells slots (pc + 3) lv st ws) : GG p l e R s m args below meth c Q D A nL cells slots pc lv (.int (nI b) :: .int (nI a) :: st) ws :=
  g_icmp_lt C d ht (fun h => kt ((nI_ltI ha hb).mp h)) (fun h => kf (Nat.not_lt.mp fun q => h ((nI_ltI ha hb).mpr q)))
theorem g_icmp_geN (C : CX p s m args c D E A cc nL own) {a b : Nat} (ha : a < 2 ^ 31) (hb : b < 2 ^ 31) {off : Int} {tgt : Nat} (d : decode cc pc = .ok (.if_icmp .ge off, 3)) (ht : (pc : Int) + off = (tgt : Int)) (kt : b ≤ a → GG p l e R s m args below meth c Q D A nL cells slots tgt lv st ws) (kf : a < b → GG p l e R s m args below meth c Q D A nL cells slots (pc + 3) lv st ws) : GG p l e R s m args below meth c Q D A nL cells slots pc lv (.int (nI b) :: .int (nI a) :: st) ws :=
  g_icmp_ge C d ht (fun h => kt ((nI_leI hb ha).mp h)) (fun h => kf (Nat.not_le.mp fun q => h ((nI_leI hb ha).mpr q)))
theorem g_icmp_gtN (C : CX p s m args c D E A cc nL own) {a b : Nat} (ha : a < 2 ^ 31) (hb : b < 2 ^ 31) {off : Int} {tgt : Nat} (d : decode cc pc = .ok (.if_icmp .gt off, 3)) (ht : (pc : Int) + off = (tgt : Int)) (kt : b < a → GG p l e R s m args below meth c Q D A nL cells slots tgt lv st ws) (kf : a ≤ b → GG p l e R s m args below meth c Q D A nL cells slots (pc + 3) lv st ws) : GG p l e R s m args below meth c Q D A nL cells slots pc lv (.int (nI b) :: .int (nI a) :: st) ws :=
  g_icmp_gt C d ht (fun h => kt ((nI_ltI hb ha).mp h)) (fun h => kf (Nat.not_lt.mp fun q => h ((nI_ltI hb ha).mpr q)))
theorem g_icmp_leN (C : CX p s m args c D E A cc nL own) {a b : Nat} (ha : a < 2 ^ 31) (hb : b < 2 ^ 31) {off : Int} {tgt : Nat} (d : decode cc pc = .ok (.if_icmp .le off, 3)) (ht : (pc : Int) + off = (tgt : Int)) (kt : a ≤ b → GG p l e R s m args below meth c Q D A nL cells slots tgt lv st ws) (kf : b < a → GG p l e R s m args below meth c Q D A nL cells slots (pc + 3) lv st ws) : GG p l e R s m args below meth c Q D A nL cells slots pc lv (.int (nI b) :: .int (nI a) :: st) ws :=
  g_icmp_le C d ht (fun h => kt ((nI_leI ha hb).mp h)) (fun h => kf (Nat.not_le.mp fun q => h ((nI_leI ha hb).mpr q)))
theorem nI_z {a : Nat} (ha : a < 2 ^ 31) : nI a = 0 ↔ a = 0 := by rw [← nI_0]; exact nI_eq ha (by decide)
theorem g_if_eqN (C : CX p s m args c D E A cc nL own) {a : Nat} (ha : a < 2 ^ 31) {off : Int} {tgt : Nat} (d : decode cc pc = .ok (.ifCond .eq off, 3)) (ht : (pc : Int) + off = (tgt : Int)) (kt : a = 0 → GG p l e R s m args below meth c Q D A nL cells slots tgt lv st ws) (kf : a ≠ 0 → GG p l e R s m args below meth c Q D A nL cells slots (pc + 3) lv st ws) : GG p l e R s m args below meth c Q D A nL cells slots pc lv (.int (nI a) :: st) ws :=
  g_if_eq C d ht (fun h => kt ((nI_z ha).mp h)) (fun h => kf (fun q => h ((nI_z ha).mpr q)))
theorem g_if_neN (C : CX p s m args c D E A cc nL own) {a : Nat} (ha : a < 2 ^ 31) {off : Int} {tgt : Nat} (d : decode cc pc = .ok (.ifCond .ne off, 3)) (ht : (pc : Int) + off = (tgt : Int)) (kt : a ≠ 0 → GG p l e R s m args below meth c Q D A nL cells slots tgt lv st ws) (kf : a = 0 → GG p l e R s m args below meth c Q D A nL cells slots (pc + 3) lv st ws) : GG p l e R s m args below meth c Q D A nL cells slots pc lv (.int (nI a) :: st) ws :=
  g_if_ne C d ht (fun h => kt (fun q => h ((nI_z ha).mpr q))) (fun h => kf ((nI_z ha).mp h))
theorem g_if_ltN (C : CX p s m args c D E A cc nL own) {a : Nat} (ha : a < 2 ^ 31) {off : Int} {tgt : Nat} (d : decode cc pc = .ok (.ifCond .lt off, 3)) (ht : (pc : Int) + off = (tgt : Int)) (kf : GG p l e R s m args below meth c Q D A nL cells slots (pc + 3) lv st ws) : GG p l e R s m args below meth c Q D A nL cells slots pc lv (.int (nI a) :: st) ws :=
  g_if_lt C d ht (fun h => absurd h (nI_pos ha)) (fun _ => kf)
theorem g_if_geN (C : CX p s m args c D E A cc nL own) {a : Nat} (ha : a < 2 ^ 31) {off : Int} {tgt : Nat} (d : decode cc pc = .ok (.ifCond .ge off, 3)) (ht : (pc : Int) + off = (tgt : Int)) (kt : GG p l e R s m args below meth c Q D A nL cells slots tgt lv st ws) : GG p l e R s m args below meth c Q D A nL cells slots pc lv (.int (nI a) :: st) ws :=
  g_if_ge C d ht (fun _ => kt) (fun h => absurd (nI_pos' ha) h)
theorem bt_of {b : Bool} (h : ¬ b = false) : b = true := by cases b; exact absurd rfl h; rfl
def bI (b : Bool) : Int32 := if b then 1 else 0
theorem bI_t : bI true = 1 := rfl
theorem bI_f : bI false = 0 := rfl
theorem bI_z {b : Bool} : bI b = 0 ↔ b = false := by cases b <;> decide
theorem bI_inj {a b : Bool} : bI a = bI b ↔ a = b := by cases a <;> cases b <;> decide
theorem bI_nar (b : Bool) : narrow .boolean (.int (bI b)) = .int (bI b) := by cases b <;> rfl
theorem g_if_eqB (C : CX p s m args c D E A cc nL own) {b : Bool} {off : Int} {tgt : Nat} (d : decode cc pc = .ok (.ifCond .eq off, 3)) (ht : (pc : Int) + off = (tgt : Int)) (kt : b = false → GG p l e R s m args below meth c Q D A nL cells slots tgt lv st ws) (kf : b = true → GG p l e R s m args below meth c Q D A nL cells slots (pc + 3) lv st ws) : GG p l e R s m args below meth c Q D A nL cells slots pc lv (.int (bI b) :: st) ws :=
  g_if_eq C d ht (fun h => kt (bI_z.mp h)) (fun h => kf (bt_of fun q => h (bI_z.mpr q)))
theorem g_if_neB (C : CX p s m args c D E A cc nL own) {b : Bool} {off : Int} {tgt : Nat} (d : decode cc pc = .ok (.ifCond .ne off, 3)) (ht : (pc : Int) + off = (tgt : Int)) (kt : b = true → GG p l e R s m args below meth c Q D A nL cells slots tgt lv st ws) (kf : b = false → GG p l e R s m args below meth c Q D A nL cells slots (pc + 3) lv st ws) : GG p l e R s m args below meth c Q D A nL cells slots pc lv (.int (bI b) :: st) ws :=
  g_if_ne C d ht (fun h => kt (bt_of fun q => h (bI_z.mpr q))) (fun h => kf (bI_z.mp h))
theorem g_icmp_eqB (C : CX p s m args c D E A cc nL own) {a b : Bool} {off : Int} {tgt : Nat} (d : decode cc pc = .ok (.if_icmp .eq off, 3)) (ht : (pc : Int) + off = (tgt : Int)) (kt : a = b → GG p l e R s m args below meth c Q D A nL cells slots tgt lv st ws) (kf : a ≠ b → GG p l e R s m args below meth c Q D A nL cells slots (pc + 3) lv st ws) : GG p l e R s m args below meth c Q D A nL cells slots pc lv (.int (bI b) :: .int (bI a) :: st) ws :=
  g_icmp_eq C d ht (fun h => kt (bI_inj.mp h)) (fun h => kf (fun q => h (bI_inj.mpr q)))
theorem g_icmp_neB (C : CX p s m args c D E A cc nL own) {a b : Bool} {off : Int} {tgt : Nat} (d : decode cc pc = .ok (.if_icmp .ne off, 3)) (ht : (pc : Int) + off = (tgt : Int)) (kt : a ≠ b → GG p l e R s m args below meth c Q D A nL cells slots tgt lv st ws) (kf : a = b → GG p l e R s m args below meth c Q D A nL cells slots (pc + 3) lv st ws) : GG p l e R s m args below meth c Q D A nL cells slots pc lv (.int (bI b) :: .int (bI a) :: st) ws :=
  g_icmp_ne C d ht (fun h => kt (fun q => h (bI_inj.mpr q))) (fun h => kf (bI_inj.mp h))
theorem nx_or (a b : Nat) : nI a ||| nI b = nI (a ||| b) := by
  apply Int32.toBitVec_inj.mp
  show BitVec.ofNat 32 a ||| BitVec.ofNat 32 b = BitVec.ofNat 32 (a ||| b)
  apply BitVec.eq_of_toNat_eq
  simp [Nat.or_mod_two_pow]
theorem nx_and (a b : Nat) : nI a &&& nI b = nI (a &&& b) := by
  apply Int32.toBitVec_inj.mp
  show BitVec.ofNat 32 a &&& BitVec.ofNat 32 b = BitVec.ofNat 32 (a &&& b)
  apply BitVec.eq_of_toNat_eq
  simp [Nat.and_mod_two_pow]
/-- what is in a and not in b -/
def dif (a b : Nat) : Nat := a ^^^ (a &&& b)
theorem dif_bit (a b i : Nat) : (dif a b).testBit i = (a.testBit i && !b.testBit i) := by
  simp only [dif, Nat.testBit_xor, Nat.testBit_and]
  cases a.testBit i <;> cases b.testBit i <;> rfl
theorem dif_le (a b : Nat) : dif a b ≤ a := by
  apply Nat.le_of_testBit
  intro i h
  rw [dif_bit] at h
  revert h; cases a.testBit i <;> simp
theorem nx_dif (a b : Nat) : nI a &&& (nI b ^^^ -1) = nI (dif a b) := by
  apply Int32.toBitVec_inj.mp
  show BitVec.ofNat 32 a &&& (BitVec.ofNat 32 b ^^^ BitVec.allOnes 32) = BitVec.ofNat 32 (dif a b)
  apply BitVec.eq_of_getLsbD_eq
  intro i hi
  simp only [BitVec.getLsbD_and, BitVec.getLsbD_xor, BitVec.getLsbD_allOnes, BitVec.getLsbD_ofNat, dif_bit, hi, decide_true, Bool.true_and, Bool.xor_true]
theorem nx_shl1 : ∀ a, a < 32 → (1 : Int32) <<< (nI a &&& 31) = nI (2 ^ a) := by decide +kernel
theorem g_iaddN (C : CX p s m args c D E A cc nL own) {a b : Nat} (d : decode cc pc = .ok (.iadd, 1)) (k : GG p l e R s m args below meth c Q D A nL cells slots (pc + 1) lv (.int (nI (a + b)) :: st) ws) : GG p l e R s m args below meth c Q D A nL cells slots pc lv (.int (nI b) :: .int (nI a) :: st) ws :=
  g_iadd C d (g_top (nI_add a b) k)
theorem g_isubN (C : CX p s m args c D E A cc nL own) {a b : Nat} (h : b ≤ a) (d : decode cc pc = .ok (.isub, 1)) (k : GG p l e R s m args below meth c Q D A nL cells slots (pc + 1) lv (.int (nI (a - b)) :: st) ws) : GG p l e R s m args below meth c Q D A nL cells slots pc lv (.int (nI b) :: .int (nI a) :: st) ws :=
  g_isub C d (g_top (pk_sub h) k)
theorem g_iandN (C : CX p s m args c D E A cc nL own) {a b : Nat} (d : decode cc pc = .ok (.iand, 1)) (k : GG p l e R s m args below meth c Q D A nL cells slots (pc + 1) lv (.int (nI (a &&& b)) :: st) ws) : GG p l e R s m args below meth c Q D A nL cells slots pc lv (.int (nI b) :: .int (nI a) :: st) ws :=
  g_iand C d (g_top (nx_and a b) k)
theorem g_iandD (C : CX p s m args c D E A cc nL own) {a b : Nat} (d : decode cc pc = .ok (.iand, 1)) (k : GG p l e R s m args below meth c Q D A nL cells slots (pc + 1) lv (.int (nI (dif a b)) :: st) ws) : GG p l e R s m args below meth c Q D A nL cells slots pc lv (.int (nI b ^^^ -1) :: .int (nI a) :: st) ws :=
  g_iand C d (g_top (nx_dif a b) k)
theorem g_iorN (C : CX p s m args c D E A cc nL own) {a b : Nat} (d : decode cc pc = .ok (.ior, 1)) (k : GG p l e R s m args below meth c Q D A nL cells slots (pc + 1) lv (.int (nI (a ||| b)) :: st) ws) : GG p l e R s m args below meth c Q D A nL cells slots pc lv (.int (nI b) :: .int (nI a) :: st) ws :=
  g_ior C d (g_top (nx_or a b) k)
theorem g_ishl1N (C : CX p s m args c D E A cc nL own) {a : Nat} (h : a < 32) (d : decode cc pc = .ok (.ishl, 1)) (k : GG p l e R s m args below meth c Q D A nL cells slots (pc + 1) lv (.int (nI (2 ^ a)) :: st) ws) : GG p l e R s m args below meth c Q D A nL cells slots pc lv (.int (nI a) :: .int (nI 1) :: st) ws :=
  g_ishl C d (g_top (nx_shl1 a h) k)
theorem g_iincN (C : CX p s m args c D E A cc nL own) {i a b : Nat} {n : Int} (d : decode cc pc = .ok (.iinc i n, 3)) (j : Nat) (h : lv[j]? = some (i, .int (nI a))) (he : nI a + Int32.ofInt n = nI b) (hn : i < nL) (hv : (i, Value.int (nI b)) :: lv.filter (fun q => !(q.1 == i) && !(q.1 + 1 == i && q.2.category == 2)) = lv') (k : GG p l e R s m args below meth c Q D A nL cells slots (pc + 3) lv' st ws) : GG p l e R s m args below meth c Q D A nL cells slots pc lv st ws := g_iinc C d j h he hn hv k
theorem g_get (C : CX p s m args c D E A cc nL own) {Cn : String} {T : u_T} {N ci index : Nat} (hlay : ∀ w ∈ u_ws Cn T N, w ∈ allw) (q0 : Nat) {a : Nat} {fs : List Value} (he : ws[q0]? = some (a, .inr (ci, fs))) (hc : vwCl[ci]? = some (Cn, T, N)) (j : Nat) (hj : j < N) (hlink : Cond.fieldLink own index (T j).1 (T j).2.1 (T j).2.2.1 ∈ allw) {v : Value} (hv : fs[j]? = some v) (d : decode cc pc = .ok (.getfield index, 3)) (k : GG p l e R s m args below meth c Q D A nL cells slots (pc + 3) lv (v :: st) ws) : GG p l e R s m args below meth c Q D A nL cells slots pc lv (.ref a :: st) ws :=
  fun H locs ls hP hD hS hl => va_get C.1 C.2.1 (Ts := allw) (fun w hw => C.2.2.2.2.1.2 w hw args) hlay C.2.2.2.1 C.2.2.2.2.1.1 hP q0 he hc j hj (C.2.2.2.2.1.2 _ hlink args) (fun _ h9 => h9) hv d (k H locs ls hP hD hS hl)
theorem g_put (C : CX p s m args c D E A cc nL own) {Cn : String} {T : u_T} {N ci index : Nat} (hlay : ∀ w ∈ u_ws Cn T N, w ∈ allw) {ty0 : Nat → FieldType} (hty : ∀ k, k < N → parseFieldDescriptor (T k).2.2.1 = some (ty0 k)) (hnm : ∀ a, a < N → ∀ b, b < N → a ≠ b → (T a).2.1 ≠ (T b).2.1) (q0 : Nat) {a : Nat} {fs : List Value} (he : ws[q0]? = some (a, .inr (ci, fs))) (hc : vwCl[ci]? = some (Cn, T, N)) (j : Nat) (hj : j < N) (hlink : Cond.fieldLink own index (T j).1 (T j).2.1 (T j).2.2.1 ∈ allw) (hfin : (T j).2.2.2 = false) {v : Value} (hn : narrow (ty0 j) v = v) (hfit : fits (ty0 j) v = true) (hl : j < fs.length) (hw : ws.set q0 (a, .inr (ci, fs.set j v)) = ws') (d : decode cc pc = .ok (.putfield index, 3)) (k : GG p l e R s m args below meth c Q D A nL cells slots (pc + 3) lv st ws') : GG p l e R s m args below meth c Q D A nL cells slots pc lv (v :: .ref a :: st) ws := by
  subst hw
  exact fun H locs ls hP hD hS hl9 => va_put C.1 C.2.1 (Ts := allw) (fun w hw => C.2.2.2.2.1.2 w hw args) hlay ty0 hty hnm C.2.2.2.1 C.2.2.2.2.1.1 hP hD hS q0 he hc j hj (C.2.2.2.2.1.2 _ hlink args) (fun _ h9 => h9) hfin (hty j hj) hn hfit hl d (fun H locs hP hD hS => k H locs ls hP hD hS hl9)
theorem g_putF (C : CX p s m args c D E A cc nL own) {Cn : String} {T : u_T} {N ci index : Nat} (hlay : ∀ w ∈ u_ws Cn T N, w ∈ allw) {ty0 : Nat → FieldType} (hty : ∀ k, k < N → parseFieldDescriptor (T k).2.2.1 = some (ty0 k)) (hnm : ∀ a, a < N → ∀ b, b < N → a ≠ b → (T a).2.1 ≠ (T b).2.1) (q0 : Nat) {a : Nat} {fs : List Value} (he : ws[q0]? = some (a, .inr (ci, fs))) (hc : vwCl[ci]? = some (Cn, T, N)) (j : Nat) (hj : j < N) (hlink : Cond.fieldLink own index (T j).1 (T j).2.1 (T j).2.2.1 ∈ allw) (hfin : (T j).2.2.2 = true) (hin : meth.name = "<init>") (hde : (T j).1 = own) {v : Value} (hn : narrow (ty0 j) v = v) (hfit : fits (ty0 j) v = true) (hl : j < fs.length) (hw : ws.set q0 (a, .inr (ci, fs.set j v)) = ws') (d : decode cc pc = .ok (.putfield index, 3)) (k : GG p l e R s m args below meth c Q D A nL cells slots (pc + 3) lv st ws') : GG p l e R s m args below meth c Q D A nL cells slots pc lv (v :: .ref a :: st) ws := by
  subst hw
  exact fun H locs ls hP hD hS hl9 => va_putF C.1 C.2.1 (Ts := allw) (fun w hw => C.2.2.2.2.1.2 w hw args) hlay ty0 hty hnm C.2.2.2.1 C.2.2.2.2.1.1 hP hD hS q0 he hc j hj (C.2.2.2.2.1.2 _ hlink args) (fun _ h9 => h9) hfin hin hde (hty j hj) hn hfit hl d (fun H locs hP hD hS => k H locs ls hP hD hS hl9)
def aN (T : Nat → Nat) : Nat → Int32 := fun k => nI (T k)
def aB (T : Nat → Bool) : Nat → Int32 := fun k => bI (T k)
theorem aN_up (T : Nat → Nat) (i v : Nat) : upd (aN T) i (nI v) = aN (va_up T i v) := by
  funext k
  simp only [upd, aN, va_up]
  split <;> rfl
theorem aB_up (T : Nat → Bool) (i : Nat) (v : Bool) : upd (aB T) i (vp_nar .boolean (bI v)) = aB (va_up T i v) := by
  have h : vp_nar .boolean (bI v) = bI v := by cases v <;> rfl
  rw [h]
  funext k
  simp only [upd, aB, va_up]
  split <;> rfl
theorem g_iald (C : CX p s m args c D E A cc nL own) (q0 : Nat) {a n : Nat} {f : Nat → Int32} (he : ws[q0]? = some (a, .inl (E 0, n, .inl f))) {i : Int32} (hin : vp_in i n) (d : decode cc pc = .ok (.iaload, 1)) (k : GG p l e R s m args below meth c Q D A nL cells slots (pc + 1) lv (.int (f i.toNatClampNeg) :: st) ws) : GG p l e R s m args below meth c Q D A nL cells slots pc lv (.int i :: .ref a :: st) ws :=
  fun H locs ls hP hD hS hl => va_iald C.1 C.2.1 C.2.2.2.2.1.1 hP q0 0 he rfl hin d (k H locs ls hP hD hS hl)
theorem g_ialdN (C : CX p s m args c D E A cc nL own) (q0 : Nat) {a n i : Nat} {f : Nat → Int32} (he : ws[q0]? = some (a, .inl (E 0, n, .inl f))) (hi : i < n) (hn : n < 2 ^ 31) (d : decode cc pc = .ok (.iaload, 1)) (k : GG p l e R s m args below meth c Q D A nL cells slots (pc + 1) lv (.int (f i) :: st) ws) : GG p l e R s m args below meth c Q D A nL cells slots pc lv (.int (nI i) :: .ref a :: st) ws :=
  g_iald C q0 he (vp_in_nI hi hn) d (by rw [nI_clamp (Nat.lt_trans hi hn)]; exact k)
theorem g_iast (C : CX p s m args c D E A cc nL own) (q0 : Nat) {a n : Nat} {f : Nat → Int32} (he : ws[q0]? = some (a, .inl (E 0, n, .inl f))) {i x : Int32} (hin : vp_in i n) (hw : ws.set q0 (a, .inl (E 0, n, .inl (upd f i.toNatClampNeg x))) = ws') (d : decode cc pc = .ok (.iastore, 1)) (k : GG p l e R s m args below meth c Q D A nL cells slots (pc + 1) lv st ws') : GG p l e R s m args below meth c Q D A nL cells slots pc lv (.int x :: .int i :: .ref a :: st) ws := by
  subst hw
  exact fun H locs ls hP hD hS hl => va_iast C.1 C.2.1 C.2.2.2.2.1.1 hP hD hS q0 0 he rfl hin d (fun H locs hP hD hS => k H locs ls hP hD hS hl)
theorem g_iastN (C : CX p s m args c D E A cc nL own) (q0 : Nat) {a n i : Nat} {f : Nat → Int32} (he : ws[q0]? = some (a, .inl (E 0, n, .inl f))) {x : Int32} (hi : i < n) (hn : n < 2 ^ 31) {f' : Nat → Int32} (hf : upd f i x = f') (hw : ws.set q0 (a, .inl (E 0, n, .inl f')) = ws') (d : decode cc pc = .ok (.iastore, 1)) (k : GG p l e R s m args below meth c Q D A nL cells slots (pc + 1) lv st ws') : GG p l e R s m args below meth c Q D A nL cells slots pc lv (.int x :: .int (nI i) :: .ref a :: st) ws :=
  g_iast C q0 he (vp_in_nI hi hn) (by rw [nI_clamp (Nat.lt_trans hi hn), hf]; exact hw) d k
theorem g_bald (C : CX p s m args c D E A cc nL own) (q0 : Nat) {a n : Nat} {f : Nat → Int32} (he : ws[q0]? = some (a, .inl (E 2, n, .inl f))) {i : Int32} (hin : vp_in i n) (d : decode cc pc = .ok (.baload, 1)) (k : GG p l e R s m args below meth c Q D A nL cells slots (pc + 1) lv (.int (f i.toNatClampNeg) :: st) ws) : GG p l e R s m args below meth c Q D A nL cells slots pc lv (.int i :: .ref a :: st) ws :=
  fun H locs ls hP hD hS hl => va_bald C.1 C.2.1 C.2.2.2.2.1.1 hP q0 2 he rfl hin d (k H locs ls hP hD hS hl)
theorem g_baldN (C : CX p s m args c D E A cc nL own) (q0 : Nat) {a n i : Nat} {f : Nat → Int32} (he : ws[q0]? = some (a, .inl (E 2, n, .inl f))) (hi : i < n) (hn : n < 2 ^ 31) (d : decode cc pc = .ok (.baload, 1)) (k : GG p l e R s m args below meth c Q D A nL cells slots (pc + 1) lv (.int (f i) :: st) ws) : GG p l e R s m args below meth c Q D A nL cells slots pc lv (.int (nI i) :: .ref a :: st) ws :=
  g_bald C q0 he (vp_in_nI hi hn) d (by rw [nI_clamp (Nat.lt_trans hi hn)]; exact k)
theorem g_bast (C : CX p s m args c D E A cc nL own) (q0 : Nat) {a n : Nat} {f : Nat → Int32} (he : ws[q0]? = some (a, .inl (E 2, n, .inl f))) {i x : Int32} (hin : vp_in i n) (hw : ws.set q0 (a, .inl (E 2, n, .inl (upd f i.toNatClampNeg (vp_nar .byte x)))) = ws') (d : decode cc pc = .ok (.bastore, 1)) (k : GG p l e R s m args below meth c Q D A nL cells slots (pc + 1) lv st ws') : GG p l e R s m args below meth c Q D A nL cells slots pc lv (.int x :: .int i :: .ref a :: st) ws := by
  subst hw
  exact fun H locs ls hP hD hS hl => va_bast C.1 C.2.1 C.2.2.2.2.1.1 hP hD hS q0 2 he rfl hin d (fun H locs hP hD hS => k H locs ls hP hD hS hl)
theorem g_bastN (C : CX p s m args c D E A cc nL own) (q0 : Nat) {a n i : Nat} {f : Nat → Int32} (he : ws[q0]? = some (a, .inl (E 2, n, .inl f))) {x : Int32} (hi : i < n) (hn : n < 2 ^ 31) {f' : Nat → Int32} (hf : upd f i (vp_nar .byte x) = f') (hw : ws.set q0 (a, .inl (E 2, n, .inl f')) = ws') (d : decode cc pc = .ok (.bastore, 1)) (k : GG p l e R s m args below meth c Q D A nL cells slots (pc + 1) lv st ws') : GG p l e R s m args below meth c Q D A nL cells slots pc lv (.int x :: .int (nI i) :: .ref a :: st) ws :=
  g_bast C q0 he (vp_in_nI hi hn) (by rw [nI_clamp (Nat.lt_trans hi hn), hf]; exact hw) d k
theorem g_zald (C : CX p s m args c D E A cc nL own) (q0 : Nat) {a n : Nat} {f : Nat → Int32} (he : ws[q0]? = some (a, .inl (E 3, n, .inl f))) {i : Int32} (hin : vp_in i n) (d : decode cc pc = .ok (.baload, 1)) (k : GG p l e R s m args below meth c Q D A nL cells slots (pc + 1) lv (.int (f i.toNatClampNeg) :: st) ws) : GG p l e R s m args below meth c Q D A nL cells slots pc lv (.int i :: .ref a :: st) ws :=
  fun H locs ls hP hD hS hl => va_zald C.1 C.2.1 C.2.2.2.2.1.1 hP q0 3 he rfl hin d (k H locs ls hP hD hS hl)
theorem g_zaldN (C : CX p s m args c D E A cc nL own) (q0 : Nat) {a n i : Nat} {f : Nat → Int32} (he : ws[q0]? = some (a, .inl (E 3, n, .inl f))) (hi : i < n) (hn : n < 2 ^ 31) (d : decode cc pc = .ok (.baload, 1)) (k : GG p l e R s m args below meth c Q D A nL cells slots (pc + 1) lv (.int (f i) :: st) ws) : GG p l e R s m args below meth c Q D A nL cells slots pc lv (.int (nI i) :: .ref a :: st) ws :=
  g_zald C q0 he (vp_in_nI hi hn) d (by rw [nI_clamp (Nat.lt_trans hi hn)]; exact k)
theorem g_zast (C : CX p s m args c D E A cc nL own) (q0 : Nat) {a n : Nat} {f : Nat → Int32} (he : ws[q0]? = some (a, .inl (E 3, n, .inl f))) {i x : Int32} (hin : vp_in i n) (hw : ws.set q0 (a, .inl (E 3, n, .inl (upd f i.toNatClampNeg (vp_nar .boolean x)))) = ws') (d : decode cc pc = .ok (.bastore, 1)) (k : GG p l e R s m args below meth c Q D A nL cells slots (pc + 1) lv st ws') : GG p l e R s m args below meth c Q D A nL cells slots pc lv (.int x :: .int i :: .ref a :: st) ws := by
  subst hw
  exact fun H locs ls hP hD hS hl => va_zast C.1 C.2.1 C.2.2.2.2.1.1 hP hD hS q0 3 he rfl hin d (fun H locs hP hD hS => k H locs ls hP hD hS hl)
theorem g_zastN (C : CX p s m args c D E A cc nL own) (q0 : Nat) {a n i : Nat} {f : Nat → Int32} (he : ws[q0]? = some (a, .inl (E 3, n, .inl f))) {x : Int32} (hi : i < n) (hn : n < 2 ^ 31) {f' : Nat → Int32} (hf : upd f i (vp_nar .boolean x) = f') (hw : ws.set q0 (a, .inl (E 3, n, .inl f')) = ws') (d : decode cc pc = .ok (.bastore, 1)) (k : GG p l e R s m args below meth c Q D A nL cells slots (pc + 1) lv st ws') : GG p l e R s m args below meth c Q D A nL cells slots pc lv (.int x :: .int (nI i) :: .ref a :: st) ws :=
  g_zast C q0 he (vp_in_nI hi hn) (by rw [nI_clamp (Nat.lt_trans hi hn), hf]; exact hw) d k
theorem g_alen (C : CX p s m args c D E A cc nL own) (q0 : Nat) {a n : Nat} {f : Nat → Int32} (he : ws[q0]? = some (a, .inl (E 0, n, .inl f))) (d : decode cc pc = .ok (.arraylength, 1)) (k : GG p l e R s m args below meth c Q D A nL cells slots (pc + 1) lv (.int (nI n) :: st) ws) : GG p l e R s m args below meth c Q D A nL cells slots pc lv (.ref a :: st) ws :=
  fun H locs ls hP hD hS hl => va_alen C.1 C.2.1 C.2.2.2.2.1.1 hP q0 0 he rfl rfl d (k H locs ls hP hD hS hl)
theorem g_newI (C : CX p s m args c D E A cc nL own) (harr : Cond.arrayClass .int ∈ allw) {n : Int32} {N' : Nat} (hn : ¬ n < 0) (hN : n.toNatClampNeg = N') (hby : N' * 4 ≤ 536870912) (hce : cells + 1 ≤ R.cells) (hsl : slots + N' ≤ R.slots) (d : decode cc pc = .ok (.newarray .int, 2)) (k : ∀ q : Nat, GG p l e R s m args below meth c Q D A nL (cells + 1) (slots + N') (pc + 2) lv (.ref q :: st) (ws ++ [(q, .inl (E 0, N', .inl (aN (fun _ => 0))))])) : GG p l e R s m args below meth c Q D A nL cells slots pc lv (.int n :: st) ws := by
  intro H locs ls hP hD hS hl
  refine va_newa (atype := .int) C.1 C.2.1 (C.2.2.2.2.1.2 (Cond.arrayClass .int) harr args) (ty := .int) rfl C.2.2.2.2.1.1 hP hD hS C.2.2.2.2.2 (a0 := (N', .inl (aN (fun _ => 0)))) (fun _ => rfl) hn hN hby hce hsl d (fun q cA H1 hK hP hD hS => ?_)
  have h1 := va_nm_int (hK.2 4 _ rfl).2
  have h2 := va_nm_int (C.2.2.2.2.1.1.2 0 _ rfl).2
  cases Option.some.inj (h1.symm.trans h2)
  exact k q H1 locs ls hP hD hS hl
theorem g_newJ (C : CX p s m args c D E A cc nL own) (harr : Cond.arrayClass .long ∈ allw) {n : Int32} {N' : Nat} (hn : ¬ n < 0) (hN : n.toNatClampNeg = N') (hby : N' * 8 ≤ 536870912) (hce : cells + 1 ≤ R.cells) (hsl : slots + N' ≤ R.slots) (d : decode cc pc = .ok (.newarray .long, 2)) (k : ∀ q : Nat, GG p l e R s m args below meth c Q D A nL (cells + 1) (slots + N') (pc + 2) lv (.ref q :: st) (ws ++ [(q, .inl (E 1, N', .inr (.inl (fun _ => 0))))])) : GG p l e R s m args below meth c Q D A nL cells slots pc lv (.int n :: st) ws := by
  intro H locs ls hP hD hS hl
  refine va_newa (atype := .long) C.1 C.2.1 (C.2.2.2.2.1.2 (Cond.arrayClass .long) harr args) (ty := .long) rfl C.2.2.2.2.1.1 hP hD hS C.2.2.2.2.2 (a0 := (N', .inr (.inl (fun _ => 0)))) (fun _ => rfl) hn hN hby hce hsl d (fun q cA H1 hK hP hD hS => ?_)
  have h1 := va_nm_long (hK.2 4 _ rfl).2
  have h2 := va_nm_long (C.2.2.2.2.1.1.2 1 _ rfl).2
  cases Option.some.inj (h1.symm.trans h2)
  exact k q H1 locs ls hP hD hS hl
theorem g_newY (C : CX p s m args c D E A cc nL own) (harr : Cond.arrayClass .byte ∈ allw) {n : Int32} {N' : Nat} (hn : ¬ n < 0) (hN : n.toNatClampNeg = N') (hby : N' * 1 ≤ 536870912) (hce : cells + 1 ≤ R.cells) (hsl : slots + N' ≤ R.slots) (d : decode cc pc = .ok (.newarray .byte, 2)) (k : ∀ q : Nat, GG p l e R s m args below meth c Q D A nL (cells + 1) (slots + N') (pc + 2) lv (.ref q :: st) (ws ++ [(q, .inl (E 2, N', .inl (aN (fun _ => 0))))])) : GG p l e R s m args below meth c Q D A nL cells slots pc lv (.int n :: st) ws := by
  intro H locs ls hP hD hS hl
  refine va_newa (atype := .byte) C.1 C.2.1 (C.2.2.2.2.1.2 (Cond.arrayClass .byte) harr args) (ty := .byte) rfl C.2.2.2.2.1.1 hP hD hS C.2.2.2.2.2 (a0 := (N', .inl (aN (fun _ => 0)))) (fun _ => rfl) hn hN hby hce hsl d (fun q cA H1 hK hP hD hS => ?_)
  have h1 := va_nm_byte (hK.2 4 _ rfl).2
  have h2 := va_nm_byte (C.2.2.2.2.1.1.2 2 _ rfl).2
  cases Option.some.inj (h1.symm.trans h2)
  exact k q H1 locs ls hP hD hS hl
theorem g_newZ (C : CX p s m args c D E A cc nL own) (harr : Cond.arrayClass .boolean ∈ allw) {n : Int32} {N' : Nat} (hn : ¬ n < 0) (hN : n.toNatClampNeg = N') (hby : N' * 1 ≤ 536870912) (hce : cells + 1 ≤ R.cells) (hsl : slots + N' ≤ R.slots) (d : decode cc pc = .ok (.newarray .boolean, 2)) (k : ∀ q : Nat, GG p l e R s m args below meth c Q D A nL (cells + 1) (slots + N') (pc + 2) lv (.ref q :: st) (ws ++ [(q, .inl (E 3, N', .inl (aB (fun _ => false))))])) : GG p l e R s m args below meth c Q D A nL cells slots pc lv (.int n :: st) ws := by
  intro H locs ls hP hD hS hl
  refine va_newa (atype := .boolean) C.1 C.2.1 (C.2.2.2.2.1.2 (Cond.arrayClass .boolean) harr args) (ty := .boolean) rfl C.2.2.2.2.1.1 hP hD hS C.2.2.2.2.2 (a0 := (N', .inl (aB (fun _ => false)))) (fun _ => rfl) hn hN hby hce hsl d (fun q cA H1 hK hP hD hS => ?_)
  have h1 := va_nm_boolean (hK.2 4 _ rfl).2
  have h2 := va_nm_boolean (C.2.2.2.2.1.1.2 3 _ rfl).2
  cases Option.some.inj (h1.symm.trans h2)
  exact k q H1 locs ls hP hD hS hl
theorem g_new (C : CX p s m args c D E A cc nL own) {Cn : String} {T : u_T} {N ci index : Nat} (hlay : ∀ w ∈ u_ws Cn T N, w ∈ allw) {ty : Nat → FieldType} (hty : ∀ k, k < N → parseFieldDescriptor (T k).2.2.1 = some (ty k)) (hcl : Cond.classLink own index Cn ∈ allw) (hinst : Cond.instantiable Cn N ∈ allw) (hini : Cond.initialized Cn ∈ allw) (hc : vwCl[ci]? = some (Cn, T, N)) {fs : List Value} (hfs : ∀ j, j < N → defaultValue (ty j) = vp_V fs j) (hce : cells + 1 ≤ R.cells) (hsl : slots + N ≤ R.slots) (d : decode cc pc = .ok (.new index, 3)) (k : ∀ q : Nat, GG p l e R s m args below meth c Q D A nL (cells + 1) (slots + N) (pc + 3) lv (.ref q :: st) (ws ++ [(q, .inr (ci, fs))])) : GG p l e R s m args below meth c Q D A nL cells slots pc lv st ws :=
  fun H locs ls hP hD hS hl => va_new C.1 C.2.1 (Ts := allw) (fun w hw => C.2.2.2.2.1.2 w hw args) hlay ty hty C.2.2.2.1 (C.2.2.2.2.1.2 _ hcl args) (C.2.2.2.2.1.2 _ hinst args) (C.2.2.2.2.1.2 _ hini args) C.2.2.2.2.1.1 hP hD hS C.2.2.2.2.2 hc hfs hce hsl d (fun q H hP hD hS => k q H locs ls hP hD hS hl)
end Rows
end
section
/-! Contracts over cells as lists; entries, ends, calls. Written by gen_calls.py. -/
abbrev PC (D : va_G) (E : Nat → ClassId) (av : List Value) (wi : va_W) (sz : Nat) : Array Value → State → Prop := va_Pc av (fun U => U.heap.size = sz ∧ va_P D vwCl wi U.heap ∧ KK D E U ∧ va_D (fun _ => True) wi)
abbrev BC (D : va_G) (A : Nat → Prop) {S : Type} (wo : S → va_W) : S → State → Prop := fun u t => va_P D vwCl (wo u) t.heap ∧ va_D A (wo u)
/-- a method with an answer of one word: from the arguments av and the cells wi it answers r and leaves the cells wo u, with post r u -/
def MI (l : Launch) (D : va_G) (E : Nat → ClassId) (y : MethodName) (cw : Cond) (rm : Room) (av : List Value) (wi : va_W) {S : Type} (post : Int32 → S → Prop) (wo : S → va_W) : Prop :=
  ∀ sz : Nat, Met l y [cw] rm (PC D E av wi sz) (va_Qi post (BC D (va_A wi sz) wo) (va_A wi sz)) rm.cells rm.slots (va_A wi sz)
def MV (l : Launch) (D : va_G) (E : Nat → ClassId) (y : MethodName) (cw : Cond) (rm : Room) (av : List Value) (wi : va_W) {S : Type} (post : S → Prop) (wo : S → va_W) : Prop :=
  ∀ sz : Nat, Met l y [cw] rm (PC D E av wi sz) (va_Qv post (BC D (va_A wi sz) wo) (va_A wi sz)) rm.cells rm.slots (va_A wi sz)
theorem pc_blind {D : va_G} {E : Nat → ClassId} {av : List Value} {wi : va_W} {sz : Nat} : FrameBlind (PC D E av wi sz) :=
  fun _ U _ _ q => ⟨q.1, q.2.1, q.2.2.1, KK.warm (State.WarmedH.refl U) q.2.2.2.1, q.2.2.2.2⟩
/-- a method that can be called: its words -/
def RD (y : MethodName) (bytes : ByteArray) (maxL : Nat) (ret : Option FieldType) (n : Nat) : Prop :=
  Cond.code y bytes maxL ret ∈ allw ∧ Cond.initialized y.cls ∈ allw ∧ (y.cls ≠ "java/lang/invoke/MethodHandle" ∧ y.cls ≠ "java/lang/invoke/VarHandle") ∧ (parseMethodDescriptor y.desc).map (fun d => d.parameters.length) = some n
theorem MI.of {l : Launch} {D : va_G} {E : Nat → ClassId} {y : MethodName} {cc : ByteArray} {nL : Nat} {rt : Option FieldType} {rm : Room} {av : List Value} {wi : va_W} {S : Type} {post : Int32 → S → Prop} {wo : S → va_W} (hy : plainName y.cls = true) (hlen : (lg_sl av).length ≤ nL)
    (body : ∀ (p : Program) (e : Env) (s : State) (m : MethodId) (args : Array Value) (below : List Frame) (meth : Method) (c : Code) (A : Nat → Prop), CX p s m args c D E A cc nL y.cls → meth.sig.returnType = rt → meth.locks = false → meth.name = y.name →
      GG p l e rm s m args below meth c (MQ below (va_Qi post (BC D A wo) A) args s rm.cells rm.slots A) D A nL 0 0 0 (lv_args 0 av) [] wi) : MI l D E y (.code y cc nL rt) rm av wi post wo := by
  intro sz
  refine Met.ofW (cc := cc) (maxL := nL) (ret := rt) hy rfl ?_
  intro p e s m args below meth c s₁ B hml hv
  obtain ⟨rfl, hsz, hP, hK, hD0⟩ := hv
  subst hsz
  have hD := hD0.self (sz := s.heap.size)
  generalize hAe : va_A wi s.heap.size = A at hD ⊢
  have hA : ∀ q : Nat, s.heap.size ≤ q → A q := fun q h => by rw [← hAe]; exact Or.inr h
  have hl := lv_entry av (n := nL) hlen
  rw [lg_entry_eq]
  exact body p e s m _ below meth c A ⟨B.exec, B.bytes, hml, findClass_of_methodNamed B.named, hK, hA⟩ B.returns B.notSynchronized (name_of_methodNamed B.named B.method).1 s.heap [] _ hP hD va_S.rf hl
theorem MV.of {l : Launch} {D : va_G} {E : Nat → ClassId} {y : MethodName} {cc : ByteArray} {nL : Nat} {rt : Option FieldType} {rm : Room} {av : List Value} {wi : va_W} {S : Type} {post : S → Prop} {wo : S → va_W} (hy : plainName y.cls = true) (hlen : (lg_sl av).length ≤ nL)
    (body : ∀ (p : Program) (e : Env) (s : State) (m : MethodId) (args : Array Value) (below : List Frame) (meth : Method) (c : Code) (A : Nat → Prop), CX p s m args c D E A cc nL y.cls → meth.sig.returnType = rt → meth.locks = false → meth.name = y.name →
      GG p l e rm s m args below meth c (MQ below (va_Qv post (BC D A wo) A) args s rm.cells rm.slots A) D A nL 0 0 0 (lv_args 0 av) [] wi) : MV l D E y (.code y cc nL rt) rm av wi post wo := by
  intro sz
  refine Met.ofW (cc := cc) (maxL := nL) (ret := rt) hy rfl ?_
  intro p e s m args below meth c s₁ B hml hv
  obtain ⟨rfl, hsz, hP, hK, hD0⟩ := hv
  subst hsz
  have hD := hD0.self (sz := s.heap.size)
  generalize hAe : va_A wi s.heap.size = A at hD ⊢
  have hA : ∀ q : Nat, s.heap.size ≤ q → A q := fun q h => by rw [← hAe]; exact Or.inr h
  have hl := lv_entry av (n := nL) hlen
  rw [lg_entry_eq]
  exact body p e s m _ below meth c A ⟨B.exec, B.bytes, hml, findClass_of_methodNamed B.named, hK, hA⟩ B.returns B.notSynchronized (name_of_methodNamed B.named B.method).1 s.heap [] _ hP hD va_S.rf hl
section Ends
variable {p : Program} {l : Launch} {e : Env} {R : Room} {s : State} {m : MethodId} {args : Array Value} {below : List Frame} {meth : Method} {c : Code} {Q : State → Prop} {D : va_G} {E : Nat → ClassId} {A : Nat → Prop} {cc : ByteArray} {own : String} {nL cells slots pc : Nat} {lv lv' : List (Nat × Value)} {st : List Value} {ws ws' : va_W}
theorem g_iret (C : CX p s m args c D E A cc nL own) (hr : meth.sig.returnType = some .int) (hlk : meth.locks = false) {S : Type} {post : Int32 → S → Prop} {wo : S → va_W} {v : Int32} (u : S) (hp : post v u) (hw : wo u = ws) (d : decode cc pc = .ok (.ireturn, 1)) : GG p l e R s m args below meth c (MQ below (va_Qi post (BC D A wo) A) args s cells slots A) D A nL cells slots pc lv [.int v] ws := by
  subst hw
  exact fun H locs ls hP hD hS hl => W.iret C.1 C.2.1 hr (fun t ht hW => ⟨⟨v, u, rfl, hp, by rw [ht]; exact hP, hD⟩, hS.F ht⟩) hS.2.2 d hlk
theorem g_zret (C : CX p s m args c D E A cc nL own) (hr : meth.sig.returnType = some .boolean) (hlk : meth.locks = false) {S : Type} {post : Int32 → S → Prop} {wo : S → va_W} {b : Bool} (u : S) (hp : post (bI b) u) (hw : wo u = ws) (d : decode cc pc = .ok (.ireturn, 1)) : GG p l e R s m args below meth c (MQ below (va_Qi post (BC D A wo) A) args s cells slots A) D A nL cells slots pc lv [.int (bI b)] ws := by
  subst hw
  exact fun H locs ls hP hD hS hl => W.zret C.1 C.2.1 hr (bI_nar b) (fun t ht hW => ⟨⟨bI b, u, rfl, hp, by rw [ht]; exact hP, hD⟩, hS.F ht⟩) hS.2.2 d hlk
theorem g_vret (C : CX p s m args c D E A cc nL own) (hr : meth.sig.returnType = none) (hlk : meth.locks = false) {S : Type} {post : S → Prop} {wo : S → va_W} (u : S) (hp : post u) (hw : wo u = ws) (d : decode cc pc = .ok (.return_, 1)) : GG p l e R s m args below meth c (MQ below (va_Qv post (BC D A wo) A) args s cells slots A) D A nL cells slots pc lv [] ws := by
  subst hw
  exact fun H locs ls hP hD hS hl => W.vret C.1 C.2.1 hr (fun t ht hW => ⟨⟨u, rfl, hp, by rw [ht]; exact hP, hD⟩, hS.F ht⟩) hS.2.2 d hlk
theorem g_objInit (C : CX p s m args c D E A cc nL own) {idx b : Nat} (hl1 : Cond.methodLink own idx objectInit ∈ allw) (hl2 : Cond.instanceMethod objectInit ∈ allw) (hl3 : Cond.code objectInit ⟨#[0xb1]⟩ 1 none ∈ allw) (d : decode cc pc = .ok (.invokespecial idx, 3)) (hf : 1 ≤ R.frames) (hlo : (st.map fun v => v.category).sum + 12 ≤ R.locals) (k : GG p l e R s m args below meth c Q D A nL cells slots (pc + 3) lv st ws) : GG p l e R s m args below meth c Q D A nL cells slots pc lv (.ref b :: st) ws := by
  intro H locs ls hP hD hS hl
  exact W.objInit C.1 C.2.1 C.2.2.2.1 (C.2.2.2.2.1.2 _ hl1 args) (C.2.2.2.2.1.2 _ hl2 args) (C.2.2.2.2.1.2 _ hl3 args) rfl (by rw [C.2.2.1]; exact hl.1) rfl d hf (by show 2 * 0 + _ + 12 ≤ _; omega) (k H locs ls hP hD hS hl)
end Ends
section Calls
variable {p : Program} {l : Launch} {e : Env} {R : Room} {s : State} {m : MethodId} {args : Array Value} {below : List Frame} {meth : Method} {c : Code} {Q : State → Prop} {D : va_G} {E : Nat → ClassId} {A : Nat → Prop} {cc : ByteArray} {own : String} {nL cells slots pc : Nat} {lv lv' : List (Nat × Value)} {st0 rest As : List Value} {ws ws' wi wr : va_W}
variable {S : Type} {wo : S → va_W} {rm : Room} {y : MethodName} {bytes : ByteArray} {maxL n index mc ms : Nat} {ret : Option FieldType} {Qc : Array Value → State → Outcome → State → Prop} {free : Addr → Prop} {b : Nat}
theorem g_ci {post : Int32 → S → Prop} (C : CX p s m args c D E A cc nL own) (isC isR : List Nat) (hC : isC.map (fun i => ws[i]?) = wi.map some) (hnC : va_nd isC = true) (hR : isR.map (fun i => ws[i]?) = wr.map some) (hnR : va_nd isR = true) (hdis : ∀ i ∈ isR, i ∉ isC)
    (hrun : ∀ (H : Heap) (locs : List Loc) (ls : Array Slot), va_P D vwCl wi H → va_D (fun _ => True) wi → lv_has ls nL lv → ∃ a : Array Value, va_Run p l e R s m args below meth c H locs cells slots mc ms (F0 m pc ls st0) rest (va_Qi post (BC D (va_A wi H.size) wo) (va_A wi H.size) a) (va_A wi H.size))
    (k : ∀ (r : Int32) (u : S), post r u → GG p l e R s m args below meth c Q D A nL (cells + mc) (slots + ms) (pc + 3) lv (.int r :: rest) (wr ++ wo u)) : GG p l e R s m args below meth c Q D A nL cells slots pc lv st0 ws := by
  intro H locs ls hP hD hS hl
  have hPc : va_P D vwCl wi H := hP.subm isC hC
  have hDc : va_D A wi := hD.sub isC hnC hC
  have hFc := va_free (wc := wi) hD hS C.2.2.2.2.2 isC hC
  obtain ⟨a, hr⟩ := hrun H locs ls hPc (hDc.weaken (fun _ _ _ _ => trivial)) hl
  refine va_calli hr hS (fun q _ h => hFc q h) hFc (fun r u t H1 locs ht hvm hw hB hz1 hk1 hS => ?_)
  obtain ⟨hP1, hD1⟩ := hB
  rw [ht] at hP1
  obtain ⟨hP, hD⟩ := va_join hP hD isC isR hC hR hnR hdis hk1 hFc hP1 hD1
  exact k r u hw H1 locs ls hP hD hS hl
theorem g_cv {post : S → Prop} (C : CX p s m args c D E A cc nL own) (isC isR : List Nat) (hC : isC.map (fun i => ws[i]?) = wi.map some) (hnC : va_nd isC = true) (hR : isR.map (fun i => ws[i]?) = wr.map some) (hnR : va_nd isR = true) (hdis : ∀ i ∈ isR, i ∉ isC)
    (hrun : ∀ (H : Heap) (locs : List Loc) (ls : Array Slot), va_P D vwCl wi H → va_D (fun _ => True) wi → lv_has ls nL lv → ∃ a : Array Value, va_Run p l e R s m args below meth c H locs cells slots mc ms (F0 m pc ls st0) rest (va_Qv post (BC D (va_A wi H.size) wo) (va_A wi H.size) a) (va_A wi H.size))
    (k : ∀ (u : S), post u → GG p l e R s m args below meth c Q D A nL (cells + mc) (slots + ms) (pc + 3) lv rest (wr ++ wo u)) : GG p l e R s m args below meth c Q D A nL cells slots pc lv st0 ws := by
  intro H locs ls hP hD hS hl
  have hPc : va_P D vwCl wi H := hP.subm isC hC
  have hDc : va_D A wi := hD.sub isC hnC hC
  have hFc := va_free (wc := wi) hD hS C.2.2.2.2.2 isC hC
  obtain ⟨a, hr⟩ := hrun H locs ls hPc (hDc.weaken (fun _ _ _ _ => trivial)) hl
  refine va_callv hr hS (fun q _ h => hFc q h) hFc (fun u t H1 locs ht hvm hw hB hz1 hk1 hS => ?_)
  obtain ⟨hP1, hD1⟩ := hB
  rw [ht] at hP1
  obtain ⟨hP, hD⟩ := va_join hP hD isC isR hC hR hnR hdis hk1 hFc hP1 hD1
  exact k u hw H1 locs ls hP hD hS hl
theorem run_V (C : CX p s m args c D E A cc nL own) (hrd : RD y bytes maxL ret n) {ci N : Nat} {Cn : String} {T : u_T} {fs : List Value} (hlink : Cond.methodLink own index y ∈ allw) (hin : Cond.instanceMethod y ∈ allw) (hsel : Cond.selects Cn y y ∈ allw) (he : wi[0]? = some (b, .inr (ci, fs))) (hc : vwCl[ci]? = some (Cn, T, N)) (hfr : rm.frames + 1 ≤ R.frames) (hlo : 8 + (maxL + 11) + rm.locals ≤ R.locals) (hce : cells + rm.cells ≤ R.cells) (hsl : slots + rm.slots ≤ R.slots) (hn : As.length = n) (hrm : (rest.map fun v => v.category).sum ≤ 8) (d : decode cc pc = .ok (.invokevirtual index, 3)) {H : Heap} {locs : List Loc} {ls : Array Slot} (hM : Met l y [Cond.code y bytes maxL ret] rm (PC D E (.ref b :: As) wi H.size) Qc rm.cells rm.slots free) (hP : va_P D vwCl wi H) (hD : va_D (fun _ => True) wi) (hl : lv_has ls nL lv) :
    va_Run p l e R s m args below meth c H locs cells slots rm.cells rm.slots (F0 m pc ls (As.reverse ++ .ref b :: rest)) rest (Qc (.ref b :: As).toArray) free :=
  va_runV (Ts := []) ⟨C.1, C.2.1, C.2.2.1, C.2.2.2.1, fun _ h => nomatch h⟩ hM ⟨⟨rfl, rfl, hfr, hlo, fun w hw a' U hW => by cases List.mem_singleton.mp hw; exact (KK.warm hW C.2.2.2.2.1).2 _ hrd.1 a', List.mem_singleton.mpr rfl, C.2.2.2.2.1.2 _ hrd.1 args, C.2.2.2.2.1.2 _ hrd.2.1 args, hrd.2.2.1, fun sig h => by have h2 := hrd.2.2.2; rw [h] at h2; exact (Option.some.inj h2).symm, C.2.2.2.2.1.2 _ hlink args⟩, C.2.2.2.2.1.2 _ hin args, C.2.2.2.2.1.2 _ hsel args⟩ ⟨pc_blind, va_recv C.2.2.2.2.1.1 hP hc he, fun U hU hW => ⟨rfl, by rw [hU], by rw [hU]; exact hP, KK.warm hW C.2.2.2.2.1, hD⟩⟩ rfl hn hl.1 rfl (lv_room hrm) d ⟨hce, hsl⟩
theorem g_iV (C : CX p s m args c D E A cc nL own) {post : Int32 → S → Prop} (hM : MI l D E y (.code y bytes maxL ret) rm (.ref b :: As) wi post wo) (hrd : RD y bytes maxL ret n) {ci N : Nat} {Cn : String} {T : u_T} {fs : List Value} (hlink : Cond.methodLink own index y ∈ allw) (hin : Cond.instanceMethod y ∈ allw) (hsel : Cond.selects Cn y y ∈ allw) (he : wi[0]? = some (b, .inr (ci, fs))) (hc : vwCl[ci]? = some (Cn, T, N)) (hfr : rm.frames + 1 ≤ R.frames) (hlo : 8 + (maxL + 11) + rm.locals ≤ R.locals) (hce : cells + rm.cells ≤ R.cells) (hsl : slots + rm.slots ≤ R.slots) (hn : As.length = n) (hst0 : st0 = (As.reverse ++ .ref b :: rest)) (hrm : (rest.map fun v => v.category).sum ≤ 8) (d : decode cc pc = .ok (.invokevirtual index, 3)) (isC isR : List Nat) (hC : isC.map (fun i => ws[i]?) = wi.map some) (hnC : va_nd isC = true) (hR : isR.map (fun i => ws[i]?) = wr.map some) (hnR : va_nd isR = true) (hdis : ∀ i ∈ isR, i ∉ isC)
    (k : ∀ (r : Int32) (u : S), post r u → GG p l e R s m args below meth c Q D A nL (cells + rm.cells) (slots + rm.slots) (pc + 3) lv (.int r :: rest) (wr ++ wo u)) : GG p l e R s m args below meth c Q D A nL cells slots pc lv st0 ws := by
  subst hst0
  exact g_ci C isC isR hC hnC hR hnR hdis (fun H locs ls hP hD hl => ⟨_, run_V C hrd hlink hin hsel he hc hfr hlo hce hsl hn hrm d (hM H.size) hP hD hl⟩) k
theorem g_vV (C : CX p s m args c D E A cc nL own) {post : S → Prop} (hM : MV l D E y (.code y bytes maxL ret) rm (.ref b :: As) wi post wo) (hrd : RD y bytes maxL ret n) {ci N : Nat} {Cn : String} {T : u_T} {fs : List Value} (hlink : Cond.methodLink own index y ∈ allw) (hin : Cond.instanceMethod y ∈ allw) (hsel : Cond.selects Cn y y ∈ allw) (he : wi[0]? = some (b, .inr (ci, fs))) (hc : vwCl[ci]? = some (Cn, T, N)) (hfr : rm.frames + 1 ≤ R.frames) (hlo : 8 + (maxL + 11) + rm.locals ≤ R.locals) (hce : cells + rm.cells ≤ R.cells) (hsl : slots + rm.slots ≤ R.slots) (hn : As.length = n) (hst0 : st0 = (As.reverse ++ .ref b :: rest)) (hrm : (rest.map fun v => v.category).sum ≤ 8) (d : decode cc pc = .ok (.invokevirtual index, 3)) (isC isR : List Nat) (hC : isC.map (fun i => ws[i]?) = wi.map some) (hnC : va_nd isC = true) (hR : isR.map (fun i => ws[i]?) = wr.map some) (hnR : va_nd isR = true) (hdis : ∀ i ∈ isR, i ∉ isC)
    (k : ∀ (u : S), post u → GG p l e R s m args below meth c Q D A nL (cells + rm.cells) (slots + rm.slots) (pc + 3) lv rest (wr ++ wo u)) : GG p l e R s m args below meth c Q D A nL cells slots pc lv st0 ws := by
  subst hst0
  exact g_cv C isC isR hC hnC hR hnR hdis (fun H locs ls hP hD hl => ⟨_, run_V C hrd hlink hin hsel he hc hfr hlo hce hsl hn hrm d (hM H.size) hP hD hl⟩) k
theorem run_I (C : CX p s m args c D E A cc nL own) (hrd : RD y bytes maxL none n) (hlink : Cond.methodLink own index y ∈ allw) (hin : Cond.instanceMethod y ∈ allw) (hnm : y.name = "<init>") (hfr : rm.frames + 1 ≤ R.frames) (hlo : 8 + (maxL + 11) + rm.locals ≤ R.locals) (hce : cells + rm.cells ≤ R.cells) (hsl : slots + rm.slots ≤ R.slots) (hn : As.length = n) (hrm : (rest.map fun v => v.category).sum ≤ 8) (d : decode cc pc = .ok (.invokespecial index, 3)) {H : Heap} {locs : List Loc} {ls : Array Slot} (hM : Met l y [Cond.code y bytes maxL none] rm (PC D E (.ref b :: As) wi H.size) Qc rm.cells rm.slots free) (hP : va_P D vwCl wi H) (hD : va_D (fun _ => True) wi) (hl : lv_has ls nL lv) :
    va_Run p l e R s m args below meth c H locs cells slots rm.cells rm.slots (F0 m pc ls (As.reverse ++ .ref b :: rest)) rest (Qc (.ref b :: As).toArray) free :=
  va_runI (Ts := []) ⟨C.1, C.2.1, C.2.2.1, C.2.2.2.1, fun _ h => nomatch h⟩ hM ⟨⟨rfl, rfl, hfr, hlo, fun w hw a' U hW => by cases List.mem_singleton.mp hw; exact (KK.warm hW C.2.2.2.2.1).2 _ hrd.1 a', List.mem_singleton.mpr rfl, C.2.2.2.2.1.2 _ hrd.1 args, C.2.2.2.2.1.2 _ hrd.2.1 args, hrd.2.2.1, fun sig h => by have h2 := hrd.2.2.2; rw [h] at h2; exact (Option.some.inj h2).symm, C.2.2.2.2.1.2 _ hlink args⟩, hnm, C.2.2.2.2.1.2 _ hin args⟩ ⟨pc_blind, fun U hU hW => ⟨rfl, by rw [hU], by rw [hU]; exact hP, KK.warm hW C.2.2.2.2.1, hD⟩⟩ rfl hn hl.1 rfl (lv_room hrm) d ⟨hce, hsl⟩
theorem g_vI (C : CX p s m args c D E A cc nL own) {post : S → Prop} (hM : MV l D E y (.code y bytes maxL none) rm (.ref b :: As) wi post wo) (hrd : RD y bytes maxL none n) (hlink : Cond.methodLink own index y ∈ allw) (hin : Cond.instanceMethod y ∈ allw) (hnm : y.name = "<init>") (hfr : rm.frames + 1 ≤ R.frames) (hlo : 8 + (maxL + 11) + rm.locals ≤ R.locals) (hce : cells + rm.cells ≤ R.cells) (hsl : slots + rm.slots ≤ R.slots) (hn : As.length = n) (hst0 : st0 = (As.reverse ++ .ref b :: rest)) (hrm : (rest.map fun v => v.category).sum ≤ 8) (d : decode cc pc = .ok (.invokespecial index, 3)) (isC isR : List Nat) (hC : isC.map (fun i => ws[i]?) = wi.map some) (hnC : va_nd isC = true) (hR : isR.map (fun i => ws[i]?) = wr.map some) (hnR : va_nd isR = true) (hdis : ∀ i ∈ isR, i ∉ isC)
    (k : ∀ (u : S), post u → GG p l e R s m args below meth c Q D A nL (cells + rm.cells) (slots + rm.slots) (pc + 3) lv rest (wr ++ wo u)) : GG p l e R s m args below meth c Q D A nL cells slots pc lv st0 ws := by
  subst hst0
  exact g_cv C isC isR hC hnC hR hnR hdis (fun H locs ls hP hD hl => ⟨_, run_I C hrd hlink hin hnm hfr hlo hce hsl hn hrm d (hM H.size) hP hD hl⟩) k
theorem run_S (C : CX p s m args c D E A cc nL own) (hrd : RD y bytes maxL ret n) (hlink : Cond.methodLink own index y ∈ allw) (hst : Cond.static y ∈ allw) (hfr : rm.frames + 1 ≤ R.frames) (hlo : 8 + (maxL + 11) + rm.locals ≤ R.locals) (hce : cells + rm.cells ≤ R.cells) (hsl : slots + rm.slots ≤ R.slots) (hn : As.length = n) (hrm : (rest.map fun v => v.category).sum ≤ 8) (d : decode cc pc = .ok (.invokestatic index, 3)) {H : Heap} {locs : List Loc} {ls : Array Slot} (hM : Met l y [Cond.code y bytes maxL ret] rm (PC D E As wi H.size) Qc rm.cells rm.slots free) (hP : va_P D vwCl wi H) (hD : va_D (fun _ => True) wi) (hl : lv_has ls nL lv) :
    va_Run p l e R s m args below meth c H locs cells slots rm.cells rm.slots (F0 m pc ls (As.reverse ++ rest)) rest (Qc As.toArray) free :=
  va_runS (Ts := []) ⟨C.1, C.2.1, C.2.2.1, C.2.2.2.1, fun _ h => nomatch h⟩ hM ⟨⟨rfl, rfl, hfr, hlo, fun w hw a' U hW => by cases List.mem_singleton.mp hw; exact (KK.warm hW C.2.2.2.2.1).2 _ hrd.1 a', List.mem_singleton.mpr rfl, C.2.2.2.2.1.2 _ hrd.1 args, C.2.2.2.2.1.2 _ hrd.2.1 args, hrd.2.2.1, fun sig h => by have h2 := hrd.2.2.2; rw [h] at h2; exact (Option.some.inj h2).symm, C.2.2.2.2.1.2 _ hlink args⟩, C.2.2.2.2.1.2 _ hst args⟩ ⟨pc_blind, fun U hU hW => ⟨rfl, by rw [hU], by rw [hU]; exact hP, KK.warm hW C.2.2.2.2.1, hD⟩⟩ rfl hn hl.1 rfl (lv_room hrm) d ⟨hce, hsl⟩
theorem g_iS (C : CX p s m args c D E A cc nL own) {post : Int32 → S → Prop} (hM : MI l D E y (.code y bytes maxL ret) rm As wi post wo) (hrd : RD y bytes maxL ret n) (hlink : Cond.methodLink own index y ∈ allw) (hst : Cond.static y ∈ allw) (hfr : rm.frames + 1 ≤ R.frames) (hlo : 8 + (maxL + 11) + rm.locals ≤ R.locals) (hce : cells + rm.cells ≤ R.cells) (hsl : slots + rm.slots ≤ R.slots) (hn : As.length = n) (hst0 : st0 = (As.reverse ++ rest)) (hrm : (rest.map fun v => v.category).sum ≤ 8) (d : decode cc pc = .ok (.invokestatic index, 3)) (isC isR : List Nat) (hC : isC.map (fun i => ws[i]?) = wi.map some) (hnC : va_nd isC = true) (hR : isR.map (fun i => ws[i]?) = wr.map some) (hnR : va_nd isR = true) (hdis : ∀ i ∈ isR, i ∉ isC)
    (k : ∀ (r : Int32) (u : S), post r u → GG p l e R s m args below meth c Q D A nL (cells + rm.cells) (slots + rm.slots) (pc + 3) lv (.int r :: rest) (wr ++ wo u)) : GG p l e R s m args below meth c Q D A nL cells slots pc lv st0 ws := by
  subst hst0
  exact g_ci C isC isR hC hnC hR hnR hdis (fun H locs ls hP hD hl => ⟨_, run_S C hrd hlink hst hfr hlo hce hsl hn hrm d (hM H.size) hP hD hl⟩) k
theorem g_vS (C : CX p s m args c D E A cc nL own) {post : S → Prop} (hM : MV l D E y (.code y bytes maxL ret) rm As wi post wo) (hrd : RD y bytes maxL ret n) (hlink : Cond.methodLink own index y ∈ allw) (hst : Cond.static y ∈ allw) (hfr : rm.frames + 1 ≤ R.frames) (hlo : 8 + (maxL + 11) + rm.locals ≤ R.locals) (hce : cells + rm.cells ≤ R.cells) (hsl : slots + rm.slots ≤ R.slots) (hn : As.length = n) (hst0 : st0 = (As.reverse ++ rest)) (hrm : (rest.map fun v => v.category).sum ≤ 8) (d : decode cc pc = .ok (.invokestatic index, 3)) (isC isR : List Nat) (hC : isC.map (fun i => ws[i]?) = wi.map some) (hnC : va_nd isC = true) (hR : isR.map (fun i => ws[i]?) = wr.map some) (hnR : va_nd isR = true) (hdis : ∀ i ∈ isR, i ∉ isC)
    (k : ∀ (u : S), post u → GG p l e R s m args below meth c Q D A nL (cells + rm.cells) (slots + rm.slots) (pc + 3) lv rest (wr ++ wo u)) : GG p l e R s m args below meth c Q D A nL cells slots pc lv st0 ws := by
  subst hst0
  exact g_cv C isC isR hC hnC hR hnR hdis (fun H locs ls hP hD hl => ⟨_, run_S C hrd hlink hst hfr hlo hce hsl hn hrm d (hM H.size) hP hD hl⟩) k
theorem run_SN (C : CX p s m args c D E A cc nL own) (hrd : RD y bytes maxL ret n) {host : String} (hlink : Cond.methodLinkNest own index y host ∈ allw) (hst : Cond.static y ∈ allw) (hfr : rm.frames + 1 ≤ R.frames) (hlo : 8 + (maxL + 11) + rm.locals ≤ R.locals) (hce : cells + rm.cells ≤ R.cells) (hsl : slots + rm.slots ≤ R.slots) (hn : As.length = n) (hrm : (rest.map fun v => v.category).sum ≤ 8) (d : decode cc pc = .ok (.invokestatic index, 3)) {H : Heap} {locs : List Loc} {ls : Array Slot} (hM : Met l y [Cond.code y bytes maxL ret] rm (PC D E As wi H.size) Qc rm.cells rm.slots free) (hP : va_P D vwCl wi H) (hD : va_D (fun _ => True) wi) (hl : lv_has ls nL lv) :
    va_Run p l e R s m args below meth c H locs cells slots rm.cells rm.slots (F0 m pc ls (As.reverse ++ rest)) rest (Qc As.toArray) free :=
  va_runSN (Ts := []) ⟨C.1, C.2.1, C.2.2.1, C.2.2.2.1, fun _ h => nomatch h⟩ hM ⟨⟨⟨rfl, rfl, hfr, hlo, fun w hw a' U hW => by cases List.mem_singleton.mp hw; exact (KK.warm hW C.2.2.2.2.1).2 _ hrd.1 a', List.mem_singleton.mpr rfl⟩, C.2.2.2.2.1.2 _ hrd.1 args, C.2.2.2.2.1.2 _ hrd.2.1 args, hrd.2.2.1, fun sig h => by have h2 := hrd.2.2.2; rw [h] at h2; exact (Option.some.inj h2).symm, C.2.2.2.2.1.2 _ hlink args⟩, C.2.2.2.2.1.2 _ hst args, trivial⟩ ⟨pc_blind, fun U hU hW => ⟨rfl, by rw [hU], by rw [hU]; exact hP, KK.warm hW C.2.2.2.2.1, hD⟩⟩ rfl hn hl.1 rfl (lv_room hrm) d ⟨hce, hsl⟩
theorem g_iSN (C : CX p s m args c D E A cc nL own) {post : Int32 → S → Prop} (hM : MI l D E y (.code y bytes maxL ret) rm As wi post wo) (hrd : RD y bytes maxL ret n) {host : String} (hlink : Cond.methodLinkNest own index y host ∈ allw) (hst : Cond.static y ∈ allw) (hfr : rm.frames + 1 ≤ R.frames) (hlo : 8 + (maxL + 11) + rm.locals ≤ R.locals) (hce : cells + rm.cells ≤ R.cells) (hsl : slots + rm.slots ≤ R.slots) (hn : As.length = n) (hst0 : st0 = (As.reverse ++ rest)) (hrm : (rest.map fun v => v.category).sum ≤ 8) (d : decode cc pc = .ok (.invokestatic index, 3)) (isC isR : List Nat) (hC : isC.map (fun i => ws[i]?) = wi.map some) (hnC : va_nd isC = true) (hR : isR.map (fun i => ws[i]?) = wr.map some) (hnR : va_nd isR = true) (hdis : ∀ i ∈ isR, i ∉ isC)
    (k : ∀ (r : Int32) (u : S), post r u → GG p l e R s m args below meth c Q D A nL (cells + rm.cells) (slots + rm.slots) (pc + 3) lv (.int r :: rest) (wr ++ wo u)) : GG p l e R s m args below meth c Q D A nL cells slots pc lv st0 ws := by
  subst hst0
  exact g_ci C isC isR hC hnC hR hnR hdis (fun H locs ls hP hD hl => ⟨_, run_SN C hrd hlink hst hfr hlo hce hsl hn hrm d (hM H.size) hP hD hl⟩) k
theorem g_vSN (C : CX p s m args c D E A cc nL own) {post : S → Prop} (hM : MV l D E y (.code y bytes maxL ret) rm As wi post wo) (hrd : RD y bytes maxL ret n) {host : String} (hlink : Cond.methodLinkNest own index y host ∈ allw) (hst : Cond.static y ∈ allw) (hfr : rm.frames + 1 ≤ R.frames) (hlo : 8 + (maxL + 11) + rm.locals ≤ R.locals) (hce : cells + rm.cells ≤ R.cells) (hsl : slots + rm.slots ≤ R.slots) (hn : As.length = n) (hst0 : st0 = (As.reverse ++ rest)) (hrm : (rest.map fun v => v.category).sum ≤ 8) (d : decode cc pc = .ok (.invokestatic index, 3)) (isC isR : List Nat) (hC : isC.map (fun i => ws[i]?) = wi.map some) (hnC : va_nd isC = true) (hR : isR.map (fun i => ws[i]?) = wr.map some) (hnR : va_nd isR = true) (hdis : ∀ i ∈ isR, i ∉ isC)
    (k : ∀ (u : S), post u → GG p l e R s m args below meth c Q D A nL (cells + rm.cells) (slots + rm.slots) (pc + 3) lv rest (wr ++ wo u)) : GG p l e R s m args below meth c Q D A nL cells slots pc lv st0 ws := by
  subst hst0
  exact g_cv C isC isR hC hnC hR hnR hdis (fun H locs ls hP hD hl => ⟨_, run_SN C hrd hlink hst hfr hlo hce hsl hn hrm d (hM H.size) hP hD hl⟩) k
theorem run_VN (C : CX p s m args c D E A cc nL own) (hrd : RD y bytes maxL ret n) {ci N : Nat} {Cn host : String} {T : u_T} {fs : List Value} (hlink : Cond.methodLinkNest own index y host ∈ allw) (hin : Cond.instanceMethod y ∈ allw) (hsel : Cond.selects Cn y y ∈ allw) (he : wi[0]? = some (b, .inr (ci, fs))) (hc : vwCl[ci]? = some (Cn, T, N)) (hfr : rm.frames + 1 ≤ R.frames) (hlo : 8 + (maxL + 11) + rm.locals ≤ R.locals) (hce : cells + rm.cells ≤ R.cells) (hsl : slots + rm.slots ≤ R.slots) (hn : As.length = n) (hrm : (rest.map fun v => v.category).sum ≤ 8) (d : decode cc pc = .ok (.invokevirtual index, 3)) {H : Heap} {locs : List Loc} {ls : Array Slot} (hM : Met l y [Cond.code y bytes maxL ret] rm (PC D E (.ref b :: As) wi H.size) Qc rm.cells rm.slots free) (hP : va_P D vwCl wi H) (hD : va_D (fun _ => True) wi) (hl : lv_has ls nL lv) :
    va_Run p l e R s m args below meth c H locs cells slots rm.cells rm.slots (F0 m pc ls (As.reverse ++ .ref b :: rest)) rest (Qc (.ref b :: As).toArray) free :=
  va_runVN (Ts := []) ⟨C.1, C.2.1, C.2.2.1, C.2.2.2.1, fun _ h => nomatch h⟩ hM ⟨⟨⟨rfl, rfl, hfr, hlo, fun w hw a' U hW => by cases List.mem_singleton.mp hw; exact (KK.warm hW C.2.2.2.2.1).2 _ hrd.1 a', List.mem_singleton.mpr rfl⟩, C.2.2.2.2.1.2 _ hrd.1 args, C.2.2.2.2.1.2 _ hrd.2.1 args, hrd.2.2.1, fun sig h => by have h2 := hrd.2.2.2; rw [h] at h2; exact (Option.some.inj h2).symm, C.2.2.2.2.1.2 _ hlink args⟩, C.2.2.2.2.1.2 _ hin args, C.2.2.2.2.1.2 _ hsel args⟩ ⟨pc_blind, va_recv C.2.2.2.2.1.1 hP hc he, fun U hU hW => ⟨rfl, by rw [hU], by rw [hU]; exact hP, KK.warm hW C.2.2.2.2.1, hD⟩⟩ rfl hn hl.1 rfl (lv_room hrm) d ⟨hce, hsl⟩
theorem g_iVN (C : CX p s m args c D E A cc nL own) {post : Int32 → S → Prop} (hM : MI l D E y (.code y bytes maxL ret) rm (.ref b :: As) wi post wo) (hrd : RD y bytes maxL ret n) {ci N : Nat} {Cn host : String} {T : u_T} {fs : List Value} (hlink : Cond.methodLinkNest own index y host ∈ allw) (hin : Cond.instanceMethod y ∈ allw) (hsel : Cond.selects Cn y y ∈ allw) (he : wi[0]? = some (b, .inr (ci, fs))) (hc : vwCl[ci]? = some (Cn, T, N)) (hfr : rm.frames + 1 ≤ R.frames) (hlo : 8 + (maxL + 11) + rm.locals ≤ R.locals) (hce : cells + rm.cells ≤ R.cells) (hsl : slots + rm.slots ≤ R.slots) (hn : As.length = n) (hst0 : st0 = (As.reverse ++ .ref b :: rest)) (hrm : (rest.map fun v => v.category).sum ≤ 8) (d : decode cc pc = .ok (.invokevirtual index, 3)) (isC isR : List Nat) (hC : isC.map (fun i => ws[i]?) = wi.map some) (hnC : va_nd isC = true) (hR : isR.map (fun i => ws[i]?) = wr.map some) (hnR : va_nd isR = true) (hdis : ∀ i ∈ isR, i ∉ isC)
    (k : ∀ (r : Int32) (u : S), post r u → GG p l e R s m args below meth c Q D A nL (cells + rm.cells) (slots + rm.slots) (pc + 3) lv (.int r :: rest) (wr ++ wo u)) : GG p l e R s m args below meth c Q D A nL cells slots pc lv st0 ws := by
  subst hst0
  exact g_ci C isC isR hC hnC hR hnR hdis (fun H locs ls hP hD hl => ⟨_, run_VN C hrd hlink hin hsel he hc hfr hlo hce hsl hn hrm d (hM H.size) hP hD hl⟩) k
theorem g_vVN (C : CX p s m args c D E A cc nL own) {post : S → Prop} (hM : MV l D E y (.code y bytes maxL ret) rm (.ref b :: As) wi post wo) (hrd : RD y bytes maxL ret n) {ci N : Nat} {Cn host : String} {T : u_T} {fs : List Value} (hlink : Cond.methodLinkNest own index y host ∈ allw) (hin : Cond.instanceMethod y ∈ allw) (hsel : Cond.selects Cn y y ∈ allw) (he : wi[0]? = some (b, .inr (ci, fs))) (hc : vwCl[ci]? = some (Cn, T, N)) (hfr : rm.frames + 1 ≤ R.frames) (hlo : 8 + (maxL + 11) + rm.locals ≤ R.locals) (hce : cells + rm.cells ≤ R.cells) (hsl : slots + rm.slots ≤ R.slots) (hn : As.length = n) (hst0 : st0 = (As.reverse ++ .ref b :: rest)) (hrm : (rest.map fun v => v.category).sum ≤ 8) (d : decode cc pc = .ok (.invokevirtual index, 3)) (isC isR : List Nat) (hC : isC.map (fun i => ws[i]?) = wi.map some) (hnC : va_nd isC = true) (hR : isR.map (fun i => ws[i]?) = wr.map some) (hnR : va_nd isR = true) (hdis : ∀ i ∈ isR, i ∉ isC)
    (k : ∀ (u : S), post u → GG p l e R s m args below meth c Q D A nL (cells + rm.cells) (slots + rm.slots) (pc + 3) lv rest (wr ++ wo u)) : GG p l e R s m args below meth c Q D A nL cells slots pc lv st0 ws := by
  subst hst0
  exact g_cv C isC isR hC hnC hR hnR hdis (fun H locs ls hP hD hl => ⟨_, run_VN C hrd hlink hin hsel he hc hfr hlo hce hsl hn hrm d (hM H.size) hP hD hl⟩) k
end Calls
end
section
theorem m_0 : Cond.selects "AttackBench" y_AB_changed y_AB_changed ∈ allw := List.mem_filter.mpr ⟨List.mem_of_getElem? (i := 0) (by decide +kernel), by decide +kernel⟩
theorem m_1 : Cond.selects "AttackBench$Senses" y_Senses_fillTargets y_Senses_fillTargets ∈ allw := List.mem_filter.mpr ⟨List.mem_of_getElem? (i := 1) (by decide +kernel), by decide +kernel⟩
theorem m_2 : Cond.selects "AttackBench$Senses" y_Senses_ownMarks y_Senses_ownMarks ∈ allw := List.mem_filter.mpr ⟨List.mem_of_getElem? (i := 2) (by decide +kernel), by decide +kernel⟩
theorem m_3 : Cond.selects "AttackBench$Senses" y_Senses_markPreferred y_Senses_markPreferred ∈ allw := List.mem_filter.mpr ⟨List.mem_of_getElem? (i := 3) (by decide +kernel), by decide +kernel⟩
theorem m_4 : Cond.selects "AttackBench$Senses" y_Senses_hasMark y_Senses_hasMark ∈ allw := List.mem_filter.mpr ⟨List.mem_of_getElem? (i := 4) (by decide +kernel), by decide +kernel⟩
theorem m_5 : Cond.selects "AttackBench$Senses" y_Senses_isNewTop y_Senses_isNewTop ∈ allw := List.mem_filter.mpr ⟨List.mem_of_getElem? (i := 5) (by decide +kernel), by decide +kernel⟩
theorem m_6 : Cond.selects "AttackBench$Senses" y_Senses_markRanges y_Senses_markRanges ∈ allw := List.mem_filter.mpr ⟨List.mem_of_getElem? (i := 6) (by decide +kernel), by decide +kernel⟩
theorem m_7 : Cond.selects "AttackBench$Senses" y_Senses_markStage y_Senses_markStage ∈ allw := List.mem_filter.mpr ⟨List.mem_of_getElem? (i := 7) (by decide +kernel), by decide +kernel⟩
theorem m_8 : Cond.selects "AttackBench$Grounds" y_Grounds_noteRound y_Grounds_noteRound ∈ allw := List.mem_filter.mpr ⟨List.mem_of_getElem? (i := 8) (by decide +kernel), by decide +kernel⟩
theorem m_9 : Cond.selects "AttackBench$Rings" y_Rings_fillReach y_Rings_fillReach ∈ allw := List.mem_filter.mpr ⟨List.mem_of_getElem? (i := 9) (by decide +kernel), by decide +kernel⟩
theorem m_10 : Cond.selects "AttackBench$Rings" y_Rings_firstReady y_Rings_firstReady ∈ allw := List.mem_filter.mpr ⟨List.mem_of_getElem? (i := 10) (by decide +kernel), by decide +kernel⟩
theorem m_11 : Cond.selects "AttackBench$Rings" y_Rings_around y_Rings_around ∈ allw := List.mem_filter.mpr ⟨List.mem_of_getElem? (i := 11) (by decide +kernel), by decide +kernel⟩
theorem m_12 : Cond.selects "AttackBench$Rings" y_Rings_number y_Rings_number ∈ allw := List.mem_filter.mpr ⟨List.mem_of_getElem? (i := 12) (by decide +kernel), by decide +kernel⟩
theorem m_14 : Cond.selects "AttackBench$Talk" y_Talk_defend y_Talk_defend ∈ allw := List.mem_filter.mpr ⟨List.mem_of_getElem? (i := 14) (by decide +kernel), by decide +kernel⟩
theorem m_15 : Cond.selects "AttackBench$Talk" y_Talk_say y_Talk_say ∈ allw := List.mem_filter.mpr ⟨List.mem_of_getElem? (i := 15) (by decide +kernel), by decide +kernel⟩
theorem m_16 : Cond.selects "AttackBenchModel" y_Mo_comes y_Mo_comes ∈ allw := List.mem_filter.mpr ⟨List.mem_of_getElem? (i := 16) (by decide +kernel), by decide +kernel⟩
theorem m_17 : Cond.selects "AttackBenchModel" y_Mo_changes y_Mo_changes ∈ allw := List.mem_filter.mpr ⟨List.mem_of_getElem? (i := 17) (by decide +kernel), by decide +kernel⟩
theorem m_18 : Cond.selects "AttackBenchModel" y_Mo_isArgument y_Mo_isArgument ∈ allw := List.mem_filter.mpr ⟨List.mem_of_getElem? (i := 18) (by decide +kernel), by decide +kernel⟩
theorem m_19 : Cond.selects "AttackBenchModel" y_Mo_sets y_Mo_sets ∈ allw := List.mem_filter.mpr ⟨List.mem_of_getElem? (i := 19) (by decide +kernel), by decide +kernel⟩
theorem m_20 : Cond.selects "AttackBenchModel" y_Mo_reckon y_Mo_reckon ∈ allw := List.mem_filter.mpr ⟨List.mem_of_getElem? (i := 20) (by decide +kernel), by decide +kernel⟩
theorem m_21 : Cond.selects "AttackBenchModel" y_Mo_defended y_Mo_defended ∈ allw := List.mem_filter.mpr ⟨List.mem_of_getElem? (i := 21) (by decide +kernel), by decide +kernel⟩
theorem m_22 : Cond.selects "AttackBenchModel" y_Mo_isFreeSet y_Mo_isFreeSet ∈ allw := List.mem_filter.mpr ⟨List.mem_of_getElem? (i := 22) (by decide +kernel), by decide +kernel⟩
theorem m_23 : Cond.selects "AttackBenchModel" y_Mo_adds y_Mo_adds ∈ allw := List.mem_filter.mpr ⟨List.mem_of_getElem? (i := 23) (by decide +kernel), by decide +kernel⟩
theorem m_24 : Cond.selects "AttackBenchModel" y_Mo_looksAbove y_Mo_looksAbove ∈ allw := List.mem_filter.mpr ⟨List.mem_of_getElem? (i := 24) (by decide +kernel), by decide +kernel⟩
theorem m_25 : Cond.selects "AttackBenchModel" y_Mo_goesRound y_Mo_goesRound ∈ allw := List.mem_filter.mpr ⟨List.mem_of_getElem? (i := 25) (by decide +kernel), by decide +kernel⟩
theorem m_26 : Cond.selects "AttackBenchModel" y_Mo_isSet y_Mo_isSet ∈ allw := List.mem_filter.mpr ⟨List.mem_of_getElem? (i := 26) (by decide +kernel), by decide +kernel⟩
theorem m_27 : Cond.selects "AttackBenchModel" y_Mo_isOf y_Mo_isOf ∈ allw := List.mem_filter.mpr ⟨List.mem_of_getElem? (i := 27) (by decide +kernel), by decide +kernel⟩
theorem m_28 : Cond.selects "AttackBenchModel" y_Mo_puts y_Mo_puts ∈ allw := List.mem_filter.mpr ⟨List.mem_of_getElem? (i := 28) (by decide +kernel), by decide +kernel⟩
theorem m_29 : Cond.selects "AttackBenchModel" y_Mo_against y_Mo_against ∈ allw := List.mem_filter.mpr ⟨List.mem_of_getElem? (i := 29) (by decide +kernel), by decide +kernel⟩
theorem m_30 : Cond.selects "AttackBenchModel" y_Mo_numbers y_Mo_numbers ∈ allw := List.mem_filter.mpr ⟨List.mem_of_getElem? (i := 30) (by decide +kernel), by decide +kernel⟩
theorem m_31 : Cond.selects "AttackBenchModel" y_Mo_from y_Mo_from ∈ allw := List.mem_filter.mpr ⟨List.mem_of_getElem? (i := 31) (by decide +kernel), by decide +kernel⟩
theorem m_32 : Cond.selects "AttackBenchModel" y_Mo_both y_Mo_both ∈ allw := List.mem_filter.mpr ⟨List.mem_of_getElem? (i := 32) (by decide +kernel), by decide +kernel⟩
theorem m_33 : Cond.initialized "AttackBenchLaw" ∈ allw := List.mem_filter.mpr ⟨List.mem_of_getElem? (i := 33) (by decide +kernel), by decide +kernel⟩
theorem m_34 : Cond.initialized "AttackBench" ∈ allw := List.mem_filter.mpr ⟨List.mem_of_getElem? (i := 34) (by decide +kernel), by decide +kernel⟩
theorem m_35 : Cond.initialized "AttackBench$Web" ∈ allw := List.mem_filter.mpr ⟨List.mem_of_getElem? (i := 35) (by decide +kernel), by decide +kernel⟩
theorem m_36 : Cond.initialized "AttackBench$Senses" ∈ allw := List.mem_filter.mpr ⟨List.mem_of_getElem? (i := 36) (by decide +kernel), by decide +kernel⟩
theorem m_37 : Cond.initialized "AttackBench$Listing" ∈ allw := List.mem_filter.mpr ⟨List.mem_of_getElem? (i := 37) (by decide +kernel), by decide +kernel⟩
theorem m_38 : Cond.initialized "AttackBench$Grounds" ∈ allw := List.mem_filter.mpr ⟨List.mem_of_getElem? (i := 38) (by decide +kernel), by decide +kernel⟩
theorem m_39 : Cond.initialized "AttackBench$Talk" ∈ allw := List.mem_filter.mpr ⟨List.mem_of_getElem? (i := 39) (by decide +kernel), by decide +kernel⟩
theorem m_40 : Cond.initialized "AttackBench$Rings" ∈ allw := List.mem_filter.mpr ⟨List.mem_of_getElem? (i := 40) (by decide +kernel), by decide +kernel⟩
theorem m_41 : Cond.initialized "AttackBenchModel" ∈ allw := List.mem_filter.mpr ⟨List.mem_of_getElem? (i := 41) (by decide +kernel), by decide +kernel⟩
theorem m_45 : Cond.initialized "java/lang/IllegalArgumentException" ∈ allw := List.mem_filter.mpr ⟨List.mem_of_getElem? (i := 45) (by decide +kernel), by decide +kernel⟩
theorem m_46 : Cond.initialized "java/lang/IllegalStateException" ∈ allw := List.mem_filter.mpr ⟨List.mem_of_getElem? (i := 46) (by decide +kernel), by decide +kernel⟩
theorem m_47 : Cond.classLink "AttackBenchLaw" 8 "AttackBench" ∈ allw := List.mem_filter.mpr ⟨List.mem_of_getElem? (i := 47) (by decide +kernel), by decide +kernel⟩
theorem m_48 : Cond.instantiable "AttackBench" 6 ∈ allw := List.mem_filter.mpr ⟨List.mem_of_getElem? (i := 48) (by decide +kernel), by decide +kernel⟩
theorem m_49 : Cond.methodLink "AttackBenchLaw" 35 y_AB_init ∈ allw := List.mem_filter.mpr ⟨List.mem_of_getElem? (i := 49) (by decide +kernel), by decide +kernel⟩
theorem m_50 : Cond.instanceMethod y_AB_init ∈ allw := List.mem_filter.mpr ⟨List.mem_of_getElem? (i := 50) (by decide +kernel), by decide +kernel⟩
theorem m_51 : Cond.code y_AB_init k_AB_init 1 none ∈ allw := List.mem_filter.mpr ⟨List.mem_of_getElem? (i := 51) (by decide +kernel), by decide +kernel⟩
theorem m_52 : Cond.methodLink "AttackBench" 3 objectInit ∈ allw := List.mem_filter.mpr ⟨List.mem_of_getElem? (i := 52) (by decide +kernel), by decide +kernel⟩
theorem m_53 : Cond.instanceMethod objectInit ∈ allw := List.mem_filter.mpr ⟨List.mem_of_getElem? (i := 53) (by decide +kernel), by decide +kernel⟩
theorem m_54 : Cond.code objectInit ⟨#[0xb1]⟩ 1 none ∈ allw := List.mem_filter.mpr ⟨List.mem_of_getElem? (i := 54) (by decide +kernel), by decide +kernel⟩
theorem m_55 : Cond.classLink "AttackBench" 9 "AttackBench$Web" ∈ allw := List.mem_filter.mpr ⟨List.mem_of_getElem? (i := 55) (by decide +kernel), by decide +kernel⟩
theorem m_56 : Cond.instantiable "AttackBench$Web" 3 ∈ allw := List.mem_filter.mpr ⟨List.mem_of_getElem? (i := 56) (by decide +kernel), by decide +kernel⟩
theorem m_57 : Cond.methodLink "AttackBench" 11 y_Web_init ∈ allw := List.mem_filter.mpr ⟨List.mem_of_getElem? (i := 57) (by decide +kernel), by decide +kernel⟩
theorem m_58 : Cond.instanceMethod y_Web_init ∈ allw := List.mem_filter.mpr ⟨List.mem_of_getElem? (i := 58) (by decide +kernel), by decide +kernel⟩
theorem m_59 : Cond.code y_Web_init k_Web_init 1 none ∈ allw := List.mem_filter.mpr ⟨List.mem_of_getElem? (i := 59) (by decide +kernel), by decide +kernel⟩
theorem m_60 : Cond.methodLink "AttackBench$Web" 3 objectInit ∈ allw := List.mem_filter.mpr ⟨List.mem_of_getElem? (i := 60) (by decide +kernel), by decide +kernel⟩
theorem m_61 : Cond.fieldLink "AttackBench$Web" 9 "AttackBench$Web" "targets" "[I" ∈ allw := List.mem_filter.mpr ⟨List.mem_of_getElem? (i := 61) (by decide +kernel), by decide +kernel⟩
theorem m_62 : Cond.fieldLink "AttackBench$Web" 15 "AttackBench$Web" "attackers" "[I" ∈ allw := List.mem_filter.mpr ⟨List.mem_of_getElem? (i := 62) (by decide +kernel), by decide +kernel⟩
theorem m_63 : Cond.fieldLink "AttackBench$Web" 18 "AttackBench$Web" "size" "I" ∈ allw := List.mem_filter.mpr ⟨List.mem_of_getElem? (i := 63) (by decide +kernel), by decide +kernel⟩
theorem m_71 : Cond.arrayClass .int ∈ allw := List.mem_filter.mpr ⟨List.mem_of_getElem? (i := 71) (by decide +kernel), by decide +kernel⟩
theorem m_72 : Cond.classLink "AttackBench" 16 "AttackBench$Senses" ∈ allw := List.mem_filter.mpr ⟨List.mem_of_getElem? (i := 72) (by decide +kernel), by decide +kernel⟩
theorem m_73 : Cond.instantiable "AttackBench$Senses" 6 ∈ allw := List.mem_filter.mpr ⟨List.mem_of_getElem? (i := 73) (by decide +kernel), by decide +kernel⟩
theorem m_74 : Cond.methodLink "AttackBench" 18 y_Senses_init ∈ allw := List.mem_filter.mpr ⟨List.mem_of_getElem? (i := 74) (by decide +kernel), by decide +kernel⟩
theorem m_75 : Cond.instanceMethod y_Senses_init ∈ allw := List.mem_filter.mpr ⟨List.mem_of_getElem? (i := 75) (by decide +kernel), by decide +kernel⟩
theorem m_76 : Cond.code y_Senses_init k_Senses_init 1 none ∈ allw := List.mem_filter.mpr ⟨List.mem_of_getElem? (i := 76) (by decide +kernel), by decide +kernel⟩
theorem m_77 : Cond.methodLink "AttackBench$Senses" 3 objectInit ∈ allw := List.mem_filter.mpr ⟨List.mem_of_getElem? (i := 77) (by decide +kernel), by decide +kernel⟩
theorem m_78 : Cond.fieldLink "AttackBench$Senses" 9 "AttackBench$Senses" "targets" "[I" ∈ allw := List.mem_filter.mpr ⟨List.mem_of_getElem? (i := 78) (by decide +kernel), by decide +kernel⟩
theorem m_79 : Cond.fieldLink "AttackBench$Senses" 15 "AttackBench$Senses" "marks" "[I" ∈ allw := List.mem_filter.mpr ⟨List.mem_of_getElem? (i := 79) (by decide +kernel), by decide +kernel⟩
theorem m_80 : Cond.fieldLink "AttackBench$Senses" 18 "AttackBench$Senses" "tops" "[I" ∈ allw := List.mem_filter.mpr ⟨List.mem_of_getElem? (i := 80) (by decide +kernel), by decide +kernel⟩
theorem m_81 : Cond.fieldLink "AttackBench$Senses" 21 "AttackBench$Senses" "topCount" "I" ∈ allw := List.mem_filter.mpr ⟨List.mem_of_getElem? (i := 81) (by decide +kernel), by decide +kernel⟩
theorem m_82 : Cond.fieldLink "AttackBench$Senses" 25 "AttackBench$Senses" "everything" "I" ∈ allw := List.mem_filter.mpr ⟨List.mem_of_getElem? (i := 82) (by decide +kernel), by decide +kernel⟩
theorem m_83 : Cond.fieldLink "AttackBench$Senses" 28 "AttackBench$Senses" "known" "Z" ∈ allw := List.mem_filter.mpr ⟨List.mem_of_getElem? (i := 83) (by decide +kernel), by decide +kernel⟩
theorem m_97 : Cond.classLink "AttackBench" 23 "AttackBench$Listing" ∈ allw := List.mem_filter.mpr ⟨List.mem_of_getElem? (i := 97) (by decide +kernel), by decide +kernel⟩
theorem m_98 : Cond.instantiable "AttackBench$Listing" 4 ∈ allw := List.mem_filter.mpr ⟨List.mem_of_getElem? (i := 98) (by decide +kernel), by decide +kernel⟩
theorem m_99 : Cond.methodLink "AttackBench" 25 y_Listing_init ∈ allw := List.mem_filter.mpr ⟨List.mem_of_getElem? (i := 99) (by decide +kernel), by decide +kernel⟩
theorem m_100 : Cond.instanceMethod y_Listing_init ∈ allw := List.mem_filter.mpr ⟨List.mem_of_getElem? (i := 100) (by decide +kernel), by decide +kernel⟩
theorem m_101 : Cond.code y_Listing_init k_Listing_init 1 none ∈ allw := List.mem_filter.mpr ⟨List.mem_of_getElem? (i := 101) (by decide +kernel), by decide +kernel⟩
theorem m_102 : Cond.methodLink "AttackBench$Listing" 3 objectInit ∈ allw := List.mem_filter.mpr ⟨List.mem_of_getElem? (i := 102) (by decide +kernel), by decide +kernel⟩
theorem m_103 : Cond.fieldLink "AttackBench$Listing" 9 "AttackBench$Listing" "open" "Z" ∈ allw := List.mem_filter.mpr ⟨List.mem_of_getElem? (i := 103) (by decide +kernel), by decide +kernel⟩
theorem m_104 : Cond.fieldLink "AttackBench$Listing" 15 "AttackBench$Listing" "kind" "I" ∈ allw := List.mem_filter.mpr ⟨List.mem_of_getElem? (i := 104) (by decide +kernel), by decide +kernel⟩
theorem m_105 : Cond.fieldLink "AttackBench$Listing" 19 "AttackBench$Listing" "place" "I" ∈ allw := List.mem_filter.mpr ⟨List.mem_of_getElem? (i := 105) (by decide +kernel), by decide +kernel⟩
theorem m_106 : Cond.fieldLink "AttackBench$Listing" 22 "AttackBench$Listing" "told" "I" ∈ allw := List.mem_filter.mpr ⟨List.mem_of_getElem? (i := 106) (by decide +kernel), by decide +kernel⟩
theorem m_116 : Cond.classLink "AttackBench" 30 "AttackBench$Grounds" ∈ allw := List.mem_filter.mpr ⟨List.mem_of_getElem? (i := 116) (by decide +kernel), by decide +kernel⟩
theorem m_117 : Cond.instantiable "AttackBench$Grounds" 2 ∈ allw := List.mem_filter.mpr ⟨List.mem_of_getElem? (i := 117) (by decide +kernel), by decide +kernel⟩
theorem m_118 : Cond.methodLink "AttackBench" 32 y_Grounds_init ∈ allw := List.mem_filter.mpr ⟨List.mem_of_getElem? (i := 118) (by decide +kernel), by decide +kernel⟩
theorem m_119 : Cond.instanceMethod y_Grounds_init ∈ allw := List.mem_filter.mpr ⟨List.mem_of_getElem? (i := 119) (by decide +kernel), by decide +kernel⟩
theorem m_120 : Cond.code y_Grounds_init k_Grounds_init 1 none ∈ allw := List.mem_filter.mpr ⟨List.mem_of_getElem? (i := 120) (by decide +kernel), by decide +kernel⟩
theorem m_121 : Cond.methodLink "AttackBench$Grounds" 3 objectInit ∈ allw := List.mem_filter.mpr ⟨List.mem_of_getElem? (i := 121) (by decide +kernel), by decide +kernel⟩
theorem m_122 : Cond.fieldLink "AttackBench$Grounds" 9 "AttackBench$Grounds" "rounds" "[I" ∈ allw := List.mem_filter.mpr ⟨List.mem_of_getElem? (i := 122) (by decide +kernel), by decide +kernel⟩
theorem m_123 : Cond.fieldLink "AttackBench$Grounds" 15 "AttackBench$Grounds" "all" "I" ∈ allw := List.mem_filter.mpr ⟨List.mem_of_getElem? (i := 123) (by decide +kernel), by decide +kernel⟩
theorem m_129 : Cond.classLink "AttackBench" 37 "AttackBench$Talk" ∈ allw := List.mem_filter.mpr ⟨List.mem_of_getElem? (i := 129) (by decide +kernel), by decide +kernel⟩
theorem m_130 : Cond.instantiable "AttackBench$Talk" 5 ∈ allw := List.mem_filter.mpr ⟨List.mem_of_getElem? (i := 130) (by decide +kernel), by decide +kernel⟩
theorem m_131 : Cond.methodLink "AttackBench" 39 y_Talk_init ∈ allw := List.mem_filter.mpr ⟨List.mem_of_getElem? (i := 131) (by decide +kernel), by decide +kernel⟩
theorem m_132 : Cond.instanceMethod y_Talk_init ∈ allw := List.mem_filter.mpr ⟨List.mem_of_getElem? (i := 132) (by decide +kernel), by decide +kernel⟩
theorem m_133 : Cond.code y_Talk_init k_Talk_init 1 none ∈ allw := List.mem_filter.mpr ⟨List.mem_of_getElem? (i := 133) (by decide +kernel), by decide +kernel⟩
theorem m_134 : Cond.methodLink "AttackBench$Talk" 3 objectInit ∈ allw := List.mem_filter.mpr ⟨List.mem_of_getElem? (i := 134) (by decide +kernel), by decide +kernel⟩
theorem m_135 : Cond.fieldLink "AttackBench$Talk" 9 "AttackBench$Talk" "said" "[I" ∈ allw := List.mem_filter.mpr ⟨List.mem_of_getElem? (i := 135) (by decide +kernel), by decide +kernel⟩
theorem m_136 : Cond.fieldLink "AttackBench$Talk" 15 "AttackBench$Talk" "answered" "[I" ∈ allw := List.mem_filter.mpr ⟨List.mem_of_getElem? (i := 136) (by decide +kernel), by decide +kernel⟩
theorem m_137 : Cond.fieldLink "AttackBench$Talk" 18 "AttackBench$Talk" "sides" "[I" ∈ allw := List.mem_filter.mpr ⟨List.mem_of_getElem? (i := 137) (by decide +kernel), by decide +kernel⟩
theorem m_138 : Cond.fieldLink "AttackBench$Talk" 21 "AttackBench$Talk" "size" "I" ∈ allw := List.mem_filter.mpr ⟨List.mem_of_getElem? (i := 138) (by decide +kernel), by decide +kernel⟩
theorem m_139 : Cond.fieldLink "AttackBench$Talk" 25 "AttackBench$Talk" "tooLong" "Z" ∈ allw := List.mem_filter.mpr ⟨List.mem_of_getElem? (i := 139) (by decide +kernel), by decide +kernel⟩
theorem m_151 : Cond.classLink "AttackBench" 44 "AttackBench$Rings" ∈ allw := List.mem_filter.mpr ⟨List.mem_of_getElem? (i := 151) (by decide +kernel), by decide +kernel⟩
theorem m_152 : Cond.instantiable "AttackBench$Rings" 3 ∈ allw := List.mem_filter.mpr ⟨List.mem_of_getElem? (i := 152) (by decide +kernel), by decide +kernel⟩
theorem m_153 : Cond.methodLink "AttackBench" 46 y_Rings_init ∈ allw := List.mem_filter.mpr ⟨List.mem_of_getElem? (i := 153) (by decide +kernel), by decide +kernel⟩
theorem m_154 : Cond.instanceMethod y_Rings_init ∈ allw := List.mem_filter.mpr ⟨List.mem_of_getElem? (i := 154) (by decide +kernel), by decide +kernel⟩
theorem m_155 : Cond.code y_Rings_init k_Rings_init 1 none ∈ allw := List.mem_filter.mpr ⟨List.mem_of_getElem? (i := 155) (by decide +kernel), by decide +kernel⟩
theorem m_156 : Cond.methodLink "AttackBench$Rings" 3 objectInit ∈ allw := List.mem_filter.mpr ⟨List.mem_of_getElem? (i := 156) (by decide +kernel), by decide +kernel⟩
theorem m_157 : Cond.fieldLink "AttackBench$Rings" 9 "AttackBench$Rings" "reach" "[I" ∈ allw := List.mem_filter.mpr ⟨List.mem_of_getElem? (i := 157) (by decide +kernel), by decide +kernel⟩
theorem m_158 : Cond.fieldLink "AttackBench$Rings" 15 "AttackBench$Rings" "numbers" "[I" ∈ allw := List.mem_filter.mpr ⟨List.mem_of_getElem? (i := 158) (by decide +kernel), by decide +kernel⟩
theorem m_159 : Cond.fieldLink "AttackBench$Rings" 18 "AttackBench$Rings" "size" "I" ∈ allw := List.mem_filter.mpr ⟨List.mem_of_getElem? (i := 159) (by decide +kernel), by decide +kernel⟩
theorem m_167 : Cond.fieldLink "AttackBench" 12 "AttackBench" "web" "LAttackBench$Web;" ∈ allw := List.mem_filter.mpr ⟨List.mem_of_getElem? (i := 167) (by decide +kernel), by decide +kernel⟩
theorem m_168 : Cond.fieldLink "AttackBench" 19 "AttackBench" "senses" "LAttackBench$Senses;" ∈ allw := List.mem_filter.mpr ⟨List.mem_of_getElem? (i := 168) (by decide +kernel), by decide +kernel⟩
theorem m_169 : Cond.fieldLink "AttackBench" 26 "AttackBench" "listing" "LAttackBench$Listing;" ∈ allw := List.mem_filter.mpr ⟨List.mem_of_getElem? (i := 169) (by decide +kernel), by decide +kernel⟩
theorem m_170 : Cond.fieldLink "AttackBench" 33 "AttackBench" "grounds" "LAttackBench$Grounds;" ∈ allw := List.mem_filter.mpr ⟨List.mem_of_getElem? (i := 170) (by decide +kernel), by decide +kernel⟩
theorem m_171 : Cond.fieldLink "AttackBench" 40 "AttackBench" "talk" "LAttackBench$Talk;" ∈ allw := List.mem_filter.mpr ⟨List.mem_of_getElem? (i := 171) (by decide +kernel), by decide +kernel⟩
theorem m_172 : Cond.fieldLink "AttackBench" 47 "AttackBench" "rings" "LAttackBench$Rings;" ∈ allw := List.mem_filter.mpr ⟨List.mem_of_getElem? (i := 172) (by decide +kernel), by decide +kernel⟩
theorem m_186 : Cond.methodLink "AttackBenchLaw" 39 y_AB_claim ∈ allw := List.mem_filter.mpr ⟨List.mem_of_getElem? (i := 186) (by decide +kernel), by decide +kernel⟩
theorem m_187 : Cond.instanceMethod y_AB_claim ∈ allw := List.mem_filter.mpr ⟨List.mem_of_getElem? (i := 187) (by decide +kernel), by decide +kernel⟩
theorem m_188 : Cond.selects "AttackBench" y_AB_claim y_AB_claim ∈ allw := List.mem_filter.mpr ⟨List.mem_of_getElem? (i := 188) (by decide +kernel), by decide +kernel⟩
theorem m_189 : Cond.code y_AB_claim k_AB_claim 2 (some .int) ∈ allw := List.mem_filter.mpr ⟨List.mem_of_getElem? (i := 189) (by decide +kernel), by decide +kernel⟩
theorem m_190 : Cond.methodLink "AttackBench" 51 y_Web_hasRoomFor ∈ allw := List.mem_filter.mpr ⟨List.mem_of_getElem? (i := 190) (by decide +kernel), by decide +kernel⟩
theorem m_191 : Cond.instanceMethod y_Web_hasRoomFor ∈ allw := List.mem_filter.mpr ⟨List.mem_of_getElem? (i := 191) (by decide +kernel), by decide +kernel⟩
theorem m_192 : Cond.selects "AttackBench$Web" y_Web_hasRoomFor y_Web_hasRoomFor ∈ allw := List.mem_filter.mpr ⟨List.mem_of_getElem? (i := 192) (by decide +kernel), by decide +kernel⟩
theorem m_193 : Cond.code y_Web_hasRoomFor k_Web_hasRoomFor 2 (some .boolean) ∈ allw := List.mem_filter.mpr ⟨List.mem_of_getElem? (i := 193) (by decide +kernel), by decide +kernel⟩
theorem m_194 : Cond.methodLink "AttackBench" 55 y_Web_add ∈ allw := List.mem_filter.mpr ⟨List.mem_of_getElem? (i := 194) (by decide +kernel), by decide +kernel⟩
theorem m_195 : Cond.instanceMethod y_Web_add ∈ allw := List.mem_filter.mpr ⟨List.mem_of_getElem? (i := 195) (by decide +kernel), by decide +kernel⟩
theorem m_196 : Cond.selects "AttackBench$Web" y_Web_add y_Web_add ∈ allw := List.mem_filter.mpr ⟨List.mem_of_getElem? (i := 196) (by decide +kernel), by decide +kernel⟩
theorem m_197 : Cond.code y_Web_add k_Web_add 1 (some .int) ∈ allw := List.mem_filter.mpr ⟨List.mem_of_getElem? (i := 197) (by decide +kernel), by decide +kernel⟩
theorem m_198 : Cond.methodLink "AttackBench$Web" 30 y_Web_hasRoomFor ∈ allw := List.mem_filter.mpr ⟨List.mem_of_getElem? (i := 198) (by decide +kernel), by decide +kernel⟩
theorem m_199 : Cond.methodLink "AttackBench" 59 y_AB_changed ∈ allw := List.mem_filter.mpr ⟨List.mem_of_getElem? (i := 199) (by decide +kernel), by decide +kernel⟩
theorem m_201 : Cond.instanceMethod y_AB_changed ∈ allw := List.mem_filter.mpr ⟨List.mem_of_getElem? (i := 201) (by decide +kernel), by decide +kernel⟩
theorem m_202 : Cond.code y_AB_changed k_AB_changed 1 none ∈ allw := List.mem_filter.mpr ⟨List.mem_of_getElem? (i := 202) (by decide +kernel), by decide +kernel⟩
theorem m_203 : Cond.methodLink "AttackBench" 167 y_Listing_end ∈ allw := List.mem_filter.mpr ⟨List.mem_of_getElem? (i := 203) (by decide +kernel), by decide +kernel⟩
theorem m_204 : Cond.instanceMethod y_Listing_end ∈ allw := List.mem_filter.mpr ⟨List.mem_of_getElem? (i := 204) (by decide +kernel), by decide +kernel⟩
theorem m_205 : Cond.selects "AttackBench$Listing" y_Listing_end y_Listing_end ∈ allw := List.mem_filter.mpr ⟨List.mem_of_getElem? (i := 205) (by decide +kernel), by decide +kernel⟩
theorem m_206 : Cond.code y_Listing_end k_Listing_end 1 none ∈ allw := List.mem_filter.mpr ⟨List.mem_of_getElem? (i := 206) (by decide +kernel), by decide +kernel⟩
theorem m_207 : Cond.methodLink "AttackBench" 170 y_Senses_forget ∈ allw := List.mem_filter.mpr ⟨List.mem_of_getElem? (i := 207) (by decide +kernel), by decide +kernel⟩
theorem m_208 : Cond.instanceMethod y_Senses_forget ∈ allw := List.mem_filter.mpr ⟨List.mem_of_getElem? (i := 208) (by decide +kernel), by decide +kernel⟩
theorem m_209 : Cond.selects "AttackBench$Senses" y_Senses_forget y_Senses_forget ∈ allw := List.mem_filter.mpr ⟨List.mem_of_getElem? (i := 209) (by decide +kernel), by decide +kernel⟩
theorem m_210 : Cond.code y_Senses_forget k_Senses_forget 1 none ∈ allw := List.mem_filter.mpr ⟨List.mem_of_getElem? (i := 210) (by decide +kernel), by decide +kernel⟩
theorem m_211 : Cond.methodLink "AttackBenchLaw" 43 y_AB_attack ∈ allw := List.mem_filter.mpr ⟨List.mem_of_getElem? (i := 211) (by decide +kernel), by decide +kernel⟩
theorem m_212 : Cond.instanceMethod y_AB_attack ∈ allw := List.mem_filter.mpr ⟨List.mem_of_getElem? (i := 212) (by decide +kernel), by decide +kernel⟩
theorem m_213 : Cond.selects "AttackBench" y_AB_attack y_AB_attack ∈ allw := List.mem_filter.mpr ⟨List.mem_of_getElem? (i := 213) (by decide +kernel), by decide +kernel⟩
theorem m_214 : Cond.code y_AB_attack k_AB_attack 4 (some .boolean) ∈ allw := List.mem_filter.mpr ⟨List.mem_of_getElem? (i := 214) (by decide +kernel), by decide +kernel⟩
theorem m_215 : Cond.methodLink "AttackBench" 62 y_Web_has ∈ allw := List.mem_filter.mpr ⟨List.mem_of_getElem? (i := 215) (by decide +kernel), by decide +kernel⟩
theorem m_216 : Cond.instanceMethod y_Web_has ∈ allw := List.mem_filter.mpr ⟨List.mem_of_getElem? (i := 216) (by decide +kernel), by decide +kernel⟩
theorem m_217 : Cond.selects "AttackBench$Web" y_Web_has y_Web_has ∈ allw := List.mem_filter.mpr ⟨List.mem_of_getElem? (i := 217) (by decide +kernel), by decide +kernel⟩
theorem m_218 : Cond.code y_Web_has k_Web_has 2 (some .boolean) ∈ allw := List.mem_filter.mpr ⟨List.mem_of_getElem? (i := 218) (by decide +kernel), by decide +kernel⟩
theorem m_219 : Cond.methodLink "AttackBench" 65 y_Web_leads ∈ allw := List.mem_filter.mpr ⟨List.mem_of_getElem? (i := 219) (by decide +kernel), by decide +kernel⟩
theorem m_220 : Cond.instanceMethod y_Web_leads ∈ allw := List.mem_filter.mpr ⟨List.mem_of_getElem? (i := 220) (by decide +kernel), by decide +kernel⟩
theorem m_221 : Cond.selects "AttackBench$Web" y_Web_leads y_Web_leads ∈ allw := List.mem_filter.mpr ⟨List.mem_of_getElem? (i := 221) (by decide +kernel), by decide +kernel⟩
theorem m_222 : Cond.code y_Web_leads k_Web_leads 3 (some .boolean) ∈ allw := List.mem_filter.mpr ⟨List.mem_of_getElem? (i := 222) (by decide +kernel), by decide +kernel⟩
theorem m_223 : Cond.methodLink "AttackBench$Web" 34 y_Web_has ∈ allw := List.mem_filter.mpr ⟨List.mem_of_getElem? (i := 223) (by decide +kernel), by decide +kernel⟩
theorem m_224 : Cond.methodLinkNest "AttackBench$Web" 37 y_AB_isIn "AttackBench" ∈ allw := List.mem_filter.mpr ⟨List.mem_of_getElem? (i := 224) (by decide +kernel), by decide +kernel⟩
theorem m_225 : Cond.static y_AB_isIn ∈ allw := List.mem_filter.mpr ⟨List.mem_of_getElem? (i := 225) (by decide +kernel), by decide +kernel⟩
theorem m_226 : Cond.code y_AB_isIn k_AB_isIn 2 (some .boolean) ∈ allw := List.mem_filter.mpr ⟨List.mem_of_getElem? (i := 226) (by decide +kernel), by decide +kernel⟩
theorem m_227 : Cond.methodLink "AttackBench" 69 y_Web_put ∈ allw := List.mem_filter.mpr ⟨List.mem_of_getElem? (i := 227) (by decide +kernel), by decide +kernel⟩
theorem m_228 : Cond.instanceMethod y_Web_put ∈ allw := List.mem_filter.mpr ⟨List.mem_of_getElem? (i := 228) (by decide +kernel), by decide +kernel⟩
theorem m_229 : Cond.selects "AttackBench$Web" y_Web_put y_Web_put ∈ allw := List.mem_filter.mpr ⟨List.mem_of_getElem? (i := 229) (by decide +kernel), by decide +kernel⟩
theorem m_230 : Cond.code y_Web_put k_Web_put 4 none ∈ allw := List.mem_filter.mpr ⟨List.mem_of_getElem? (i := 230) (by decide +kernel), by decide +kernel⟩
theorem m_231 : Cond.methodLink "AttackBenchLaw" 47 y_AB_attacks ∈ allw := List.mem_filter.mpr ⟨List.mem_of_getElem? (i := 231) (by decide +kernel), by decide +kernel⟩
theorem m_232 : Cond.instanceMethod y_AB_attacks ∈ allw := List.mem_filter.mpr ⟨List.mem_of_getElem? (i := 232) (by decide +kernel), by decide +kernel⟩
theorem m_233 : Cond.selects "AttackBench" y_AB_attacks y_AB_attacks ∈ allw := List.mem_filter.mpr ⟨List.mem_of_getElem? (i := 233) (by decide +kernel), by decide +kernel⟩
theorem m_234 : Cond.code y_AB_attacks k_AB_attacks 3 (some .boolean) ∈ allw := List.mem_filter.mpr ⟨List.mem_of_getElem? (i := 234) (by decide +kernel), by decide +kernel⟩
theorem m_235 : Cond.methodLink "AttackBenchLaw" 52 y_AB_joint ∈ allw := List.mem_filter.mpr ⟨List.mem_of_getElem? (i := 235) (by decide +kernel), by decide +kernel⟩
theorem m_236 : Cond.instanceMethod y_AB_joint ∈ allw := List.mem_filter.mpr ⟨List.mem_of_getElem? (i := 236) (by decide +kernel), by decide +kernel⟩
theorem m_237 : Cond.selects "AttackBench" y_AB_joint y_AB_joint ∈ allw := List.mem_filter.mpr ⟨List.mem_of_getElem? (i := 237) (by decide +kernel), by decide +kernel⟩
theorem m_238 : Cond.code y_AB_joint k_AB_joint 7 (some .int) ∈ allw := List.mem_filter.mpr ⟨List.mem_of_getElem? (i := 238) (by decide +kernel), by decide +kernel⟩
theorem m_239 : Cond.methodLink "AttackBenchLaw" 57 y_AB_support ∈ allw := List.mem_filter.mpr ⟨List.mem_of_getElem? (i := 239) (by decide +kernel), by decide +kernel⟩
theorem m_240 : Cond.instanceMethod y_AB_support ∈ allw := List.mem_filter.mpr ⟨List.mem_of_getElem? (i := 240) (by decide +kernel), by decide +kernel⟩
theorem m_241 : Cond.selects "AttackBench" y_AB_support y_AB_support ∈ allw := List.mem_filter.mpr ⟨List.mem_of_getElem? (i := 241) (by decide +kernel), by decide +kernel⟩
theorem m_242 : Cond.code y_AB_support k_AB_support 4 (some .int) ∈ allw := List.mem_filter.mpr ⟨List.mem_of_getElem? (i := 242) (by decide +kernel), by decide +kernel⟩
theorem m_243 : Cond.methodLink "AttackBenchLaw" 62 y_AB_arguments ∈ allw := List.mem_filter.mpr ⟨List.mem_of_getElem? (i := 243) (by decide +kernel), by decide +kernel⟩
theorem m_244 : Cond.instanceMethod y_AB_arguments ∈ allw := List.mem_filter.mpr ⟨List.mem_of_getElem? (i := 244) (by decide +kernel), by decide +kernel⟩
theorem m_245 : Cond.selects "AttackBench" y_AB_arguments y_AB_arguments ∈ allw := List.mem_filter.mpr ⟨List.mem_of_getElem? (i := 245) (by decide +kernel), by decide +kernel⟩
theorem m_246 : Cond.code y_AB_arguments k_AB_arguments 1 (some .int) ∈ allw := List.mem_filter.mpr ⟨List.mem_of_getElem? (i := 246) (by decide +kernel), by decide +kernel⟩
theorem m_247 : Cond.methodLink "AttackBench" 73 y_Web_size ∈ allw := List.mem_filter.mpr ⟨List.mem_of_getElem? (i := 247) (by decide +kernel), by decide +kernel⟩
theorem m_248 : Cond.instanceMethod y_Web_size ∈ allw := List.mem_filter.mpr ⟨List.mem_of_getElem? (i := 248) (by decide +kernel), by decide +kernel⟩
theorem m_249 : Cond.selects "AttackBench$Web" y_Web_size y_Web_size ∈ allw := List.mem_filter.mpr ⟨List.mem_of_getElem? (i := 249) (by decide +kernel), by decide +kernel⟩
theorem m_250 : Cond.code y_Web_size k_Web_size 1 (some .int) ∈ allw := List.mem_filter.mpr ⟨List.mem_of_getElem? (i := 250) (by decide +kernel), by decide +kernel⟩
theorem m_251 : Cond.methodLink "AttackBenchLaw" 66 y_AB_isFree ∈ allw := List.mem_filter.mpr ⟨List.mem_of_getElem? (i := 251) (by decide +kernel), by decide +kernel⟩
theorem m_252 : Cond.instanceMethod y_AB_isFree ∈ allw := List.mem_filter.mpr ⟨List.mem_of_getElem? (i := 252) (by decide +kernel), by decide +kernel⟩
theorem m_253 : Cond.selects "AttackBench" y_AB_isFree y_AB_isFree ∈ allw := List.mem_filter.mpr ⟨List.mem_of_getElem? (i := 253) (by decide +kernel), by decide +kernel⟩
theorem m_254 : Cond.code y_AB_isFree k_AB_isFree 2 (some .boolean) ∈ allw := List.mem_filter.mpr ⟨List.mem_of_getElem? (i := 254) (by decide +kernel), by decide +kernel⟩
theorem m_255 : Cond.methodLink "AttackBench" 76 y_Web_hasSet ∈ allw := List.mem_filter.mpr ⟨List.mem_of_getElem? (i := 255) (by decide +kernel), by decide +kernel⟩
theorem m_256 : Cond.instanceMethod y_Web_hasSet ∈ allw := List.mem_filter.mpr ⟨List.mem_of_getElem? (i := 256) (by decide +kernel), by decide +kernel⟩
theorem m_257 : Cond.selects "AttackBench$Web" y_Web_hasSet y_Web_hasSet ∈ allw := List.mem_filter.mpr ⟨List.mem_of_getElem? (i := 257) (by decide +kernel), by decide +kernel⟩
theorem m_258 : Cond.code y_Web_hasSet k_Web_hasSet 2 (some .boolean) ∈ allw := List.mem_filter.mpr ⟨List.mem_of_getElem? (i := 258) (by decide +kernel), by decide +kernel⟩
theorem m_259 : Cond.methodLink "AttackBench$Web" 22 y_Web_everything ∈ allw := List.mem_filter.mpr ⟨List.mem_of_getElem? (i := 259) (by decide +kernel), by decide +kernel⟩
theorem m_260 : Cond.instanceMethod y_Web_everything ∈ allw := List.mem_filter.mpr ⟨List.mem_of_getElem? (i := 260) (by decide +kernel), by decide +kernel⟩
theorem m_261 : Cond.selects "AttackBench$Web" y_Web_everything y_Web_everything ∈ allw := List.mem_filter.mpr ⟨List.mem_of_getElem? (i := 261) (by decide +kernel), by decide +kernel⟩
theorem m_262 : Cond.code y_Web_everything k_Web_everything 1 (some .int) ∈ allw := List.mem_filter.mpr ⟨List.mem_of_getElem? (i := 262) (by decide +kernel), by decide +kernel⟩
theorem m_263 : Cond.methodLinkNest "AttackBench$Web" 26 y_AB_isWithin "AttackBench" ∈ allw := List.mem_filter.mpr ⟨List.mem_of_getElem? (i := 263) (by decide +kernel), by decide +kernel⟩
theorem m_264 : Cond.static y_AB_isWithin ∈ allw := List.mem_filter.mpr ⟨List.mem_of_getElem? (i := 264) (by decide +kernel), by decide +kernel⟩
theorem m_265 : Cond.code y_AB_isWithin k_AB_isWithin 2 (some .boolean) ∈ allw := List.mem_filter.mpr ⟨List.mem_of_getElem? (i := 265) (by decide +kernel), by decide +kernel⟩
theorem m_266 : Cond.methodLink "AttackBench" 79 y_Web_targetsOf ∈ allw := List.mem_filter.mpr ⟨List.mem_of_getElem? (i := 266) (by decide +kernel), by decide +kernel⟩
theorem m_267 : Cond.instanceMethod y_Web_targetsOf ∈ allw := List.mem_filter.mpr ⟨List.mem_of_getElem? (i := 267) (by decide +kernel), by decide +kernel⟩
theorem m_268 : Cond.selects "AttackBench$Web" y_Web_targetsOf y_Web_targetsOf ∈ allw := List.mem_filter.mpr ⟨List.mem_of_getElem? (i := 268) (by decide +kernel), by decide +kernel⟩
theorem m_269 : Cond.code y_Web_targetsOf k_Web_targetsOf 4 (some .int) ∈ allw := List.mem_filter.mpr ⟨List.mem_of_getElem? (i := 269) (by decide +kernel), by decide +kernel⟩
theorem m_270 : Cond.methodLink "AttackBenchLaw" 71 y_AB_is ∈ allw := List.mem_filter.mpr ⟨List.mem_of_getElem? (i := 270) (by decide +kernel), by decide +kernel⟩
theorem m_271 : Cond.instanceMethod y_AB_is ∈ allw := List.mem_filter.mpr ⟨List.mem_of_getElem? (i := 271) (by decide +kernel), by decide +kernel⟩
theorem m_272 : Cond.selects "AttackBench" y_AB_is y_AB_is ∈ allw := List.mem_filter.mpr ⟨List.mem_of_getElem? (i := 272) (by decide +kernel), by decide +kernel⟩
theorem m_273 : Cond.code y_AB_is k_AB_is 3 (some .boolean) ∈ allw := List.mem_filter.mpr ⟨List.mem_of_getElem? (i := 273) (by decide +kernel), by decide +kernel⟩
theorem m_274 : Cond.methodLink "AttackBench" 83 y_AB_isKind ∈ allw := List.mem_filter.mpr ⟨List.mem_of_getElem? (i := 274) (by decide +kernel), by decide +kernel⟩
theorem m_275 : Cond.static y_AB_isKind ∈ allw := List.mem_filter.mpr ⟨List.mem_of_getElem? (i := 275) (by decide +kernel), by decide +kernel⟩
theorem m_276 : Cond.code y_AB_isKind k_AB_isKind 1 (some .boolean) ∈ allw := List.mem_filter.mpr ⟨List.mem_of_getElem? (i := 276) (by decide +kernel), by decide +kernel⟩
theorem m_277 : Cond.methodLink "AttackBench" 86 y_Senses_learn ∈ allw := List.mem_filter.mpr ⟨List.mem_of_getElem? (i := 277) (by decide +kernel), by decide +kernel⟩
theorem m_278 : Cond.instanceMethod y_Senses_learn ∈ allw := List.mem_filter.mpr ⟨List.mem_of_getElem? (i := 278) (by decide +kernel), by decide +kernel⟩
theorem m_279 : Cond.selects "AttackBench$Senses" y_Senses_learn y_Senses_learn ∈ allw := List.mem_filter.mpr ⟨List.mem_of_getElem? (i := 279) (by decide +kernel), by decide +kernel⟩
theorem m_280 : Cond.code y_Senses_learn k_Senses_learn 3 none ∈ allw := List.mem_filter.mpr ⟨List.mem_of_getElem? (i := 280) (by decide +kernel), by decide +kernel⟩
theorem m_281 : Cond.methodLink "AttackBench$Senses" 32 y_Web_everything ∈ allw := List.mem_filter.mpr ⟨List.mem_of_getElem? (i := 281) (by decide +kernel), by decide +kernel⟩
theorem m_282 : Cond.methodLink "AttackBench$Senses" 37 y_Senses_fillTargets ∈ allw := List.mem_filter.mpr ⟨List.mem_of_getElem? (i := 282) (by decide +kernel), by decide +kernel⟩
theorem m_284 : Cond.instanceMethod y_Senses_fillTargets ∈ allw := List.mem_filter.mpr ⟨List.mem_of_getElem? (i := 284) (by decide +kernel), by decide +kernel⟩
theorem m_285 : Cond.code y_Senses_fillTargets k_Senses_fillTargets 6 none ∈ allw := List.mem_filter.mpr ⟨List.mem_of_getElem? (i := 285) (by decide +kernel), by decide +kernel⟩
theorem m_286 : Cond.methodLink "AttackBench$Senses" 64 y_Web_size ∈ allw := List.mem_filter.mpr ⟨List.mem_of_getElem? (i := 286) (by decide +kernel), by decide +kernel⟩
theorem m_287 : Cond.methodLink "AttackBench$Senses" 67 y_Web_targetsOfOne ∈ allw := List.mem_filter.mpr ⟨List.mem_of_getElem? (i := 287) (by decide +kernel), by decide +kernel⟩
theorem m_288 : Cond.instanceMethod y_Web_targetsOfOne ∈ allw := List.mem_filter.mpr ⟨List.mem_of_getElem? (i := 288) (by decide +kernel), by decide +kernel⟩
theorem m_289 : Cond.selects "AttackBench$Web" y_Web_targetsOfOne y_Web_targetsOfOne ∈ allw := List.mem_filter.mpr ⟨List.mem_of_getElem? (i := 289) (by decide +kernel), by decide +kernel⟩
theorem m_290 : Cond.code y_Web_targetsOfOne k_Web_targetsOfOne 2 (some .int) ∈ allw := List.mem_filter.mpr ⟨List.mem_of_getElem? (i := 290) (by decide +kernel), by decide +kernel⟩
theorem m_291 : Cond.methodLink "AttackBench$Senses" 41 y_Senses_ownMarks ∈ allw := List.mem_filter.mpr ⟨List.mem_of_getElem? (i := 291) (by decide +kernel), by decide +kernel⟩
theorem m_293 : Cond.instanceMethod y_Senses_ownMarks ∈ allw := List.mem_filter.mpr ⟨List.mem_of_getElem? (i := 293) (by decide +kernel), by decide +kernel⟩
theorem m_294 : Cond.code y_Senses_ownMarks k_Senses_ownMarks 5 (some .int) ∈ allw := List.mem_filter.mpr ⟨List.mem_of_getElem? (i := 294) (by decide +kernel), by decide +kernel⟩
theorem m_295 : Cond.methodLinkNest "AttackBench$Senses" 61 y_AB_isWithin "AttackBench" ∈ allw := List.mem_filter.mpr ⟨List.mem_of_getElem? (i := 295) (by decide +kernel), by decide +kernel⟩
theorem m_296 : Cond.methodLink "AttackBench$Senses" 45 y_Senses_markPreferred ∈ allw := List.mem_filter.mpr ⟨List.mem_of_getElem? (i := 296) (by decide +kernel), by decide +kernel⟩
theorem m_298 : Cond.instanceMethod y_Senses_markPreferred ∈ allw := List.mem_filter.mpr ⟨List.mem_of_getElem? (i := 298) (by decide +kernel), by decide +kernel⟩
theorem m_299 : Cond.code y_Senses_markPreferred k_Senses_markPreferred 2 none ∈ allw := List.mem_filter.mpr ⟨List.mem_of_getElem? (i := 299) (by decide +kernel), by decide +kernel⟩
theorem m_300 : Cond.methodLink "AttackBench$Senses" 54 y_Senses_hasMark ∈ allw := List.mem_filter.mpr ⟨List.mem_of_getElem? (i := 300) (by decide +kernel), by decide +kernel⟩
theorem m_302 : Cond.instanceMethod y_Senses_hasMark ∈ allw := List.mem_filter.mpr ⟨List.mem_of_getElem? (i := 302) (by decide +kernel), by decide +kernel⟩
theorem m_303 : Cond.code y_Senses_hasMark k_Senses_hasMark 3 (some .boolean) ∈ allw := List.mem_filter.mpr ⟨List.mem_of_getElem? (i := 303) (by decide +kernel), by decide +kernel⟩
theorem m_304 : Cond.methodLink "AttackBench$Senses" 70 y_Senses_isNewTop ∈ allw := List.mem_filter.mpr ⟨List.mem_of_getElem? (i := 304) (by decide +kernel), by decide +kernel⟩
theorem m_306 : Cond.instanceMethod y_Senses_isNewTop ∈ allw := List.mem_filter.mpr ⟨List.mem_of_getElem? (i := 306) (by decide +kernel), by decide +kernel⟩
theorem m_307 : Cond.code y_Senses_isNewTop k_Senses_isNewTop 3 (some .boolean) ∈ allw := List.mem_filter.mpr ⟨List.mem_of_getElem? (i := 307) (by decide +kernel), by decide +kernel⟩
theorem m_308 : Cond.methodLink "AttackBench$Senses" 48 y_Senses_markRanges ∈ allw := List.mem_filter.mpr ⟨List.mem_of_getElem? (i := 308) (by decide +kernel), by decide +kernel⟩
theorem m_310 : Cond.instanceMethod y_Senses_markRanges ∈ allw := List.mem_filter.mpr ⟨List.mem_of_getElem? (i := 310) (by decide +kernel), by decide +kernel⟩
theorem m_311 : Cond.code y_Senses_markRanges k_Senses_markRanges 2 none ∈ allw := List.mem_filter.mpr ⟨List.mem_of_getElem? (i := 311) (by decide +kernel), by decide +kernel⟩
theorem m_312 : Cond.methodLink "AttackBench$Senses" 51 y_Senses_markStage ∈ allw := List.mem_filter.mpr ⟨List.mem_of_getElem? (i := 312) (by decide +kernel), by decide +kernel⟩
theorem m_314 : Cond.instanceMethod y_Senses_markStage ∈ allw := List.mem_filter.mpr ⟨List.mem_of_getElem? (i := 314) (by decide +kernel), by decide +kernel⟩
theorem m_315 : Cond.code y_Senses_markStage k_Senses_markStage 2 none ∈ allw := List.mem_filter.mpr ⟨List.mem_of_getElem? (i := 315) (by decide +kernel), by decide +kernel⟩
theorem m_316 : Cond.methodLink "AttackBench" 90 y_Senses_isOf ∈ allw := List.mem_filter.mpr ⟨List.mem_of_getElem? (i := 316) (by decide +kernel), by decide +kernel⟩
theorem m_317 : Cond.instanceMethod y_Senses_isOf ∈ allw := List.mem_filter.mpr ⟨List.mem_of_getElem? (i := 317) (by decide +kernel), by decide +kernel⟩
theorem m_318 : Cond.selects "AttackBench$Senses" y_Senses_isOf y_Senses_isOf ∈ allw := List.mem_filter.mpr ⟨List.mem_of_getElem? (i := 318) (by decide +kernel), by decide +kernel⟩
theorem m_319 : Cond.code y_Senses_isOf k_Senses_isOf 3 (some .boolean) ∈ allw := List.mem_filter.mpr ⟨List.mem_of_getElem? (i := 319) (by decide +kernel), by decide +kernel⟩
theorem m_320 : Cond.methodLink "AttackBenchLaw" 75 y_AB_attackedBy ∈ allw := List.mem_filter.mpr ⟨List.mem_of_getElem? (i := 320) (by decide +kernel), by decide +kernel⟩
theorem m_321 : Cond.instanceMethod y_AB_attackedBy ∈ allw := List.mem_filter.mpr ⟨List.mem_of_getElem? (i := 321) (by decide +kernel), by decide +kernel⟩
theorem m_322 : Cond.selects "AttackBench" y_AB_attackedBy y_AB_attackedBy ∈ allw := List.mem_filter.mpr ⟨List.mem_of_getElem? (i := 322) (by decide +kernel), by decide +kernel⟩
theorem m_323 : Cond.code y_AB_attackedBy k_AB_attackedBy 2 (some .int) ∈ allw := List.mem_filter.mpr ⟨List.mem_of_getElem? (i := 323) (by decide +kernel), by decide +kernel⟩
theorem m_324 : Cond.methodLink "AttackBenchLaw" 79 y_AB_defendedBy ∈ allw := List.mem_filter.mpr ⟨List.mem_of_getElem? (i := 324) (by decide +kernel), by decide +kernel⟩
theorem m_325 : Cond.instanceMethod y_AB_defendedBy ∈ allw := List.mem_filter.mpr ⟨List.mem_of_getElem? (i := 325) (by decide +kernel), by decide +kernel⟩
theorem m_326 : Cond.selects "AttackBench" y_AB_defendedBy y_AB_defendedBy ∈ allw := List.mem_filter.mpr ⟨List.mem_of_getElem? (i := 326) (by decide +kernel), by decide +kernel⟩
theorem m_327 : Cond.code y_AB_defendedBy k_AB_defendedBy 2 (some .int) ∈ allw := List.mem_filter.mpr ⟨List.mem_of_getElem? (i := 327) (by decide +kernel), by decide +kernel⟩
theorem m_328 : Cond.methodLink "AttackBench" 93 y_Web_defendedOf ∈ allw := List.mem_filter.mpr ⟨List.mem_of_getElem? (i := 328) (by decide +kernel), by decide +kernel⟩
theorem m_329 : Cond.instanceMethod y_Web_defendedOf ∈ allw := List.mem_filter.mpr ⟨List.mem_of_getElem? (i := 329) (by decide +kernel), by decide +kernel⟩
theorem m_330 : Cond.selects "AttackBench$Web" y_Web_defendedOf y_Web_defendedOf ∈ allw := List.mem_filter.mpr ⟨List.mem_of_getElem? (i := 330) (by decide +kernel), by decide +kernel⟩
theorem m_331 : Cond.code y_Web_defendedOf k_Web_defendedOf 3 (some .int) ∈ allw := List.mem_filter.mpr ⟨List.mem_of_getElem? (i := 331) (by decide +kernel), by decide +kernel⟩
theorem m_332 : Cond.methodLink "AttackBench$Web" 40 y_Web_targetsOf ∈ allw := List.mem_filter.mpr ⟨List.mem_of_getElem? (i := 332) (by decide +kernel), by decide +kernel⟩
theorem m_333 : Cond.methodLink "AttackBenchLaw" 83 y_AB_grounded ∈ allw := List.mem_filter.mpr ⟨List.mem_of_getElem? (i := 333) (by decide +kernel), by decide +kernel⟩
theorem m_334 : Cond.instanceMethod y_AB_grounded ∈ allw := List.mem_filter.mpr ⟨List.mem_of_getElem? (i := 334) (by decide +kernel), by decide +kernel⟩
theorem m_335 : Cond.selects "AttackBench" y_AB_grounded y_AB_grounded ∈ allw := List.mem_filter.mpr ⟨List.mem_of_getElem? (i := 335) (by decide +kernel), by decide +kernel⟩
theorem m_336 : Cond.code y_AB_grounded k_AB_grounded 1 (some .int) ∈ allw := List.mem_filter.mpr ⟨List.mem_of_getElem? (i := 336) (by decide +kernel), by decide +kernel⟩
theorem m_337 : Cond.methodLink "AttackBench" 96 y_Grounds_settle ∈ allw := List.mem_filter.mpr ⟨List.mem_of_getElem? (i := 337) (by decide +kernel), by decide +kernel⟩
theorem m_338 : Cond.instanceMethod y_Grounds_settle ∈ allw := List.mem_filter.mpr ⟨List.mem_of_getElem? (i := 338) (by decide +kernel), by decide +kernel⟩
theorem m_339 : Cond.selects "AttackBench$Grounds" y_Grounds_settle y_Grounds_settle ∈ allw := List.mem_filter.mpr ⟨List.mem_of_getElem? (i := 339) (by decide +kernel), by decide +kernel⟩
theorem m_340 : Cond.code y_Grounds_settle k_Grounds_settle 4 none ∈ allw := List.mem_filter.mpr ⟨List.mem_of_getElem? (i := 340) (by decide +kernel), by decide +kernel⟩
theorem m_341 : Cond.methodLink "AttackBench$Grounds" 19 y_Web_defendedOf ∈ allw := List.mem_filter.mpr ⟨List.mem_of_getElem? (i := 341) (by decide +kernel), by decide +kernel⟩
theorem m_342 : Cond.methodLink "AttackBench$Grounds" 25 y_Grounds_noteRound ∈ allw := List.mem_filter.mpr ⟨List.mem_of_getElem? (i := 342) (by decide +kernel), by decide +kernel⟩
theorem m_344 : Cond.instanceMethod y_Grounds_noteRound ∈ allw := List.mem_filter.mpr ⟨List.mem_of_getElem? (i := 344) (by decide +kernel), by decide +kernel⟩
theorem m_345 : Cond.code y_Grounds_noteRound k_Grounds_noteRound 4 none ∈ allw := List.mem_filter.mpr ⟨List.mem_of_getElem? (i := 345) (by decide +kernel), by decide +kernel⟩
theorem m_346 : Cond.methodLinkNest "AttackBench$Grounds" 29 y_AB_isIn "AttackBench" ∈ allw := List.mem_filter.mpr ⟨List.mem_of_getElem? (i := 346) (by decide +kernel), by decide +kernel⟩
theorem m_347 : Cond.methodLink "AttackBench" 99 y_Grounds_all ∈ allw := List.mem_filter.mpr ⟨List.mem_of_getElem? (i := 347) (by decide +kernel), by decide +kernel⟩
theorem m_348 : Cond.instanceMethod y_Grounds_all ∈ allw := List.mem_filter.mpr ⟨List.mem_of_getElem? (i := 348) (by decide +kernel), by decide +kernel⟩
theorem m_349 : Cond.selects "AttackBench$Grounds" y_Grounds_all y_Grounds_all ∈ allw := List.mem_filter.mpr ⟨List.mem_of_getElem? (i := 349) (by decide +kernel), by decide +kernel⟩
theorem m_350 : Cond.code y_Grounds_all k_Grounds_all 1 (some .int) ∈ allw := List.mem_filter.mpr ⟨List.mem_of_getElem? (i := 350) (by decide +kernel), by decide +kernel⟩
theorem m_351 : Cond.methodLink "AttackBenchLaw" 87 y_AB_round ∈ allw := List.mem_filter.mpr ⟨List.mem_of_getElem? (i := 351) (by decide +kernel), by decide +kernel⟩
theorem m_352 : Cond.instanceMethod y_AB_round ∈ allw := List.mem_filter.mpr ⟨List.mem_of_getElem? (i := 352) (by decide +kernel), by decide +kernel⟩
theorem m_353 : Cond.selects "AttackBench" y_AB_round y_AB_round ∈ allw := List.mem_filter.mpr ⟨List.mem_of_getElem? (i := 353) (by decide +kernel), by decide +kernel⟩
theorem m_354 : Cond.code y_AB_round k_AB_round 2 (some .int) ∈ allw := List.mem_filter.mpr ⟨List.mem_of_getElem? (i := 354) (by decide +kernel), by decide +kernel⟩
theorem m_355 : Cond.methodLink "AttackBench" 102 y_Grounds_roundOf ∈ allw := List.mem_filter.mpr ⟨List.mem_of_getElem? (i := 355) (by decide +kernel), by decide +kernel⟩
theorem m_356 : Cond.instanceMethod y_Grounds_roundOf ∈ allw := List.mem_filter.mpr ⟨List.mem_of_getElem? (i := 356) (by decide +kernel), by decide +kernel⟩
theorem m_357 : Cond.selects "AttackBench$Grounds" y_Grounds_roundOf y_Grounds_roundOf ∈ allw := List.mem_filter.mpr ⟨List.mem_of_getElem? (i := 357) (by decide +kernel), by decide +kernel⟩
theorem m_358 : Cond.code y_Grounds_roundOf k_Grounds_roundOf 2 (some .int) ∈ allw := List.mem_filter.mpr ⟨List.mem_of_getElem? (i := 358) (by decide +kernel), by decide +kernel⟩
theorem m_359 : Cond.methodLink "AttackBenchLaw" 91 y_AB_ideal ∈ allw := List.mem_filter.mpr ⟨List.mem_of_getElem? (i := 359) (by decide +kernel), by decide +kernel⟩
theorem m_360 : Cond.instanceMethod y_AB_ideal ∈ allw := List.mem_filter.mpr ⟨List.mem_of_getElem? (i := 360) (by decide +kernel), by decide +kernel⟩
theorem m_361 : Cond.selects "AttackBench" y_AB_ideal y_AB_ideal ∈ allw := List.mem_filter.mpr ⟨List.mem_of_getElem? (i := 361) (by decide +kernel), by decide +kernel⟩
theorem m_362 : Cond.code y_AB_ideal k_AB_ideal 1 (some .int) ∈ allw := List.mem_filter.mpr ⟨List.mem_of_getElem? (i := 362) (by decide +kernel), by decide +kernel⟩
theorem m_363 : Cond.methodLink "AttackBench" 105 y_Senses_meet ∈ allw := List.mem_filter.mpr ⟨List.mem_of_getElem? (i := 363) (by decide +kernel), by decide +kernel⟩
theorem m_364 : Cond.instanceMethod y_Senses_meet ∈ allw := List.mem_filter.mpr ⟨List.mem_of_getElem? (i := 364) (by decide +kernel), by decide +kernel⟩
theorem m_365 : Cond.selects "AttackBench$Senses" y_Senses_meet y_Senses_meet ∈ allw := List.mem_filter.mpr ⟨List.mem_of_getElem? (i := 365) (by decide +kernel), by decide +kernel⟩
theorem m_366 : Cond.code y_Senses_meet k_Senses_meet 4 (some .int) ∈ allw := List.mem_filter.mpr ⟨List.mem_of_getElem? (i := 366) (by decide +kernel), by decide +kernel⟩
theorem m_367 : Cond.methodLink "AttackBench$Senses" 58 y_Senses_isOf ∈ allw := List.mem_filter.mpr ⟨List.mem_of_getElem? (i := 367) (by decide +kernel), by decide +kernel⟩
theorem m_368 : Cond.methodLink "AttackBench" 108 y_Senses_joinWithin ∈ allw := List.mem_filter.mpr ⟨List.mem_of_getElem? (i := 368) (by decide +kernel), by decide +kernel⟩
theorem m_369 : Cond.instanceMethod y_Senses_joinWithin ∈ allw := List.mem_filter.mpr ⟨List.mem_of_getElem? (i := 369) (by decide +kernel), by decide +kernel⟩
theorem m_370 : Cond.selects "AttackBench$Senses" y_Senses_joinWithin y_Senses_joinWithin ∈ allw := List.mem_filter.mpr ⟨List.mem_of_getElem? (i := 370) (by decide +kernel), by decide +kernel⟩
theorem m_371 : Cond.code y_Senses_joinWithin k_Senses_joinWithin 5 (some .int) ∈ allw := List.mem_filter.mpr ⟨List.mem_of_getElem? (i := 371) (by decide +kernel), by decide +kernel⟩
theorem m_372 : Cond.methodLink "AttackBenchLaw" 122 y_AB_move ∈ allw := List.mem_filter.mpr ⟨List.mem_of_getElem? (i := 372) (by decide +kernel), by decide +kernel⟩
theorem m_373 : Cond.instanceMethod y_AB_move ∈ allw := List.mem_filter.mpr ⟨List.mem_of_getElem? (i := 373) (by decide +kernel), by decide +kernel⟩
theorem m_374 : Cond.selects "AttackBench" y_AB_move y_AB_move ∈ allw := List.mem_filter.mpr ⟨List.mem_of_getElem? (i := 374) (by decide +kernel), by decide +kernel⟩
theorem m_375 : Cond.code y_AB_move k_AB_move 3 (some .int) ∈ allw := List.mem_filter.mpr ⟨List.mem_of_getElem? (i := 375) (by decide +kernel), by decide +kernel⟩
theorem m_376 : Cond.methodLink "AttackBench" 158 y_Talk_tell ∈ allw := List.mem_filter.mpr ⟨List.mem_of_getElem? (i := 376) (by decide +kernel), by decide +kernel⟩
theorem m_377 : Cond.instanceMethod y_Talk_tell ∈ allw := List.mem_filter.mpr ⟨List.mem_of_getElem? (i := 377) (by decide +kernel), by decide +kernel⟩
theorem m_378 : Cond.selects "AttackBench$Talk" y_Talk_tell y_Talk_tell ∈ allw := List.mem_filter.mpr ⟨List.mem_of_getElem? (i := 378) (by decide +kernel), by decide +kernel⟩
theorem m_379 : Cond.code y_Talk_tell k_Talk_tell 3 (some .int) ∈ allw := List.mem_filter.mpr ⟨List.mem_of_getElem? (i := 379) (by decide +kernel), by decide +kernel⟩
theorem m_380 : Cond.methodLink "AttackBenchLaw" 126 y_AB_circle ∈ allw := List.mem_filter.mpr ⟨List.mem_of_getElem? (i := 380) (by decide +kernel), by decide +kernel⟩
theorem m_381 : Cond.instanceMethod y_AB_circle ∈ allw := List.mem_filter.mpr ⟨List.mem_of_getElem? (i := 381) (by decide +kernel), by decide +kernel⟩
theorem m_382 : Cond.selects "AttackBench" y_AB_circle y_AB_circle ∈ allw := List.mem_filter.mpr ⟨List.mem_of_getElem? (i := 382) (by decide +kernel), by decide +kernel⟩
theorem m_383 : Cond.code y_AB_circle k_AB_circle 2 (some .int) ∈ allw := List.mem_filter.mpr ⟨List.mem_of_getElem? (i := 383) (by decide +kernel), by decide +kernel⟩
theorem m_384 : Cond.methodLink "AttackBench" 160 y_Rings_find ∈ allw := List.mem_filter.mpr ⟨List.mem_of_getElem? (i := 384) (by decide +kernel), by decide +kernel⟩
theorem m_385 : Cond.instanceMethod y_Rings_find ∈ allw := List.mem_filter.mpr ⟨List.mem_of_getElem? (i := 385) (by decide +kernel), by decide +kernel⟩
theorem m_386 : Cond.selects "AttackBench$Rings" y_Rings_find y_Rings_find ∈ allw := List.mem_filter.mpr ⟨List.mem_of_getElem? (i := 386) (by decide +kernel), by decide +kernel⟩
theorem m_387 : Cond.code y_Rings_find k_Rings_find 5 none ∈ allw := List.mem_filter.mpr ⟨List.mem_of_getElem? (i := 387) (by decide +kernel), by decide +kernel⟩
theorem m_388 : Cond.methodLink "AttackBench$Rings" 22 y_Rings_fillReach ∈ allw := List.mem_filter.mpr ⟨List.mem_of_getElem? (i := 388) (by decide +kernel), by decide +kernel⟩
theorem m_390 : Cond.instanceMethod y_Rings_fillReach ∈ allw := List.mem_filter.mpr ⟨List.mem_of_getElem? (i := 390) (by decide +kernel), by decide +kernel⟩
theorem m_391 : Cond.code y_Rings_fillReach k_Rings_fillReach 4 none ∈ allw := List.mem_filter.mpr ⟨List.mem_of_getElem? (i := 391) (by decide +kernel), by decide +kernel⟩
theorem m_392 : Cond.methodLink "AttackBench$Rings" 39 y_Web_targetsOfOne ∈ allw := List.mem_filter.mpr ⟨List.mem_of_getElem? (i := 392) (by decide +kernel), by decide +kernel⟩
theorem m_393 : Cond.methodLinkNest "AttackBench$Rings" 43 y_AB_isIn "AttackBench" ∈ allw := List.mem_filter.mpr ⟨List.mem_of_getElem? (i := 393) (by decide +kernel), by decide +kernel⟩
theorem m_394 : Cond.methodLink "AttackBench$Rings" 26 y_Web_size ∈ allw := List.mem_filter.mpr ⟨List.mem_of_getElem? (i := 394) (by decide +kernel), by decide +kernel⟩
theorem m_395 : Cond.methodLink "AttackBench$Rings" 31 y_Rings_firstReady ∈ allw := List.mem_filter.mpr ⟨List.mem_of_getElem? (i := 395) (by decide +kernel), by decide +kernel⟩
theorem m_397 : Cond.instanceMethod y_Rings_firstReady ∈ allw := List.mem_filter.mpr ⟨List.mem_of_getElem? (i := 397) (by decide +kernel), by decide +kernel⟩
theorem m_398 : Cond.code y_Rings_firstReady k_Rings_firstReady 5 (some .int) ∈ allw := List.mem_filter.mpr ⟨List.mem_of_getElem? (i := 398) (by decide +kernel), by decide +kernel⟩
theorem m_399 : Cond.methodLink "AttackBench$Rings" 47 y_Rings_around ∈ allw := List.mem_filter.mpr ⟨List.mem_of_getElem? (i := 399) (by decide +kernel), by decide +kernel⟩
theorem m_401 : Cond.instanceMethod y_Rings_around ∈ allw := List.mem_filter.mpr ⟨List.mem_of_getElem? (i := 401) (by decide +kernel), by decide +kernel⟩
theorem m_402 : Cond.code y_Rings_around k_Rings_around 5 (some .int) ∈ allw := List.mem_filter.mpr ⟨List.mem_of_getElem? (i := 402) (by decide +kernel), by decide +kernel⟩
theorem m_403 : Cond.methodLink "AttackBench$Rings" 51 y_Web_attackersOf ∈ allw := List.mem_filter.mpr ⟨List.mem_of_getElem? (i := 403) (by decide +kernel), by decide +kernel⟩
theorem m_404 : Cond.instanceMethod y_Web_attackersOf ∈ allw := List.mem_filter.mpr ⟨List.mem_of_getElem? (i := 404) (by decide +kernel), by decide +kernel⟩
theorem m_405 : Cond.selects "AttackBench$Web" y_Web_attackersOf y_Web_attackersOf ∈ allw := List.mem_filter.mpr ⟨List.mem_of_getElem? (i := 405) (by decide +kernel), by decide +kernel⟩
theorem m_406 : Cond.code y_Web_attackersOf k_Web_attackersOf 4 (some .int) ∈ allw := List.mem_filter.mpr ⟨List.mem_of_getElem? (i := 406) (by decide +kernel), by decide +kernel⟩
theorem m_407 : Cond.methodLinkNest "AttackBench$Rings" 54 y_AB_isWithin "AttackBench" ∈ allw := List.mem_filter.mpr ⟨List.mem_of_getElem? (i := 407) (by decide +kernel), by decide +kernel⟩
theorem m_408 : Cond.methodLink "AttackBench$Rings" 35 y_Rings_number ∈ allw := List.mem_filter.mpr ⟨List.mem_of_getElem? (i := 408) (by decide +kernel), by decide +kernel⟩
theorem m_410 : Cond.instanceMethod y_Rings_number ∈ allw := List.mem_filter.mpr ⟨List.mem_of_getElem? (i := 410) (by decide +kernel), by decide +kernel⟩
theorem m_411 : Cond.code y_Rings_number k_Rings_number 3 none ∈ allw := List.mem_filter.mpr ⟨List.mem_of_getElem? (i := 411) (by decide +kernel), by decide +kernel⟩
theorem m_412 : Cond.methodLink "AttackBench" 163 y_Rings_ringOf ∈ allw := List.mem_filter.mpr ⟨List.mem_of_getElem? (i := 412) (by decide +kernel), by decide +kernel⟩
theorem m_413 : Cond.instanceMethod y_Rings_ringOf ∈ allw := List.mem_filter.mpr ⟨List.mem_of_getElem? (i := 413) (by decide +kernel), by decide +kernel⟩
theorem m_414 : Cond.selects "AttackBench$Rings" y_Rings_ringOf y_Rings_ringOf ∈ allw := List.mem_filter.mpr ⟨List.mem_of_getElem? (i := 414) (by decide +kernel), by decide +kernel⟩
theorem m_415 : Cond.code y_Rings_ringOf k_Rings_ringOf 2 (some .int) ∈ allw := List.mem_filter.mpr ⟨List.mem_of_getElem? (i := 415) (by decide +kernel), by decide +kernel⟩
theorem m_416 : Cond.methodLink "AttackBenchLaw" 130 y_AB_circles ∈ allw := List.mem_filter.mpr ⟨List.mem_of_getElem? (i := 416) (by decide +kernel), by decide +kernel⟩
theorem m_417 : Cond.instanceMethod y_AB_circles ∈ allw := List.mem_filter.mpr ⟨List.mem_of_getElem? (i := 417) (by decide +kernel), by decide +kernel⟩
theorem m_418 : Cond.selects "AttackBench" y_AB_circles y_AB_circles ∈ allw := List.mem_filter.mpr ⟨List.mem_of_getElem? (i := 418) (by decide +kernel), by decide +kernel⟩
theorem m_419 : Cond.code y_AB_circles k_AB_circles 1 (some .int) ∈ allw := List.mem_filter.mpr ⟨List.mem_of_getElem? (i := 419) (by decide +kernel), by decide +kernel⟩
theorem m_420 : Cond.methodLink "AttackBench" 166 y_Rings_size ∈ allw := List.mem_filter.mpr ⟨List.mem_of_getElem? (i := 420) (by decide +kernel), by decide +kernel⟩
theorem m_421 : Cond.instanceMethod y_Rings_size ∈ allw := List.mem_filter.mpr ⟨List.mem_of_getElem? (i := 421) (by decide +kernel), by decide +kernel⟩
theorem m_422 : Cond.selects "AttackBench$Rings" y_Rings_size y_Rings_size ∈ allw := List.mem_filter.mpr ⟨List.mem_of_getElem? (i := 422) (by decide +kernel), by decide +kernel⟩
theorem m_423 : Cond.code y_Rings_size k_Rings_size 1 (some .int) ∈ allw := List.mem_filter.mpr ⟨List.mem_of_getElem? (i := 423) (by decide +kernel), by decide +kernel⟩
theorem m_424 : Cond.methodLink "AttackBenchLaw" 95 y_Law_start ∈ allw := List.mem_filter.mpr ⟨List.mem_of_getElem? (i := 424) (by decide +kernel), by decide +kernel⟩
theorem m_425 : Cond.static y_Law_start ∈ allw := List.mem_filter.mpr ⟨List.mem_of_getElem? (i := 425) (by decide +kernel), by decide +kernel⟩
theorem m_427 : Cond.classLink "AttackBenchLaw" 13 "java/lang/IllegalArgumentException" ∈ allw := List.mem_filter.mpr ⟨List.mem_of_getElem? (i := 427) (by decide +kernel), by decide +kernel⟩
theorem m_428 : Cond.methodLink "AttackBenchLaw" 7 y_AB_start ∈ allw := List.mem_filter.mpr ⟨List.mem_of_getElem? (i := 428) (by decide +kernel), by decide +kernel⟩
theorem m_429 : Cond.instanceMethod y_AB_start ∈ allw := List.mem_filter.mpr ⟨List.mem_of_getElem? (i := 429) (by decide +kernel), by decide +kernel⟩
theorem m_430 : Cond.selects "AttackBench" y_AB_start y_AB_start ∈ allw := List.mem_filter.mpr ⟨List.mem_of_getElem? (i := 430) (by decide +kernel), by decide +kernel⟩
theorem m_431 : Cond.code y_AB_start k_AB_start 2 none ∈ allw := List.mem_filter.mpr ⟨List.mem_of_getElem? (i := 431) (by decide +kernel), by decide +kernel⟩
theorem m_432 : Cond.classLink "AttackBench" 112 "java/lang/IllegalArgumentException" ∈ allw := List.mem_filter.mpr ⟨List.mem_of_getElem? (i := 432) (by decide +kernel), by decide +kernel⟩
theorem m_433 : Cond.instantiable "java/lang/IllegalArgumentException" 6 ∈ allw := List.mem_filter.mpr ⟨List.mem_of_getElem? (i := 433) (by decide +kernel), by decide +kernel⟩
theorem m_473 : Cond.methodLink "AttackBench" 116 ⟨"java/lang/IllegalArgumentException", "<init>", "(Ljava/lang/String;)V"⟩ ∈ allw := List.mem_filter.mpr ⟨List.mem_of_getElem? (i := 473) (by decide +kernel), by decide +kernel⟩
theorem m_474 : Cond.instanceMethod ⟨"java/lang/IllegalArgumentException", "<init>", "(Ljava/lang/String;)V"⟩ ∈ allw := List.mem_filter.mpr ⟨List.mem_of_getElem? (i := 474) (by decide +kernel), by decide +kernel⟩
theorem m_498 : Cond.arrayClass .byte ∈ allw := List.mem_filter.mpr ⟨List.mem_of_getElem? (i := 498) (by decide +kernel), by decide +kernel⟩
theorem m_499 : Cond.methodLink "AttackBench" 119 y_Listing_begin ∈ allw := List.mem_filter.mpr ⟨List.mem_of_getElem? (i := 499) (by decide +kernel), by decide +kernel⟩
theorem m_500 : Cond.instanceMethod y_Listing_begin ∈ allw := List.mem_filter.mpr ⟨List.mem_of_getElem? (i := 500) (by decide +kernel), by decide +kernel⟩
theorem m_501 : Cond.selects "AttackBench$Listing" y_Listing_begin y_Listing_begin ∈ allw := List.mem_filter.mpr ⟨List.mem_of_getElem? (i := 501) (by decide +kernel), by decide +kernel⟩
theorem m_502 : Cond.code y_Listing_begin k_Listing_begin 2 none ∈ allw := List.mem_filter.mpr ⟨List.mem_of_getElem? (i := 502) (by decide +kernel), by decide +kernel⟩
theorem m_503 : Cond.methodLink "AttackBenchLaw" 104 y_Law_next ∈ allw := List.mem_filter.mpr ⟨List.mem_of_getElem? (i := 503) (by decide +kernel), by decide +kernel⟩
theorem m_504 : Cond.static y_Law_next ∈ allw := List.mem_filter.mpr ⟨List.mem_of_getElem? (i := 504) (by decide +kernel), by decide +kernel⟩
theorem m_506 : Cond.classLink "AttackBenchLaw" 19 "java/lang/IllegalStateException" ∈ allw := List.mem_filter.mpr ⟨List.mem_of_getElem? (i := 506) (by decide +kernel), by decide +kernel⟩
theorem m_507 : Cond.methodLink "AttackBenchLaw" 15 y_AB_next ∈ allw := List.mem_filter.mpr ⟨List.mem_of_getElem? (i := 507) (by decide +kernel), by decide +kernel⟩
theorem m_508 : Cond.instanceMethod y_AB_next ∈ allw := List.mem_filter.mpr ⟨List.mem_of_getElem? (i := 508) (by decide +kernel), by decide +kernel⟩
theorem m_509 : Cond.selects "AttackBench" y_AB_next y_AB_next ∈ allw := List.mem_filter.mpr ⟨List.mem_of_getElem? (i := 509) (by decide +kernel), by decide +kernel⟩
theorem m_510 : Cond.code y_AB_next k_AB_next 1 (some .int) ∈ allw := List.mem_filter.mpr ⟨List.mem_of_getElem? (i := 510) (by decide +kernel), by decide +kernel⟩
theorem m_511 : Cond.methodLink "AttackBench" 123 y_Listing_isOpen ∈ allw := List.mem_filter.mpr ⟨List.mem_of_getElem? (i := 511) (by decide +kernel), by decide +kernel⟩
theorem m_512 : Cond.instanceMethod y_Listing_isOpen ∈ allw := List.mem_filter.mpr ⟨List.mem_of_getElem? (i := 512) (by decide +kernel), by decide +kernel⟩
theorem m_513 : Cond.selects "AttackBench$Listing" y_Listing_isOpen y_Listing_isOpen ∈ allw := List.mem_filter.mpr ⟨List.mem_of_getElem? (i := 513) (by decide +kernel), by decide +kernel⟩
theorem m_514 : Cond.code y_Listing_isOpen k_Listing_isOpen 1 (some .boolean) ∈ allw := List.mem_filter.mpr ⟨List.mem_of_getElem? (i := 514) (by decide +kernel), by decide +kernel⟩
theorem m_515 : Cond.classLink "AttackBench" 127 "java/lang/IllegalStateException" ∈ allw := List.mem_filter.mpr ⟨List.mem_of_getElem? (i := 515) (by decide +kernel), by decide +kernel⟩
theorem m_516 : Cond.instantiable "java/lang/IllegalStateException" 6 ∈ allw := List.mem_filter.mpr ⟨List.mem_of_getElem? (i := 516) (by decide +kernel), by decide +kernel⟩
theorem m_525 : Cond.methodLink "AttackBench" 131 ⟨"java/lang/IllegalStateException", "<init>", "(Ljava/lang/String;)V"⟩ ∈ allw := List.mem_filter.mpr ⟨List.mem_of_getElem? (i := 525) (by decide +kernel), by decide +kernel⟩
theorem m_526 : Cond.instanceMethod ⟨"java/lang/IllegalStateException", "<init>", "(Ljava/lang/String;)V"⟩ ∈ allw := List.mem_filter.mpr ⟨List.mem_of_getElem? (i := 526) (by decide +kernel), by decide +kernel⟩
theorem m_531 : Cond.methodLink "AttackBench" 132 y_Listing_tell ∈ allw := List.mem_filter.mpr ⟨List.mem_of_getElem? (i := 531) (by decide +kernel), by decide +kernel⟩
theorem m_532 : Cond.instanceMethod y_Listing_tell ∈ allw := List.mem_filter.mpr ⟨List.mem_of_getElem? (i := 532) (by decide +kernel), by decide +kernel⟩
theorem m_533 : Cond.selects "AttackBench$Listing" y_Listing_tell y_Listing_tell ∈ allw := List.mem_filter.mpr ⟨List.mem_of_getElem? (i := 533) (by decide +kernel), by decide +kernel⟩
theorem m_534 : Cond.code y_Listing_tell k_Listing_tell 3 (some .int) ∈ allw := List.mem_filter.mpr ⟨List.mem_of_getElem? (i := 534) (by decide +kernel), by decide +kernel⟩
theorem m_535 : Cond.methodLink "AttackBench$Listing" 25 y_Senses_everything ∈ allw := List.mem_filter.mpr ⟨List.mem_of_getElem? (i := 535) (by decide +kernel), by decide +kernel⟩
theorem m_536 : Cond.instanceMethod y_Senses_everything ∈ allw := List.mem_filter.mpr ⟨List.mem_of_getElem? (i := 536) (by decide +kernel), by decide +kernel⟩
theorem m_537 : Cond.selects "AttackBench$Senses" y_Senses_everything y_Senses_everything ∈ allw := List.mem_filter.mpr ⟨List.mem_of_getElem? (i := 537) (by decide +kernel), by decide +kernel⟩
theorem m_538 : Cond.code y_Senses_everything k_Senses_everything 1 (some .int) ∈ allw := List.mem_filter.mpr ⟨List.mem_of_getElem? (i := 538) (by decide +kernel), by decide +kernel⟩
theorem m_539 : Cond.methodLink "AttackBench$Listing" 31 y_Senses_isOf ∈ allw := List.mem_filter.mpr ⟨List.mem_of_getElem? (i := 539) (by decide +kernel), by decide +kernel⟩
theorem m_540 : Cond.methodLink "AttackBench$Listing" 35 y_Listing_end ∈ allw := List.mem_filter.mpr ⟨List.mem_of_getElem? (i := 540) (by decide +kernel), by decide +kernel⟩
theorem m_541 : Cond.methodLink "AttackBenchLaw" 108 y_Law_label ∈ allw := List.mem_filter.mpr ⟨List.mem_of_getElem? (i := 541) (by decide +kernel), by decide +kernel⟩
theorem m_542 : Cond.static y_Law_label ∈ allw := List.mem_filter.mpr ⟨List.mem_of_getElem? (i := 542) (by decide +kernel), by decide +kernel⟩
theorem m_544 : Cond.methodLink "AttackBenchLaw" 21 y_AB_label ∈ allw := List.mem_filter.mpr ⟨List.mem_of_getElem? (i := 544) (by decide +kernel), by decide +kernel⟩
theorem m_545 : Cond.instanceMethod y_AB_label ∈ allw := List.mem_filter.mpr ⟨List.mem_of_getElem? (i := 545) (by decide +kernel), by decide +kernel⟩
theorem m_546 : Cond.selects "AttackBench" y_AB_label y_AB_label ∈ allw := List.mem_filter.mpr ⟨List.mem_of_getElem? (i := 546) (by decide +kernel), by decide +kernel⟩
theorem m_547 : Cond.code y_AB_label k_AB_label 3 (some .int) ∈ allw := List.mem_filter.mpr ⟨List.mem_of_getElem? (i := 547) (by decide +kernel), by decide +kernel⟩
theorem m_549 : Cond.methodLink "AttackBench" 138 y_Listing_told ∈ allw := List.mem_filter.mpr ⟨List.mem_of_getElem? (i := 549) (by decide +kernel), by decide +kernel⟩
theorem m_550 : Cond.instanceMethod y_Listing_told ∈ allw := List.mem_filter.mpr ⟨List.mem_of_getElem? (i := 550) (by decide +kernel), by decide +kernel⟩
theorem m_551 : Cond.selects "AttackBench$Listing" y_Listing_told y_Listing_told ∈ allw := List.mem_filter.mpr ⟨List.mem_of_getElem? (i := 551) (by decide +kernel), by decide +kernel⟩
theorem m_552 : Cond.code y_Listing_told k_Listing_told 1 (some .int) ∈ allw := List.mem_filter.mpr ⟨List.mem_of_getElem? (i := 552) (by decide +kernel), by decide +kernel⟩
theorem m_554 : Cond.methodLink "AttackBench" 143 y_AB_isIn ∈ allw := List.mem_filter.mpr ⟨List.mem_of_getElem? (i := 554) (by decide +kernel), by decide +kernel⟩
theorem m_555 : Cond.methodLink "AttackBenchLaw" 112 y_Law_count ∈ allw := List.mem_filter.mpr ⟨List.mem_of_getElem? (i := 555) (by decide +kernel), by decide +kernel⟩
theorem m_556 : Cond.static y_Law_count ∈ allw := List.mem_filter.mpr ⟨List.mem_of_getElem? (i := 556) (by decide +kernel), by decide +kernel⟩
theorem m_558 : Cond.methodLink "AttackBenchLaw" 25 y_AB_count ∈ allw := List.mem_filter.mpr ⟨List.mem_of_getElem? (i := 558) (by decide +kernel), by decide +kernel⟩
theorem m_559 : Cond.instanceMethod y_AB_count ∈ allw := List.mem_filter.mpr ⟨List.mem_of_getElem? (i := 559) (by decide +kernel), by decide +kernel⟩
theorem m_560 : Cond.selects "AttackBench" y_AB_count y_AB_count ∈ allw := List.mem_filter.mpr ⟨List.mem_of_getElem? (i := 560) (by decide +kernel), by decide +kernel⟩
theorem m_561 : Cond.code y_AB_count k_AB_count 2 (some .int) ∈ allw := List.mem_filter.mpr ⟨List.mem_of_getElem? (i := 561) (by decide +kernel), by decide +kernel⟩
theorem m_562 : Cond.methodLink "AttackBench" 146 y_Senses_tally ∈ allw := List.mem_filter.mpr ⟨List.mem_of_getElem? (i := 562) (by decide +kernel), by decide +kernel⟩
theorem m_563 : Cond.instanceMethod y_Senses_tally ∈ allw := List.mem_filter.mpr ⟨List.mem_of_getElem? (i := 563) (by decide +kernel), by decide +kernel⟩
theorem m_564 : Cond.selects "AttackBench$Senses" y_Senses_tally y_Senses_tally ∈ allw := List.mem_filter.mpr ⟨List.mem_of_getElem? (i := 564) (by decide +kernel), by decide +kernel⟩
theorem m_565 : Cond.code y_Senses_tally k_Senses_tally 4 (some .int) ∈ allw := List.mem_filter.mpr ⟨List.mem_of_getElem? (i := 565) (by decide +kernel), by decide +kernel⟩
theorem m_566 : Cond.methodLink "AttackBenchLaw" 115 y_Law_holds ∈ allw := List.mem_filter.mpr ⟨List.mem_of_getElem? (i := 566) (by decide +kernel), by decide +kernel⟩
theorem m_567 : Cond.static y_Law_holds ∈ allw := List.mem_filter.mpr ⟨List.mem_of_getElem? (i := 567) (by decide +kernel), by decide +kernel⟩
theorem m_569 : Cond.methodLink "AttackBenchLaw" 28 y_AB_holds ∈ allw := List.mem_filter.mpr ⟨List.mem_of_getElem? (i := 569) (by decide +kernel), by decide +kernel⟩
theorem m_570 : Cond.instanceMethod y_AB_holds ∈ allw := List.mem_filter.mpr ⟨List.mem_of_getElem? (i := 570) (by decide +kernel), by decide +kernel⟩
theorem m_571 : Cond.selects "AttackBench" y_AB_holds y_AB_holds ∈ allw := List.mem_filter.mpr ⟨List.mem_of_getElem? (i := 571) (by decide +kernel), by decide +kernel⟩
theorem m_572 : Cond.code y_AB_holds k_AB_holds 4 (some .boolean) ∈ allw := List.mem_filter.mpr ⟨List.mem_of_getElem? (i := 572) (by decide +kernel), by decide +kernel⟩
theorem m_574 : Cond.methodLink "AttackBench" 151 y_Web_everything ∈ allw := List.mem_filter.mpr ⟨List.mem_of_getElem? (i := 574) (by decide +kernel), by decide +kernel⟩
theorem m_575 : Cond.methodLink "AttackBenchLaw" 119 y_Law_dialogue ∈ allw := List.mem_filter.mpr ⟨List.mem_of_getElem? (i := 575) (by decide +kernel), by decide +kernel⟩
theorem m_576 : Cond.static y_Law_dialogue ∈ allw := List.mem_filter.mpr ⟨List.mem_of_getElem? (i := 576) (by decide +kernel), by decide +kernel⟩
theorem m_578 : Cond.methodLink "AttackBenchLaw" 32 y_AB_dialogue ∈ allw := List.mem_filter.mpr ⟨List.mem_of_getElem? (i := 578) (by decide +kernel), by decide +kernel⟩
theorem m_579 : Cond.instanceMethod y_AB_dialogue ∈ allw := List.mem_filter.mpr ⟨List.mem_of_getElem? (i := 579) (by decide +kernel), by decide +kernel⟩
theorem m_580 : Cond.selects "AttackBench" y_AB_dialogue y_AB_dialogue ∈ allw := List.mem_filter.mpr ⟨List.mem_of_getElem? (i := 580) (by decide +kernel), by decide +kernel⟩
theorem m_581 : Cond.code y_AB_dialogue k_AB_dialogue 2 (some .int) ∈ allw := List.mem_filter.mpr ⟨List.mem_of_getElem? (i := 581) (by decide +kernel), by decide +kernel⟩
theorem m_582 : Cond.methodLink "AttackBench" 154 y_Talk_about ∈ allw := List.mem_filter.mpr ⟨List.mem_of_getElem? (i := 582) (by decide +kernel), by decide +kernel⟩
theorem m_583 : Cond.instanceMethod y_Talk_about ∈ allw := List.mem_filter.mpr ⟨List.mem_of_getElem? (i := 583) (by decide +kernel), by decide +kernel⟩
theorem m_584 : Cond.selects "AttackBench$Talk" y_Talk_about y_Talk_about ∈ allw := List.mem_filter.mpr ⟨List.mem_of_getElem? (i := 584) (by decide +kernel), by decide +kernel⟩
theorem m_585 : Cond.code y_Talk_about k_Talk_about 4 (some .int) ∈ allw := List.mem_filter.mpr ⟨List.mem_of_getElem? (i := 585) (by decide +kernel), by decide +kernel⟩
theorem m_586 : Cond.methodLink "AttackBench$Talk" 29 y_Grounds_roundOf ∈ allw := List.mem_filter.mpr ⟨List.mem_of_getElem? (i := 586) (by decide +kernel), by decide +kernel⟩
theorem m_587 : Cond.methodLink "AttackBench$Talk" 35 y_Talk_defend ∈ allw := List.mem_filter.mpr ⟨List.mem_of_getElem? (i := 587) (by decide +kernel), by decide +kernel⟩
theorem m_589 : Cond.instanceMethod y_Talk_defend ∈ allw := List.mem_filter.mpr ⟨List.mem_of_getElem? (i := 589) (by decide +kernel), by decide +kernel⟩
theorem m_590 : Cond.code y_Talk_defend k_Talk_defend 10 none ∈ allw := List.mem_filter.mpr ⟨List.mem_of_getElem? (i := 590) (by decide +kernel), by decide +kernel⟩
theorem m_591 : Cond.methodLink "AttackBench$Talk" 39 y_Talk_say ∈ allw := List.mem_filter.mpr ⟨List.mem_of_getElem? (i := 591) (by decide +kernel), by decide +kernel⟩
theorem m_593 : Cond.instanceMethod y_Talk_say ∈ allw := List.mem_filter.mpr ⟨List.mem_of_getElem? (i := 593) (by decide +kernel), by decide +kernel⟩
theorem m_594 : Cond.code y_Talk_say k_Talk_say 4 (some .int) ∈ allw := List.mem_filter.mpr ⟨List.mem_of_getElem? (i := 594) (by decide +kernel), by decide +kernel⟩
theorem m_595 : Cond.methodLink "AttackBench$Talk" 43 y_Web_attackersOfOne ∈ allw := List.mem_filter.mpr ⟨List.mem_of_getElem? (i := 595) (by decide +kernel), by decide +kernel⟩
theorem m_596 : Cond.instanceMethod y_Web_attackersOfOne ∈ allw := List.mem_filter.mpr ⟨List.mem_of_getElem? (i := 596) (by decide +kernel), by decide +kernel⟩
theorem m_597 : Cond.selects "AttackBench$Web" y_Web_attackersOfOne y_Web_attackersOfOne ∈ allw := List.mem_filter.mpr ⟨List.mem_of_getElem? (i := 597) (by decide +kernel), by decide +kernel⟩
theorem m_598 : Cond.code y_Web_attackersOfOne k_Web_attackersOfOne 2 (some .int) ∈ allw := List.mem_filter.mpr ⟨List.mem_of_getElem? (i := 598) (by decide +kernel), by decide +kernel⟩
theorem m_599 : Cond.methodLinkNest "AttackBench$Talk" 48 y_AB_isIn "AttackBench" ∈ allw := List.mem_filter.mpr ⟨List.mem_of_getElem? (i := 599) (by decide +kernel), by decide +kernel⟩
theorem m_600 : Cond.methodLink "AttackBench$Talk" 52 y_Grounds_earliestIn ∈ allw := List.mem_filter.mpr ⟨List.mem_of_getElem? (i := 600) (by decide +kernel), by decide +kernel⟩
theorem m_601 : Cond.instanceMethod y_Grounds_earliestIn ∈ allw := List.mem_filter.mpr ⟨List.mem_of_getElem? (i := 601) (by decide +kernel), by decide +kernel⟩
theorem m_602 : Cond.selects "AttackBench$Grounds" y_Grounds_earliestIn y_Grounds_earliestIn ∈ allw := List.mem_filter.mpr ⟨List.mem_of_getElem? (i := 602) (by decide +kernel), by decide +kernel⟩
theorem m_603 : Cond.code y_Grounds_earliestIn k_Grounds_earliestIn 4 (some .int) ∈ allw := List.mem_filter.mpr ⟨List.mem_of_getElem? (i := 603) (by decide +kernel), by decide +kernel⟩
theorem m_604 : Cond.methodLink "AttackBench$Grounds" 33 y_Grounds_roundOf ∈ allw := List.mem_filter.mpr ⟨List.mem_of_getElem? (i := 604) (by decide +kernel), by decide +kernel⟩
theorem m_605 : Cond.classLink "AttackBenchLaw" 36 "AttackBenchModel" ∈ allw := List.mem_filter.mpr ⟨List.mem_of_getElem? (i := 605) (by decide +kernel), by decide +kernel⟩
theorem m_606 : Cond.instantiable "AttackBenchModel" 25 ∈ allw := List.mem_filter.mpr ⟨List.mem_of_getElem? (i := 606) (by decide +kernel), by decide +kernel⟩
theorem m_607 : Cond.methodLink "AttackBenchLaw" 38 y_Mo_init ∈ allw := List.mem_filter.mpr ⟨List.mem_of_getElem? (i := 607) (by decide +kernel), by decide +kernel⟩
theorem m_608 : Cond.instanceMethod y_Mo_init ∈ allw := List.mem_filter.mpr ⟨List.mem_of_getElem? (i := 608) (by decide +kernel), by decide +kernel⟩
theorem m_609 : Cond.code y_Mo_init k_Mo_init 1 none ∈ allw := List.mem_filter.mpr ⟨List.mem_of_getElem? (i := 609) (by decide +kernel), by decide +kernel⟩
theorem m_610 : Cond.methodLink "AttackBenchModel" 1 objectInit ∈ allw := List.mem_filter.mpr ⟨List.mem_of_getElem? (i := 610) (by decide +kernel), by decide +kernel⟩
theorem m_611 : Cond.fieldLink "AttackBenchModel" 57 "AttackBenchModel" "thrown" "I" ∈ allw := List.mem_filter.mpr ⟨List.mem_of_getElem? (i := 611) (by decide +kernel), by decide +kernel⟩
theorem m_612 : Cond.fieldLink "AttackBenchModel" 61 "AttackBenchModel" "n" "I" ∈ allw := List.mem_filter.mpr ⟨List.mem_of_getElem? (i := 612) (by decide +kernel), by decide +kernel⟩
theorem m_613 : Cond.fieldLink "AttackBenchModel" 7 "AttackBenchModel" "out" "[I" ∈ allw := List.mem_filter.mpr ⟨List.mem_of_getElem? (i := 613) (by decide +kernel), by decide +kernel⟩
theorem m_614 : Cond.fieldLink "AttackBenchModel" 13 "AttackBenchModel" "in" "[I" ∈ allw := List.mem_filter.mpr ⟨List.mem_of_getElem? (i := 614) (by decide +kernel), by decide +kernel⟩
theorem m_615 : Cond.fieldLink "AttackBenchModel" 16 "AttackBenchModel" "hits" "[I" ∈ allw := List.mem_filter.mpr ⟨List.mem_of_getElem? (i := 615) (by decide +kernel), by decide +kernel⟩
theorem m_616 : Cond.fieldLink "AttackBenchModel" 19 "AttackBenchModel" "kinds" "[B" ∈ allw := List.mem_filter.mpr ⟨List.mem_of_getElem? (i := 616) (by decide +kernel), by decide +kernel⟩
theorem m_617 : Cond.fieldLink "AttackBenchModel" 23 "AttackBenchModel" "here" "[Z" ∈ allw := List.mem_filter.mpr ⟨List.mem_of_getElem? (i := 617) (by decide +kernel), by decide +kernel⟩
theorem m_618 : Cond.fieldLink "AttackBenchModel" 27 "AttackBenchModel" "above" "[Z" ∈ allw := List.mem_filter.mpr ⟨List.mem_of_getElem? (i := 618) (by decide +kernel), by decide +kernel⟩
theorem m_619 : Cond.fieldLink "AttackBenchModel" 67 "AttackBenchModel" "known" "Z" ∈ allw := List.mem_filter.mpr ⟨List.mem_of_getElem? (i := 619) (by decide +kernel), by decide +kernel⟩
theorem m_620 : Cond.fieldLink "AttackBenchModel" 71 "AttackBenchModel" "listing" "Z" ∈ allw := List.mem_filter.mpr ⟨List.mem_of_getElem? (i := 620) (by decide +kernel), by decide +kernel⟩
theorem m_621 : Cond.fieldLink "AttackBenchModel" 74 "AttackBenchModel" "told" "Z" ∈ allw := List.mem_filter.mpr ⟨List.mem_of_getElem? (i := 621) (by decide +kernel), by decide +kernel⟩
theorem m_622 : Cond.fieldLink "AttackBenchModel" 122 "AttackBenchModel" "listed" "I" ∈ allw := List.mem_filter.mpr ⟨List.mem_of_getElem? (i := 622) (by decide +kernel), by decide +kernel⟩
theorem m_623 : Cond.fieldLink "AttackBenchModel" 125 "AttackBenchModel" "latest" "I" ∈ allw := List.mem_filter.mpr ⟨List.mem_of_getElem? (i := 623) (by decide +kernel), by decide +kernel⟩
theorem m_624 : Cond.fieldLink "AttackBenchModel" 30 "AttackBenchModel" "rounds" "[I" ∈ allw := List.mem_filter.mpr ⟨List.mem_of_getElem? (i := 624) (by decide +kernel), by decide +kernel⟩
theorem m_625 : Cond.fieldLink "AttackBenchModel" 106 "AttackBenchModel" "ground" "I" ∈ allw := List.mem_filter.mpr ⟨List.mem_of_getElem? (i := 625) (by decide +kernel), by decide +kernel⟩
theorem m_626 : Cond.fieldLink "AttackBenchModel" 131 "AttackBenchModel" "moves" "I" ∈ allw := List.mem_filter.mpr ⟨List.mem_of_getElem? (i := 626) (by decide +kernel), by decide +kernel⟩
theorem m_627 : Cond.fieldLink "AttackBenchModel" 33 "AttackBenchModel" "says" "[I" ∈ allw := List.mem_filter.mpr ⟨List.mem_of_getElem? (i := 627) (by decide +kernel), by decide +kernel⟩
theorem m_628 : Cond.fieldLink "AttackBenchModel" 36 "AttackBenchModel" "answers" "[I" ∈ allw := List.mem_filter.mpr ⟨List.mem_of_getElem? (i := 628) (by decide +kernel), by decide +kernel⟩
theorem m_629 : Cond.fieldLink "AttackBenchModel" 39 "AttackBenchModel" "sides" "[I" ∈ allw := List.mem_filter.mpr ⟨List.mem_of_getElem? (i := 629) (by decide +kernel), by decide +kernel⟩
theorem m_630 : Cond.fieldLink "AttackBenchModel" 42 "AttackBenchModel" "laterSays" "[I" ∈ allw := List.mem_filter.mpr ⟨List.mem_of_getElem? (i := 630) (by decide +kernel), by decide +kernel⟩
theorem m_631 : Cond.fieldLink "AttackBenchModel" 45 "AttackBenchModel" "laterAnswers" "[I" ∈ allw := List.mem_filter.mpr ⟨List.mem_of_getElem? (i := 631) (by decide +kernel), by decide +kernel⟩
theorem m_632 : Cond.fieldLink "AttackBenchModel" 48 "AttackBenchModel" "laterSides" "[I" ∈ allw := List.mem_filter.mpr ⟨List.mem_of_getElem? (i := 632) (by decide +kernel), by decide +kernel⟩
theorem m_633 : Cond.fieldLink "AttackBenchModel" 128 "AttackBenchModel" "later" "I" ∈ allw := List.mem_filter.mpr ⟨List.mem_of_getElem? (i := 633) (by decide +kernel), by decide +kernel⟩
theorem m_634 : Cond.fieldLink "AttackBenchModel" 51 "AttackBenchModel" "reach" "[I" ∈ allw := List.mem_filter.mpr ⟨List.mem_of_getElem? (i := 634) (by decide +kernel), by decide +kernel⟩
theorem m_635 : Cond.fieldLink "AttackBenchModel" 54 "AttackBenchModel" "circles" "[I" ∈ allw := List.mem_filter.mpr ⟨List.mem_of_getElem? (i := 635) (by decide +kernel), by decide +kernel⟩
theorem m_687 : Cond.arrayClass .boolean ∈ allw := List.mem_filter.mpr ⟨List.mem_of_getElem? (i := 687) (by decide +kernel), by decide +kernel⟩
theorem m_688 : Cond.methodLink "AttackBenchLaw" 101 y_Mo_thrown ∈ allw := List.mem_filter.mpr ⟨List.mem_of_getElem? (i := 688) (by decide +kernel), by decide +kernel⟩
theorem m_689 : Cond.instanceMethod y_Mo_thrown ∈ allw := List.mem_filter.mpr ⟨List.mem_of_getElem? (i := 689) (by decide +kernel), by decide +kernel⟩
theorem m_690 : Cond.selects "AttackBenchModel" y_Mo_thrown y_Mo_thrown ∈ allw := List.mem_filter.mpr ⟨List.mem_of_getElem? (i := 690) (by decide +kernel), by decide +kernel⟩
theorem m_691 : Cond.code y_Mo_thrown k_Mo_thrown 1 (some .int) ∈ allw := List.mem_filter.mpr ⟨List.mem_of_getElem? (i := 691) (by decide +kernel), by decide +kernel⟩
theorem m_692 : Cond.methodLink "AttackBenchLaw" 42 y_Mo_claim ∈ allw := List.mem_filter.mpr ⟨List.mem_of_getElem? (i := 692) (by decide +kernel), by decide +kernel⟩
theorem m_693 : Cond.instanceMethod y_Mo_claim ∈ allw := List.mem_filter.mpr ⟨List.mem_of_getElem? (i := 693) (by decide +kernel), by decide +kernel⟩
theorem m_694 : Cond.selects "AttackBenchModel" y_Mo_claim y_Mo_claim ∈ allw := List.mem_filter.mpr ⟨List.mem_of_getElem? (i := 694) (by decide +kernel), by decide +kernel⟩
theorem m_695 : Cond.code y_Mo_claim k_Mo_claim 1 (some .int) ∈ allw := List.mem_filter.mpr ⟨List.mem_of_getElem? (i := 695) (by decide +kernel), by decide +kernel⟩
theorem m_696 : Cond.methodLink "AttackBenchModel" 77 y_Mo_comes ∈ allw := List.mem_filter.mpr ⟨List.mem_of_getElem? (i := 696) (by decide +kernel), by decide +kernel⟩
theorem m_698 : Cond.instanceMethod y_Mo_comes ∈ allw := List.mem_filter.mpr ⟨List.mem_of_getElem? (i := 698) (by decide +kernel), by decide +kernel⟩
theorem m_699 : Cond.code y_Mo_comes k_Mo_comes 1 (some .int) ∈ allw := List.mem_filter.mpr ⟨List.mem_of_getElem? (i := 699) (by decide +kernel), by decide +kernel⟩
theorem m_700 : Cond.methodLink "AttackBenchModel" 64 y_Mo_changes ∈ allw := List.mem_filter.mpr ⟨List.mem_of_getElem? (i := 700) (by decide +kernel), by decide +kernel⟩
theorem m_702 : Cond.instanceMethod y_Mo_changes ∈ allw := List.mem_filter.mpr ⟨List.mem_of_getElem? (i := 702) (by decide +kernel), by decide +kernel⟩
theorem m_703 : Cond.code y_Mo_changes k_Mo_changes 1 none ∈ allw := List.mem_filter.mpr ⟨List.mem_of_getElem? (i := 703) (by decide +kernel), by decide +kernel⟩
theorem m_704 : Cond.methodLink "AttackBenchLaw" 46 y_Mo_attack ∈ allw := List.mem_filter.mpr ⟨List.mem_of_getElem? (i := 704) (by decide +kernel), by decide +kernel⟩
theorem m_705 : Cond.instanceMethod y_Mo_attack ∈ allw := List.mem_filter.mpr ⟨List.mem_of_getElem? (i := 705) (by decide +kernel), by decide +kernel⟩
theorem m_706 : Cond.selects "AttackBenchModel" y_Mo_attack y_Mo_attack ∈ allw := List.mem_filter.mpr ⟨List.mem_of_getElem? (i := 706) (by decide +kernel), by decide +kernel⟩
theorem m_707 : Cond.code y_Mo_attack k_Mo_attack 4 (some .boolean) ∈ allw := List.mem_filter.mpr ⟨List.mem_of_getElem? (i := 707) (by decide +kernel), by decide +kernel⟩
theorem m_708 : Cond.methodLink "AttackBenchModel" 81 y_Mo_isArgument ∈ allw := List.mem_filter.mpr ⟨List.mem_of_getElem? (i := 708) (by decide +kernel), by decide +kernel⟩
theorem m_710 : Cond.instanceMethod y_Mo_isArgument ∈ allw := List.mem_filter.mpr ⟨List.mem_of_getElem? (i := 710) (by decide +kernel), by decide +kernel⟩
theorem m_711 : Cond.code y_Mo_isArgument k_Mo_isArgument 2 (some .boolean) ∈ allw := List.mem_filter.mpr ⟨List.mem_of_getElem? (i := 711) (by decide +kernel), by decide +kernel⟩
theorem m_712 : Cond.methodLink "AttackBenchModel" 85 y_Mo_sets ∈ allw := List.mem_filter.mpr ⟨List.mem_of_getElem? (i := 712) (by decide +kernel), by decide +kernel⟩
theorem m_714 : Cond.instanceMethod y_Mo_sets ∈ allw := List.mem_filter.mpr ⟨List.mem_of_getElem? (i := 714) (by decide +kernel), by decide +kernel⟩
theorem m_715 : Cond.code y_Mo_sets k_Mo_sets 4 none ∈ allw := List.mem_filter.mpr ⟨List.mem_of_getElem? (i := 715) (by decide +kernel), by decide +kernel⟩
theorem m_716 : Cond.methodLink "AttackBenchLaw" 51 y_Mo_attacks ∈ allw := List.mem_filter.mpr ⟨List.mem_of_getElem? (i := 716) (by decide +kernel), by decide +kernel⟩
theorem m_717 : Cond.instanceMethod y_Mo_attacks ∈ allw := List.mem_filter.mpr ⟨List.mem_of_getElem? (i := 717) (by decide +kernel), by decide +kernel⟩
theorem m_718 : Cond.selects "AttackBenchModel" y_Mo_attacks y_Mo_attacks ∈ allw := List.mem_filter.mpr ⟨List.mem_of_getElem? (i := 718) (by decide +kernel), by decide +kernel⟩
theorem m_719 : Cond.code y_Mo_attacks k_Mo_attacks 3 (some .boolean) ∈ allw := List.mem_filter.mpr ⟨List.mem_of_getElem? (i := 719) (by decide +kernel), by decide +kernel⟩
theorem m_720 : Cond.methodLink "AttackBenchLaw" 56 y_Mo_joint ∈ allw := List.mem_filter.mpr ⟨List.mem_of_getElem? (i := 720) (by decide +kernel), by decide +kernel⟩
theorem m_721 : Cond.instanceMethod y_Mo_joint ∈ allw := List.mem_filter.mpr ⟨List.mem_of_getElem? (i := 721) (by decide +kernel), by decide +kernel⟩
theorem m_722 : Cond.selects "AttackBenchModel" y_Mo_joint y_Mo_joint ∈ allw := List.mem_filter.mpr ⟨List.mem_of_getElem? (i := 722) (by decide +kernel), by decide +kernel⟩
theorem m_723 : Cond.code y_Mo_joint k_Mo_joint 7 (some .int) ∈ allw := List.mem_filter.mpr ⟨List.mem_of_getElem? (i := 723) (by decide +kernel), by decide +kernel⟩
theorem m_724 : Cond.methodLink "AttackBenchLaw" 61 y_Mo_support ∈ allw := List.mem_filter.mpr ⟨List.mem_of_getElem? (i := 724) (by decide +kernel), by decide +kernel⟩
theorem m_725 : Cond.instanceMethod y_Mo_support ∈ allw := List.mem_filter.mpr ⟨List.mem_of_getElem? (i := 725) (by decide +kernel), by decide +kernel⟩
theorem m_726 : Cond.selects "AttackBenchModel" y_Mo_support y_Mo_support ∈ allw := List.mem_filter.mpr ⟨List.mem_of_getElem? (i := 726) (by decide +kernel), by decide +kernel⟩
theorem m_727 : Cond.code y_Mo_support k_Mo_support 4 (some .int) ∈ allw := List.mem_filter.mpr ⟨List.mem_of_getElem? (i := 727) (by decide +kernel), by decide +kernel⟩
theorem m_728 : Cond.methodLink "AttackBenchLaw" 65 y_Mo_arguments ∈ allw := List.mem_filter.mpr ⟨List.mem_of_getElem? (i := 728) (by decide +kernel), by decide +kernel⟩
theorem m_729 : Cond.instanceMethod y_Mo_arguments ∈ allw := List.mem_filter.mpr ⟨List.mem_of_getElem? (i := 729) (by decide +kernel), by decide +kernel⟩
theorem m_730 : Cond.selects "AttackBenchModel" y_Mo_arguments y_Mo_arguments ∈ allw := List.mem_filter.mpr ⟨List.mem_of_getElem? (i := 730) (by decide +kernel), by decide +kernel⟩
theorem m_731 : Cond.code y_Mo_arguments k_Mo_arguments 1 (some .int) ∈ allw := List.mem_filter.mpr ⟨List.mem_of_getElem? (i := 731) (by decide +kernel), by decide +kernel⟩
theorem m_732 : Cond.methodLink "AttackBenchLaw" 70 y_Mo_isFree ∈ allw := List.mem_filter.mpr ⟨List.mem_of_getElem? (i := 732) (by decide +kernel), by decide +kernel⟩
theorem m_733 : Cond.instanceMethod y_Mo_isFree ∈ allw := List.mem_filter.mpr ⟨List.mem_of_getElem? (i := 733) (by decide +kernel), by decide +kernel⟩
theorem m_734 : Cond.selects "AttackBenchModel" y_Mo_isFree y_Mo_isFree ∈ allw := List.mem_filter.mpr ⟨List.mem_of_getElem? (i := 734) (by decide +kernel), by decide +kernel⟩
theorem m_735 : Cond.code y_Mo_isFree k_Mo_isFree 2 (some .boolean) ∈ allw := List.mem_filter.mpr ⟨List.mem_of_getElem? (i := 735) (by decide +kernel), by decide +kernel⟩
theorem m_736 : Cond.methodLink "AttackBenchModel" 109 y_Mo_reckon ∈ allw := List.mem_filter.mpr ⟨List.mem_of_getElem? (i := 736) (by decide +kernel), by decide +kernel⟩
theorem m_738 : Cond.instanceMethod y_Mo_reckon ∈ allw := List.mem_filter.mpr ⟨List.mem_of_getElem? (i := 738) (by decide +kernel), by decide +kernel⟩
theorem m_739 : Cond.code y_Mo_reckon k_Mo_reckon 4 none ∈ allw := List.mem_filter.mpr ⟨List.mem_of_getElem? (i := 739) (by decide +kernel), by decide +kernel⟩
theorem m_740 : Cond.methodLink "AttackBenchModel" 89 y_Mo_defended ∈ allw := List.mem_filter.mpr ⟨List.mem_of_getElem? (i := 740) (by decide +kernel), by decide +kernel⟩
theorem m_742 : Cond.instanceMethod y_Mo_defended ∈ allw := List.mem_filter.mpr ⟨List.mem_of_getElem? (i := 742) (by decide +kernel), by decide +kernel⟩
theorem m_743 : Cond.code y_Mo_defended k_Mo_defended 4 (some .int) ∈ allw := List.mem_filter.mpr ⟨List.mem_of_getElem? (i := 743) (by decide +kernel), by decide +kernel⟩
theorem m_744 : Cond.methodLink "AttackBenchModel" 93 y_Mo_isFreeSet ∈ allw := List.mem_filter.mpr ⟨List.mem_of_getElem? (i := 744) (by decide +kernel), by decide +kernel⟩
theorem m_746 : Cond.instanceMethod y_Mo_isFreeSet ∈ allw := List.mem_filter.mpr ⟨List.mem_of_getElem? (i := 746) (by decide +kernel), by decide +kernel⟩
theorem m_747 : Cond.code y_Mo_isFreeSet k_Mo_isFreeSet 2 (some .boolean) ∈ allw := List.mem_filter.mpr ⟨List.mem_of_getElem? (i := 747) (by decide +kernel), by decide +kernel⟩
theorem m_748 : Cond.methodLink "AttackBenchModel" 96 y_Mo_adds ∈ allw := List.mem_filter.mpr ⟨List.mem_of_getElem? (i := 748) (by decide +kernel), by decide +kernel⟩
theorem m_750 : Cond.instanceMethod y_Mo_adds ∈ allw := List.mem_filter.mpr ⟨List.mem_of_getElem? (i := 750) (by decide +kernel), by decide +kernel⟩
theorem m_751 : Cond.code y_Mo_adds k_Mo_adds 3 none ∈ allw := List.mem_filter.mpr ⟨List.mem_of_getElem? (i := 751) (by decide +kernel), by decide +kernel⟩
theorem m_752 : Cond.methodLink "AttackBenchModel" 100 y_Mo_looksAbove ∈ allw := List.mem_filter.mpr ⟨List.mem_of_getElem? (i := 752) (by decide +kernel), by decide +kernel⟩
theorem m_754 : Cond.instanceMethod y_Mo_looksAbove ∈ allw := List.mem_filter.mpr ⟨List.mem_of_getElem? (i := 754) (by decide +kernel), by decide +kernel⟩
theorem m_755 : Cond.code y_Mo_looksAbove k_Mo_looksAbove 4 none ∈ allw := List.mem_filter.mpr ⟨List.mem_of_getElem? (i := 755) (by decide +kernel), by decide +kernel⟩
theorem m_756 : Cond.methodLink "AttackBenchModel" 103 y_Mo_goesRound ∈ allw := List.mem_filter.mpr ⟨List.mem_of_getElem? (i := 756) (by decide +kernel), by decide +kernel⟩
theorem m_758 : Cond.instanceMethod y_Mo_goesRound ∈ allw := List.mem_filter.mpr ⟨List.mem_of_getElem? (i := 758) (by decide +kernel), by decide +kernel⟩
theorem m_759 : Cond.code y_Mo_goesRound k_Mo_goesRound 4 none ∈ allw := List.mem_filter.mpr ⟨List.mem_of_getElem? (i := 759) (by decide +kernel), by decide +kernel⟩
theorem m_760 : Cond.methodLink "AttackBenchModel" 112 y_Mo_isSet ∈ allw := List.mem_filter.mpr ⟨List.mem_of_getElem? (i := 760) (by decide +kernel), by decide +kernel⟩
theorem m_762 : Cond.instanceMethod y_Mo_isSet ∈ allw := List.mem_filter.mpr ⟨List.mem_of_getElem? (i := 762) (by decide +kernel), by decide +kernel⟩
theorem m_763 : Cond.code y_Mo_isSet k_Mo_isSet 2 (some .boolean) ∈ allw := List.mem_filter.mpr ⟨List.mem_of_getElem? (i := 763) (by decide +kernel), by decide +kernel⟩
theorem m_764 : Cond.methodLink "AttackBenchLaw" 74 y_Mo_is ∈ allw := List.mem_filter.mpr ⟨List.mem_of_getElem? (i := 764) (by decide +kernel), by decide +kernel⟩
theorem m_765 : Cond.instanceMethod y_Mo_is ∈ allw := List.mem_filter.mpr ⟨List.mem_of_getElem? (i := 765) (by decide +kernel), by decide +kernel⟩
theorem m_766 : Cond.selects "AttackBenchModel" y_Mo_is y_Mo_is ∈ allw := List.mem_filter.mpr ⟨List.mem_of_getElem? (i := 766) (by decide +kernel), by decide +kernel⟩
theorem m_767 : Cond.code y_Mo_is k_Mo_is 3 (some .boolean) ∈ allw := List.mem_filter.mpr ⟨List.mem_of_getElem? (i := 767) (by decide +kernel), by decide +kernel⟩
theorem m_768 : Cond.methodLink "AttackBenchModel" 115 y_Mo_isKind ∈ allw := List.mem_filter.mpr ⟨List.mem_of_getElem? (i := 768) (by decide +kernel), by decide +kernel⟩
theorem m_769 : Cond.static y_Mo_isKind ∈ allw := List.mem_filter.mpr ⟨List.mem_of_getElem? (i := 769) (by decide +kernel), by decide +kernel⟩
theorem m_770 : Cond.code y_Mo_isKind k_Mo_isKind 1 (some .boolean) ∈ allw := List.mem_filter.mpr ⟨List.mem_of_getElem? (i := 770) (by decide +kernel), by decide +kernel⟩
theorem m_771 : Cond.methodLink "AttackBenchModel" 118 y_Mo_isOf ∈ allw := List.mem_filter.mpr ⟨List.mem_of_getElem? (i := 771) (by decide +kernel), by decide +kernel⟩
theorem m_773 : Cond.instanceMethod y_Mo_isOf ∈ allw := List.mem_filter.mpr ⟨List.mem_of_getElem? (i := 773) (by decide +kernel), by decide +kernel⟩
theorem m_774 : Cond.code y_Mo_isOf k_Mo_isOf 3 (some .boolean) ∈ allw := List.mem_filter.mpr ⟨List.mem_of_getElem? (i := 774) (by decide +kernel), by decide +kernel⟩
theorem m_775 : Cond.methodLink "AttackBenchLaw" 78 y_Mo_attackedBy ∈ allw := List.mem_filter.mpr ⟨List.mem_of_getElem? (i := 775) (by decide +kernel), by decide +kernel⟩
theorem m_776 : Cond.instanceMethod y_Mo_attackedBy ∈ allw := List.mem_filter.mpr ⟨List.mem_of_getElem? (i := 776) (by decide +kernel), by decide +kernel⟩
theorem m_777 : Cond.selects "AttackBenchModel" y_Mo_attackedBy y_Mo_attackedBy ∈ allw := List.mem_filter.mpr ⟨List.mem_of_getElem? (i := 777) (by decide +kernel), by decide +kernel⟩
theorem m_778 : Cond.code y_Mo_attackedBy k_Mo_attackedBy 2 (some .int) ∈ allw := List.mem_filter.mpr ⟨List.mem_of_getElem? (i := 778) (by decide +kernel), by decide +kernel⟩
theorem m_779 : Cond.methodLink "AttackBenchLaw" 82 y_Mo_defendedBy ∈ allw := List.mem_filter.mpr ⟨List.mem_of_getElem? (i := 779) (by decide +kernel), by decide +kernel⟩
theorem m_780 : Cond.instanceMethod y_Mo_defendedBy ∈ allw := List.mem_filter.mpr ⟨List.mem_of_getElem? (i := 780) (by decide +kernel), by decide +kernel⟩
theorem m_781 : Cond.selects "AttackBenchModel" y_Mo_defendedBy y_Mo_defendedBy ∈ allw := List.mem_filter.mpr ⟨List.mem_of_getElem? (i := 781) (by decide +kernel), by decide +kernel⟩
theorem m_782 : Cond.code y_Mo_defendedBy k_Mo_defendedBy 2 (some .int) ∈ allw := List.mem_filter.mpr ⟨List.mem_of_getElem? (i := 782) (by decide +kernel), by decide +kernel⟩
theorem m_783 : Cond.methodLink "AttackBenchLaw" 86 y_Mo_grounded ∈ allw := List.mem_filter.mpr ⟨List.mem_of_getElem? (i := 783) (by decide +kernel), by decide +kernel⟩
theorem m_784 : Cond.instanceMethod y_Mo_grounded ∈ allw := List.mem_filter.mpr ⟨List.mem_of_getElem? (i := 784) (by decide +kernel), by decide +kernel⟩
theorem m_785 : Cond.selects "AttackBenchModel" y_Mo_grounded y_Mo_grounded ∈ allw := List.mem_filter.mpr ⟨List.mem_of_getElem? (i := 785) (by decide +kernel), by decide +kernel⟩
theorem m_786 : Cond.code y_Mo_grounded k_Mo_grounded 1 (some .int) ∈ allw := List.mem_filter.mpr ⟨List.mem_of_getElem? (i := 786) (by decide +kernel), by decide +kernel⟩
theorem m_787 : Cond.methodLink "AttackBenchLaw" 90 y_Mo_round ∈ allw := List.mem_filter.mpr ⟨List.mem_of_getElem? (i := 787) (by decide +kernel), by decide +kernel⟩
theorem m_788 : Cond.instanceMethod y_Mo_round ∈ allw := List.mem_filter.mpr ⟨List.mem_of_getElem? (i := 788) (by decide +kernel), by decide +kernel⟩
theorem m_789 : Cond.selects "AttackBenchModel" y_Mo_round y_Mo_round ∈ allw := List.mem_filter.mpr ⟨List.mem_of_getElem? (i := 789) (by decide +kernel), by decide +kernel⟩
theorem m_790 : Cond.code y_Mo_round k_Mo_round 2 (some .int) ∈ allw := List.mem_filter.mpr ⟨List.mem_of_getElem? (i := 790) (by decide +kernel), by decide +kernel⟩
theorem m_791 : Cond.methodLink "AttackBenchLaw" 94 y_Mo_ideal ∈ allw := List.mem_filter.mpr ⟨List.mem_of_getElem? (i := 791) (by decide +kernel), by decide +kernel⟩
theorem m_792 : Cond.instanceMethod y_Mo_ideal ∈ allw := List.mem_filter.mpr ⟨List.mem_of_getElem? (i := 792) (by decide +kernel), by decide +kernel⟩
theorem m_793 : Cond.selects "AttackBenchModel" y_Mo_ideal y_Mo_ideal ∈ allw := List.mem_filter.mpr ⟨List.mem_of_getElem? (i := 793) (by decide +kernel), by decide +kernel⟩
theorem m_794 : Cond.code y_Mo_ideal k_Mo_ideal 4 (some .int) ∈ allw := List.mem_filter.mpr ⟨List.mem_of_getElem? (i := 794) (by decide +kernel), by decide +kernel⟩
theorem m_795 : Cond.methodLink "AttackBenchLaw" 100 y_Mo_start ∈ allw := List.mem_filter.mpr ⟨List.mem_of_getElem? (i := 795) (by decide +kernel), by decide +kernel⟩
theorem m_796 : Cond.instanceMethod y_Mo_start ∈ allw := List.mem_filter.mpr ⟨List.mem_of_getElem? (i := 796) (by decide +kernel), by decide +kernel⟩
theorem m_797 : Cond.selects "AttackBenchModel" y_Mo_start y_Mo_start ∈ allw := List.mem_filter.mpr ⟨List.mem_of_getElem? (i := 797) (by decide +kernel), by decide +kernel⟩
theorem m_798 : Cond.code y_Mo_start k_Mo_start 2 none ∈ allw := List.mem_filter.mpr ⟨List.mem_of_getElem? (i := 798) (by decide +kernel), by decide +kernel⟩
theorem m_799 : Cond.methodLink "AttackBenchLaw" 107 y_Mo_next ∈ allw := List.mem_filter.mpr ⟨List.mem_of_getElem? (i := 799) (by decide +kernel), by decide +kernel⟩
theorem m_800 : Cond.instanceMethod y_Mo_next ∈ allw := List.mem_filter.mpr ⟨List.mem_of_getElem? (i := 800) (by decide +kernel), by decide +kernel⟩
theorem m_801 : Cond.selects "AttackBenchModel" y_Mo_next y_Mo_next ∈ allw := List.mem_filter.mpr ⟨List.mem_of_getElem? (i := 801) (by decide +kernel), by decide +kernel⟩
theorem m_802 : Cond.code y_Mo_next k_Mo_next 2 (some .int) ∈ allw := List.mem_filter.mpr ⟨List.mem_of_getElem? (i := 802) (by decide +kernel), by decide +kernel⟩
theorem m_803 : Cond.methodLink "AttackBenchLaw" 111 y_Mo_label ∈ allw := List.mem_filter.mpr ⟨List.mem_of_getElem? (i := 803) (by decide +kernel), by decide +kernel⟩
theorem m_804 : Cond.instanceMethod y_Mo_label ∈ allw := List.mem_filter.mpr ⟨List.mem_of_getElem? (i := 804) (by decide +kernel), by decide +kernel⟩
theorem m_805 : Cond.selects "AttackBenchModel" y_Mo_label y_Mo_label ∈ allw := List.mem_filter.mpr ⟨List.mem_of_getElem? (i := 805) (by decide +kernel), by decide +kernel⟩
theorem m_806 : Cond.code y_Mo_label k_Mo_label 2 (some .int) ∈ allw := List.mem_filter.mpr ⟨List.mem_of_getElem? (i := 806) (by decide +kernel), by decide +kernel⟩
theorem m_807 : Cond.methodLink "AttackBenchLaw" 114 y_Mo_count ∈ allw := List.mem_filter.mpr ⟨List.mem_of_getElem? (i := 807) (by decide +kernel), by decide +kernel⟩
theorem m_808 : Cond.instanceMethod y_Mo_count ∈ allw := List.mem_filter.mpr ⟨List.mem_of_getElem? (i := 808) (by decide +kernel), by decide +kernel⟩
theorem m_809 : Cond.selects "AttackBenchModel" y_Mo_count y_Mo_count ∈ allw := List.mem_filter.mpr ⟨List.mem_of_getElem? (i := 809) (by decide +kernel), by decide +kernel⟩
theorem m_810 : Cond.code y_Mo_count k_Mo_count 4 (some .int) ∈ allw := List.mem_filter.mpr ⟨List.mem_of_getElem? (i := 810) (by decide +kernel), by decide +kernel⟩
theorem m_811 : Cond.methodLink "AttackBenchLaw" 118 y_Mo_holds ∈ allw := List.mem_filter.mpr ⟨List.mem_of_getElem? (i := 811) (by decide +kernel), by decide +kernel⟩
theorem m_812 : Cond.instanceMethod y_Mo_holds ∈ allw := List.mem_filter.mpr ⟨List.mem_of_getElem? (i := 812) (by decide +kernel), by decide +kernel⟩
theorem m_813 : Cond.selects "AttackBenchModel" y_Mo_holds y_Mo_holds ∈ allw := List.mem_filter.mpr ⟨List.mem_of_getElem? (i := 813) (by decide +kernel), by decide +kernel⟩
theorem m_814 : Cond.code y_Mo_holds k_Mo_holds 7 (some .boolean) ∈ allw := List.mem_filter.mpr ⟨List.mem_of_getElem? (i := 814) (by decide +kernel), by decide +kernel⟩
theorem m_815 : Cond.methodLink "AttackBenchLaw" 121 y_Mo_dialogue ∈ allw := List.mem_filter.mpr ⟨List.mem_of_getElem? (i := 815) (by decide +kernel), by decide +kernel⟩
theorem m_816 : Cond.instanceMethod y_Mo_dialogue ∈ allw := List.mem_filter.mpr ⟨List.mem_of_getElem? (i := 816) (by decide +kernel), by decide +kernel⟩
theorem m_817 : Cond.selects "AttackBenchModel" y_Mo_dialogue y_Mo_dialogue ∈ allw := List.mem_filter.mpr ⟨List.mem_of_getElem? (i := 817) (by decide +kernel), by decide +kernel⟩
theorem m_818 : Cond.code y_Mo_dialogue k_Mo_dialogue 4 (some .int) ∈ allw := List.mem_filter.mpr ⟨List.mem_of_getElem? (i := 818) (by decide +kernel), by decide +kernel⟩
theorem m_819 : Cond.methodLink "AttackBenchModel" 134 y_Mo_puts ∈ allw := List.mem_filter.mpr ⟨List.mem_of_getElem? (i := 819) (by decide +kernel), by decide +kernel⟩
theorem m_821 : Cond.instanceMethod y_Mo_puts ∈ allw := List.mem_filter.mpr ⟨List.mem_of_getElem? (i := 821) (by decide +kernel), by decide +kernel⟩
theorem m_822 : Cond.code y_Mo_puts k_Mo_puts 4 none ∈ allw := List.mem_filter.mpr ⟨List.mem_of_getElem? (i := 822) (by decide +kernel), by decide +kernel⟩
theorem m_823 : Cond.methodLink "AttackBenchModel" 138 y_Mo_against ∈ allw := List.mem_filter.mpr ⟨List.mem_of_getElem? (i := 823) (by decide +kernel), by decide +kernel⟩
theorem m_825 : Cond.instanceMethod y_Mo_against ∈ allw := List.mem_filter.mpr ⟨List.mem_of_getElem? (i := 825) (by decide +kernel), by decide +kernel⟩
theorem m_826 : Cond.code y_Mo_against k_Mo_against 5 (some .int) ∈ allw := List.mem_filter.mpr ⟨List.mem_of_getElem? (i := 826) (by decide +kernel), by decide +kernel⟩
theorem m_827 : Cond.methodLink "AttackBenchLaw" 125 y_Mo_move ∈ allw := List.mem_filter.mpr ⟨List.mem_of_getElem? (i := 827) (by decide +kernel), by decide +kernel⟩
theorem m_828 : Cond.instanceMethod y_Mo_move ∈ allw := List.mem_filter.mpr ⟨List.mem_of_getElem? (i := 828) (by decide +kernel), by decide +kernel⟩
theorem m_829 : Cond.selects "AttackBenchModel" y_Mo_move y_Mo_move ∈ allw := List.mem_filter.mpr ⟨List.mem_of_getElem? (i := 829) (by decide +kernel), by decide +kernel⟩
theorem m_830 : Cond.code y_Mo_move k_Mo_move 3 (some .int) ∈ allw := List.mem_filter.mpr ⟨List.mem_of_getElem? (i := 830) (by decide +kernel), by decide +kernel⟩
theorem m_831 : Cond.methodLink "AttackBenchLaw" 129 y_Mo_circle ∈ allw := List.mem_filter.mpr ⟨List.mem_of_getElem? (i := 831) (by decide +kernel), by decide +kernel⟩
theorem m_832 : Cond.instanceMethod y_Mo_circle ∈ allw := List.mem_filter.mpr ⟨List.mem_of_getElem? (i := 832) (by decide +kernel), by decide +kernel⟩
theorem m_833 : Cond.selects "AttackBenchModel" y_Mo_circle y_Mo_circle ∈ allw := List.mem_filter.mpr ⟨List.mem_of_getElem? (i := 833) (by decide +kernel), by decide +kernel⟩
theorem m_834 : Cond.code y_Mo_circle k_Mo_circle 3 (some .int) ∈ allw := List.mem_filter.mpr ⟨List.mem_of_getElem? (i := 834) (by decide +kernel), by decide +kernel⟩
theorem m_835 : Cond.methodLink "AttackBenchModel" 147 y_Mo_numbers ∈ allw := List.mem_filter.mpr ⟨List.mem_of_getElem? (i := 835) (by decide +kernel), by decide +kernel⟩
theorem m_837 : Cond.instanceMethod y_Mo_numbers ∈ allw := List.mem_filter.mpr ⟨List.mem_of_getElem? (i := 837) (by decide +kernel), by decide +kernel⟩
theorem m_838 : Cond.code y_Mo_numbers k_Mo_numbers 6 (some .int) ∈ allw := List.mem_filter.mpr ⟨List.mem_of_getElem? (i := 838) (by decide +kernel), by decide +kernel⟩
theorem m_839 : Cond.methodLink "AttackBenchModel" 141 y_Mo_from ∈ allw := List.mem_filter.mpr ⟨List.mem_of_getElem? (i := 839) (by decide +kernel), by decide +kernel⟩
theorem m_841 : Cond.instanceMethod y_Mo_from ∈ allw := List.mem_filter.mpr ⟨List.mem_of_getElem? (i := 841) (by decide +kernel), by decide +kernel⟩
theorem m_842 : Cond.code y_Mo_from k_Mo_from 4 (some .int) ∈ allw := List.mem_filter.mpr ⟨List.mem_of_getElem? (i := 842) (by decide +kernel), by decide +kernel⟩
theorem m_843 : Cond.methodLink "AttackBenchModel" 144 y_Mo_both ∈ allw := List.mem_filter.mpr ⟨List.mem_of_getElem? (i := 843) (by decide +kernel), by decide +kernel⟩
theorem m_845 : Cond.instanceMethod y_Mo_both ∈ allw := List.mem_filter.mpr ⟨List.mem_of_getElem? (i := 845) (by decide +kernel), by decide +kernel⟩
theorem m_846 : Cond.code y_Mo_both k_Mo_both 2 (some .int) ∈ allw := List.mem_filter.mpr ⟨List.mem_of_getElem? (i := 846) (by decide +kernel), by decide +kernel⟩
theorem m_847 : Cond.methodLink "AttackBenchLaw" 133 y_Mo_circles ∈ allw := List.mem_filter.mpr ⟨List.mem_of_getElem? (i := 847) (by decide +kernel), by decide +kernel⟩
theorem m_848 : Cond.instanceMethod y_Mo_circles ∈ allw := List.mem_filter.mpr ⟨List.mem_of_getElem? (i := 848) (by decide +kernel), by decide +kernel⟩
theorem m_849 : Cond.selects "AttackBenchModel" y_Mo_circles y_Mo_circles ∈ allw := List.mem_filter.mpr ⟨List.mem_of_getElem? (i := 849) (by decide +kernel), by decide +kernel⟩
theorem m_850 : Cond.code y_Mo_circles k_Mo_circles 1 (some .int) ∈ allw := List.mem_filter.mpr ⟨List.mem_of_getElem? (i := 850) (by decide +kernel), by decide +kernel⟩
theorem m_851 : Cond.arrayClass .long ∈ allw := List.mem_filter.mpr ⟨List.mem_of_getElem? (i := 851) (by decide +kernel), by decide +kernel⟩
theorem rd_AB_init : RD y_AB_init k_AB_init 1 none 0 := ⟨m_51, m_34, by decide +kernel, by decide +kernel⟩
theorem rd_Web_init : RD y_Web_init k_Web_init 1 none 0 := ⟨m_59, m_35, by decide +kernel, by decide +kernel⟩
theorem rd_Senses_init : RD y_Senses_init k_Senses_init 1 none 0 := ⟨m_76, m_36, by decide +kernel, by decide +kernel⟩
theorem rd_Listing_init : RD y_Listing_init k_Listing_init 1 none 0 := ⟨m_101, m_37, by decide +kernel, by decide +kernel⟩
theorem rd_Grounds_init : RD y_Grounds_init k_Grounds_init 1 none 0 := ⟨m_120, m_38, by decide +kernel, by decide +kernel⟩
theorem rd_Talk_init : RD y_Talk_init k_Talk_init 1 none 0 := ⟨m_133, m_39, by decide +kernel, by decide +kernel⟩
theorem rd_Rings_init : RD y_Rings_init k_Rings_init 1 none 0 := ⟨m_155, m_40, by decide +kernel, by decide +kernel⟩
theorem rd_AB_claim : RD y_AB_claim k_AB_claim 2 (some .int) 0 := ⟨m_189, m_34, by decide +kernel, by decide +kernel⟩
theorem rd_Web_hasRoomFor : RD y_Web_hasRoomFor k_Web_hasRoomFor 2 (some .boolean) 1 := ⟨m_193, m_35, by decide +kernel, by decide +kernel⟩
theorem rd_Web_add : RD y_Web_add k_Web_add 1 (some .int) 0 := ⟨m_197, m_35, by decide +kernel, by decide +kernel⟩
theorem rd_AB_changed : RD y_AB_changed k_AB_changed 1 none 0 := ⟨m_202, m_34, by decide +kernel, by decide +kernel⟩
theorem rd_Listing_end : RD y_Listing_end k_Listing_end 1 none 0 := ⟨m_206, m_37, by decide +kernel, by decide +kernel⟩
theorem rd_Senses_forget : RD y_Senses_forget k_Senses_forget 1 none 0 := ⟨m_210, m_36, by decide +kernel, by decide +kernel⟩
theorem rd_AB_attack : RD y_AB_attack k_AB_attack 4 (some .boolean) 3 := ⟨m_214, m_34, by decide +kernel, by decide +kernel⟩
theorem rd_Web_has : RD y_Web_has k_Web_has 2 (some .boolean) 1 := ⟨m_218, m_35, by decide +kernel, by decide +kernel⟩
theorem rd_Web_leads : RD y_Web_leads k_Web_leads 3 (some .boolean) 2 := ⟨m_222, m_35, by decide +kernel, by decide +kernel⟩
theorem rd_AB_isIn : RD y_AB_isIn k_AB_isIn 2 (some .boolean) 2 := ⟨m_226, m_34, by decide +kernel, by decide +kernel⟩
theorem rd_Web_put : RD y_Web_put k_Web_put 4 none 3 := ⟨m_230, m_35, by decide +kernel, by decide +kernel⟩
theorem rd_AB_attacks : RD y_AB_attacks k_AB_attacks 3 (some .boolean) 2 := ⟨m_234, m_34, by decide +kernel, by decide +kernel⟩
theorem rd_AB_joint : RD y_AB_joint k_AB_joint 7 (some .int) 3 := ⟨m_238, m_34, by decide +kernel, by decide +kernel⟩
theorem rd_AB_support : RD y_AB_support k_AB_support 4 (some .int) 2 := ⟨m_242, m_34, by decide +kernel, by decide +kernel⟩
theorem rd_AB_arguments : RD y_AB_arguments k_AB_arguments 1 (some .int) 0 := ⟨m_246, m_34, by decide +kernel, by decide +kernel⟩
theorem rd_Web_size : RD y_Web_size k_Web_size 1 (some .int) 0 := ⟨m_250, m_35, by decide +kernel, by decide +kernel⟩
theorem rd_AB_isFree : RD y_AB_isFree k_AB_isFree 2 (some .boolean) 1 := ⟨m_254, m_34, by decide +kernel, by decide +kernel⟩
theorem rd_Web_hasSet : RD y_Web_hasSet k_Web_hasSet 2 (some .boolean) 1 := ⟨m_258, m_35, by decide +kernel, by decide +kernel⟩
theorem rd_Web_everything : RD y_Web_everything k_Web_everything 1 (some .int) 0 := ⟨m_262, m_35, by decide +kernel, by decide +kernel⟩
theorem rd_AB_isWithin : RD y_AB_isWithin k_AB_isWithin 2 (some .boolean) 2 := ⟨m_265, m_34, by decide +kernel, by decide +kernel⟩
theorem rd_Web_targetsOf : RD y_Web_targetsOf k_Web_targetsOf 4 (some .int) 1 := ⟨m_269, m_35, by decide +kernel, by decide +kernel⟩
theorem rd_AB_is : RD y_AB_is k_AB_is 3 (some .boolean) 2 := ⟨m_273, m_34, by decide +kernel, by decide +kernel⟩
theorem rd_AB_isKind : RD y_AB_isKind k_AB_isKind 1 (some .boolean) 1 := ⟨m_276, m_34, by decide +kernel, by decide +kernel⟩
theorem rd_Senses_learn : RD y_Senses_learn k_Senses_learn 3 none 1 := ⟨m_280, m_36, by decide +kernel, by decide +kernel⟩
theorem rd_Senses_fillTargets : RD y_Senses_fillTargets k_Senses_fillTargets 6 none 1 := ⟨m_285, m_36, by decide +kernel, by decide +kernel⟩
theorem rd_Web_targetsOfOne : RD y_Web_targetsOfOne k_Web_targetsOfOne 2 (some .int) 1 := ⟨m_290, m_35, by decide +kernel, by decide +kernel⟩
theorem rd_Senses_ownMarks : RD y_Senses_ownMarks k_Senses_ownMarks 5 (some .int) 1 := ⟨m_294, m_36, by decide +kernel, by decide +kernel⟩
theorem rd_Senses_markPreferred : RD y_Senses_markPreferred k_Senses_markPreferred 2 none 0 := ⟨m_299, m_36, by decide +kernel, by decide +kernel⟩
theorem rd_Senses_hasMark : RD y_Senses_hasMark k_Senses_hasMark 3 (some .boolean) 2 := ⟨m_303, m_36, by decide +kernel, by decide +kernel⟩
theorem rd_Senses_isNewTop : RD y_Senses_isNewTop k_Senses_isNewTop 3 (some .boolean) 1 := ⟨m_307, m_36, by decide +kernel, by decide +kernel⟩
theorem rd_Senses_markRanges : RD y_Senses_markRanges k_Senses_markRanges 2 none 0 := ⟨m_311, m_36, by decide +kernel, by decide +kernel⟩
theorem rd_Senses_markStage : RD y_Senses_markStage k_Senses_markStage 2 none 0 := ⟨m_315, m_36, by decide +kernel, by decide +kernel⟩
theorem rd_Senses_isOf : RD y_Senses_isOf k_Senses_isOf 3 (some .boolean) 2 := ⟨m_319, m_36, by decide +kernel, by decide +kernel⟩
theorem rd_AB_attackedBy : RD y_AB_attackedBy k_AB_attackedBy 2 (some .int) 1 := ⟨m_323, m_34, by decide +kernel, by decide +kernel⟩
theorem rd_AB_defendedBy : RD y_AB_defendedBy k_AB_defendedBy 2 (some .int) 1 := ⟨m_327, m_34, by decide +kernel, by decide +kernel⟩
theorem rd_Web_defendedOf : RD y_Web_defendedOf k_Web_defendedOf 3 (some .int) 1 := ⟨m_331, m_35, by decide +kernel, by decide +kernel⟩
theorem rd_AB_grounded : RD y_AB_grounded k_AB_grounded 1 (some .int) 0 := ⟨m_336, m_34, by decide +kernel, by decide +kernel⟩
theorem rd_Grounds_settle : RD y_Grounds_settle k_Grounds_settle 4 none 1 := ⟨m_340, m_38, by decide +kernel, by decide +kernel⟩
theorem rd_Grounds_noteRound : RD y_Grounds_noteRound k_Grounds_noteRound 4 none 2 := ⟨m_345, m_38, by decide +kernel, by decide +kernel⟩
theorem rd_Grounds_all : RD y_Grounds_all k_Grounds_all 1 (some .int) 0 := ⟨m_350, m_38, by decide +kernel, by decide +kernel⟩
theorem rd_AB_round : RD y_AB_round k_AB_round 2 (some .int) 1 := ⟨m_354, m_34, by decide +kernel, by decide +kernel⟩
theorem rd_Grounds_roundOf : RD y_Grounds_roundOf k_Grounds_roundOf 2 (some .int) 1 := ⟨m_358, m_38, by decide +kernel, by decide +kernel⟩
theorem rd_AB_ideal : RD y_AB_ideal k_AB_ideal 1 (some .int) 0 := ⟨m_362, m_34, by decide +kernel, by decide +kernel⟩
theorem rd_Senses_meet : RD y_Senses_meet k_Senses_meet 4 (some .int) 1 := ⟨m_366, m_36, by decide +kernel, by decide +kernel⟩
theorem rd_Senses_joinWithin : RD y_Senses_joinWithin k_Senses_joinWithin 5 (some .int) 2 := ⟨m_371, m_36, by decide +kernel, by decide +kernel⟩
theorem rd_AB_move : RD y_AB_move k_AB_move 3 (some .int) 2 := ⟨m_375, m_34, by decide +kernel, by decide +kernel⟩
theorem rd_Talk_tell : RD y_Talk_tell k_Talk_tell 3 (some .int) 2 := ⟨m_379, m_39, by decide +kernel, by decide +kernel⟩
theorem rd_AB_circle : RD y_AB_circle k_AB_circle 2 (some .int) 1 := ⟨m_383, m_34, by decide +kernel, by decide +kernel⟩
theorem rd_Rings_find : RD y_Rings_find k_Rings_find 5 none 1 := ⟨m_387, m_40, by decide +kernel, by decide +kernel⟩
theorem rd_Rings_fillReach : RD y_Rings_fillReach k_Rings_fillReach 4 none 1 := ⟨m_391, m_40, by decide +kernel, by decide +kernel⟩
theorem rd_Rings_firstReady : RD y_Rings_firstReady k_Rings_firstReady 5 (some .int) 2 := ⟨m_398, m_40, by decide +kernel, by decide +kernel⟩
theorem rd_Rings_around : RD y_Rings_around k_Rings_around 5 (some .int) 2 := ⟨m_402, m_40, by decide +kernel, by decide +kernel⟩
theorem rd_Web_attackersOf : RD y_Web_attackersOf k_Web_attackersOf 4 (some .int) 1 := ⟨m_406, m_35, by decide +kernel, by decide +kernel⟩
theorem rd_Rings_number : RD y_Rings_number k_Rings_number 3 none 1 := ⟨m_411, m_40, by decide +kernel, by decide +kernel⟩
theorem rd_Rings_ringOf : RD y_Rings_ringOf k_Rings_ringOf 2 (some .int) 1 := ⟨m_415, m_40, by decide +kernel, by decide +kernel⟩
theorem rd_AB_circles : RD y_AB_circles k_AB_circles 1 (some .int) 0 := ⟨m_419, m_34, by decide +kernel, by decide +kernel⟩
theorem rd_Rings_size : RD y_Rings_size k_Rings_size 1 (some .int) 0 := ⟨m_423, m_40, by decide +kernel, by decide +kernel⟩
theorem rd_AB_start : RD y_AB_start k_AB_start 2 none 1 := ⟨m_431, m_34, by decide +kernel, by decide +kernel⟩
theorem rd_Listing_begin : RD y_Listing_begin k_Listing_begin 2 none 1 := ⟨m_502, m_37, by decide +kernel, by decide +kernel⟩
theorem rd_AB_next : RD y_AB_next k_AB_next 1 (some .int) 0 := ⟨m_510, m_34, by decide +kernel, by decide +kernel⟩
theorem rd_Listing_isOpen : RD y_Listing_isOpen k_Listing_isOpen 1 (some .boolean) 0 := ⟨m_514, m_37, by decide +kernel, by decide +kernel⟩
theorem rd_Listing_tell : RD y_Listing_tell k_Listing_tell 3 (some .int) 1 := ⟨m_534, m_37, by decide +kernel, by decide +kernel⟩
theorem rd_Senses_everything : RD y_Senses_everything k_Senses_everything 1 (some .int) 0 := ⟨m_538, m_36, by decide +kernel, by decide +kernel⟩
theorem rd_AB_label : RD y_AB_label k_AB_label 3 (some .int) 1 := ⟨m_547, m_34, by decide +kernel, by decide +kernel⟩
theorem rd_Listing_told : RD y_Listing_told k_Listing_told 1 (some .int) 0 := ⟨m_552, m_37, by decide +kernel, by decide +kernel⟩
theorem rd_AB_count : RD y_AB_count k_AB_count 2 (some .int) 1 := ⟨m_561, m_34, by decide +kernel, by decide +kernel⟩
theorem rd_Senses_tally : RD y_Senses_tally k_Senses_tally 4 (some .int) 1 := ⟨m_565, m_36, by decide +kernel, by decide +kernel⟩
theorem rd_AB_holds : RD y_AB_holds k_AB_holds 4 (some .boolean) 3 := ⟨m_572, m_34, by decide +kernel, by decide +kernel⟩
theorem rd_AB_dialogue : RD y_AB_dialogue k_AB_dialogue 2 (some .int) 1 := ⟨m_581, m_34, by decide +kernel, by decide +kernel⟩
theorem rd_Talk_about : RD y_Talk_about k_Talk_about 4 (some .int) 3 := ⟨m_585, m_39, by decide +kernel, by decide +kernel⟩
theorem rd_Talk_defend : RD y_Talk_defend k_Talk_defend 10 none 5 := ⟨m_590, m_39, by decide +kernel, by decide +kernel⟩
theorem rd_Talk_say : RD y_Talk_say k_Talk_say 4 (some .int) 3 := ⟨m_594, m_39, by decide +kernel, by decide +kernel⟩
theorem rd_Web_attackersOfOne : RD y_Web_attackersOfOne k_Web_attackersOfOne 2 (some .int) 1 := ⟨m_598, m_35, by decide +kernel, by decide +kernel⟩
theorem rd_Grounds_earliestIn : RD y_Grounds_earliestIn k_Grounds_earliestIn 4 (some .int) 1 := ⟨m_603, m_38, by decide +kernel, by decide +kernel⟩
theorem rd_Mo_init : RD y_Mo_init k_Mo_init 1 none 0 := ⟨m_609, m_41, by decide +kernel, by decide +kernel⟩
theorem rd_Mo_thrown : RD y_Mo_thrown k_Mo_thrown 1 (some .int) 0 := ⟨m_691, m_41, by decide +kernel, by decide +kernel⟩
theorem rd_Mo_claim : RD y_Mo_claim k_Mo_claim 1 (some .int) 0 := ⟨m_695, m_41, by decide +kernel, by decide +kernel⟩
theorem rd_Mo_comes : RD y_Mo_comes k_Mo_comes 1 (some .int) 0 := ⟨m_699, m_41, by decide +kernel, by decide +kernel⟩
theorem rd_Mo_changes : RD y_Mo_changes k_Mo_changes 1 none 0 := ⟨m_703, m_41, by decide +kernel, by decide +kernel⟩
theorem rd_Mo_attack : RD y_Mo_attack k_Mo_attack 4 (some .boolean) 3 := ⟨m_707, m_41, by decide +kernel, by decide +kernel⟩
theorem rd_Mo_isArgument : RD y_Mo_isArgument k_Mo_isArgument 2 (some .boolean) 1 := ⟨m_711, m_41, by decide +kernel, by decide +kernel⟩
theorem rd_Mo_sets : RD y_Mo_sets k_Mo_sets 4 none 3 := ⟨m_715, m_41, by decide +kernel, by decide +kernel⟩
theorem rd_Mo_attacks : RD y_Mo_attacks k_Mo_attacks 3 (some .boolean) 2 := ⟨m_719, m_41, by decide +kernel, by decide +kernel⟩
theorem rd_Mo_joint : RD y_Mo_joint k_Mo_joint 7 (some .int) 3 := ⟨m_723, m_41, by decide +kernel, by decide +kernel⟩
theorem rd_Mo_support : RD y_Mo_support k_Mo_support 4 (some .int) 2 := ⟨m_727, m_41, by decide +kernel, by decide +kernel⟩
theorem rd_Mo_arguments : RD y_Mo_arguments k_Mo_arguments 1 (some .int) 0 := ⟨m_731, m_41, by decide +kernel, by decide +kernel⟩
theorem rd_Mo_isFree : RD y_Mo_isFree k_Mo_isFree 2 (some .boolean) 1 := ⟨m_735, m_41, by decide +kernel, by decide +kernel⟩
theorem rd_Mo_reckon : RD y_Mo_reckon k_Mo_reckon 4 none 0 := ⟨m_739, m_41, by decide +kernel, by decide +kernel⟩
theorem rd_Mo_defended : RD y_Mo_defended k_Mo_defended 4 (some .int) 1 := ⟨m_743, m_41, by decide +kernel, by decide +kernel⟩
theorem rd_Mo_isFreeSet : RD y_Mo_isFreeSet k_Mo_isFreeSet 2 (some .boolean) 1 := ⟨m_747, m_41, by decide +kernel, by decide +kernel⟩
theorem rd_Mo_adds : RD y_Mo_adds k_Mo_adds 3 none 2 := ⟨m_751, m_41, by decide +kernel, by decide +kernel⟩
theorem rd_Mo_looksAbove : RD y_Mo_looksAbove k_Mo_looksAbove 4 none 0 := ⟨m_755, m_41, by decide +kernel, by decide +kernel⟩
theorem rd_Mo_goesRound : RD y_Mo_goesRound k_Mo_goesRound 4 none 0 := ⟨m_759, m_41, by decide +kernel, by decide +kernel⟩
theorem rd_Mo_isSet : RD y_Mo_isSet k_Mo_isSet 2 (some .boolean) 1 := ⟨m_763, m_41, by decide +kernel, by decide +kernel⟩
theorem rd_Mo_is : RD y_Mo_is k_Mo_is 3 (some .boolean) 2 := ⟨m_767, m_41, by decide +kernel, by decide +kernel⟩
theorem rd_Mo_isKind : RD y_Mo_isKind k_Mo_isKind 1 (some .boolean) 1 := ⟨m_770, m_41, by decide +kernel, by decide +kernel⟩
theorem rd_Mo_isOf : RD y_Mo_isOf k_Mo_isOf 3 (some .boolean) 2 := ⟨m_774, m_41, by decide +kernel, by decide +kernel⟩
theorem rd_Mo_attackedBy : RD y_Mo_attackedBy k_Mo_attackedBy 2 (some .int) 1 := ⟨m_778, m_41, by decide +kernel, by decide +kernel⟩
theorem rd_Mo_defendedBy : RD y_Mo_defendedBy k_Mo_defendedBy 2 (some .int) 1 := ⟨m_782, m_41, by decide +kernel, by decide +kernel⟩
theorem rd_Mo_grounded : RD y_Mo_grounded k_Mo_grounded 1 (some .int) 0 := ⟨m_786, m_41, by decide +kernel, by decide +kernel⟩
theorem rd_Mo_round : RD y_Mo_round k_Mo_round 2 (some .int) 1 := ⟨m_790, m_41, by decide +kernel, by decide +kernel⟩
theorem rd_Mo_ideal : RD y_Mo_ideal k_Mo_ideal 4 (some .int) 0 := ⟨m_794, m_41, by decide +kernel, by decide +kernel⟩
theorem rd_Mo_start : RD y_Mo_start k_Mo_start 2 none 1 := ⟨m_798, m_41, by decide +kernel, by decide +kernel⟩
theorem rd_Mo_next : RD y_Mo_next k_Mo_next 2 (some .int) 0 := ⟨m_802, m_41, by decide +kernel, by decide +kernel⟩
theorem rd_Mo_label : RD y_Mo_label k_Mo_label 2 (some .int) 1 := ⟨m_806, m_41, by decide +kernel, by decide +kernel⟩
theorem rd_Mo_count : RD y_Mo_count k_Mo_count 4 (some .int) 1 := ⟨m_810, m_41, by decide +kernel, by decide +kernel⟩
theorem rd_Mo_holds : RD y_Mo_holds k_Mo_holds 7 (some .boolean) 3 := ⟨m_814, m_41, by decide +kernel, by decide +kernel⟩
theorem rd_Mo_dialogue : RD y_Mo_dialogue k_Mo_dialogue 4 (some .int) 1 := ⟨m_818, m_41, by decide +kernel, by decide +kernel⟩
theorem rd_Mo_puts : RD y_Mo_puts k_Mo_puts 4 none 3 := ⟨m_822, m_41, by decide +kernel, by decide +kernel⟩
theorem rd_Mo_against : RD y_Mo_against k_Mo_against 5 (some .int) 1 := ⟨m_826, m_41, by decide +kernel, by decide +kernel⟩
theorem rd_Mo_move : RD y_Mo_move k_Mo_move 3 (some .int) 2 := ⟨m_830, m_41, by decide +kernel, by decide +kernel⟩
theorem rd_Mo_circle : RD y_Mo_circle k_Mo_circle 3 (some .int) 1 := ⟨m_834, m_41, by decide +kernel, by decide +kernel⟩
theorem rd_Mo_numbers : RD y_Mo_numbers k_Mo_numbers 6 (some .int) 0 := ⟨m_838, m_41, by decide +kernel, by decide +kernel⟩
theorem rd_Mo_from : RD y_Mo_from k_Mo_from 4 (some .int) 1 := ⟨m_842, m_41, by decide +kernel, by decide +kernel⟩
theorem rd_Mo_both : RD y_Mo_both k_Mo_both 2 (some .int) 1 := ⟨m_846, m_41, by decide +kernel, by decide +kernel⟩
theorem rd_Mo_circles : RD y_Mo_circles k_Mo_circles 1 (some .int) 0 := ⟨m_850, m_41, by decide +kernel, by decide +kernel⟩
end
section
/-! Sets as numbers. -/
theorem and_lt {a b : Nat} (h : b < 2 ^ 31) : a &&& b < 2 ^ 31 := Nat.lt_of_le_of_lt Nat.and_le_right h
theorem and_ltl {a b : Nat} (h : a < 2 ^ 31) : a &&& b < 2 ^ 31 := Nat.lt_of_le_of_lt Nat.and_le_left h
theorem or_lt {a b : Nat} (ha : a < 2 ^ 31) (hb : b < 2 ^ 31) : a ||| b < 2 ^ 31 := Nat.or_lt_two_pow ha hb
theorem pow_lt {a : Nat} (h : a < 31) : 2 ^ a < 2 ^ 31 := Nat.pow_lt_pow_right (by decide) h
theorem dif_lt {a b : Nat} (h : a < 2 ^ 31) : dif a b < 2 ^ 31 := Nat.lt_of_le_of_lt (dif_le a b) h
theorem nI_dec {a : Nat} (h : 0 < a) : nI a + Int32.ofInt (-1) = nI (a - 1) := sb_m1 h
theorem bI_fit (b : Bool) : fits .boolean (.int (bI b)) = true := by cases b <;> rfl
/-- a is in b -/
def inn (a b : Nat) : Prop := ∀ i, a.testBit i = true → b.testBit i = true
theorem inn_dif {a b : Nat} : dif a b = 0 ↔ inn a b := by
  constructor
  · intro h i hi
    have := congrArg (fun z => z.testBit i) h
    simp only [dif_bit, hi, Nat.zero_testBit, Bool.true_and, Bool.not_eq_eq_eq_not, Bool.not_false] at this
    exact this
  · intro h
    apply Nat.eq_of_testBit_eq
    intro i
    rw [dif_bit, Nat.zero_testBit]
    cases ha : a.testBit i with
    | false => rfl
    | true => rw [h i ha]; rfl
theorem inn_refl (a : Nat) : inn a a := fun _ h => h
theorem inn_trans {a b c : Nat} (h : inn a b) (h2 : inn b c) : inn a c := fun i hi => h2 i (h i hi)
theorem inn_le {a b : Nat} (h : inn a b) : a ≤ b := Nat.le_of_testBit h
theorem inn_anti {a b : Nat} (h : inn a b) (h2 : inn b a) : a = b := Nat.le_antisymm (inn_le h) (inn_le h2)
theorem inn_and {a b : Nat} : a &&& b = a ↔ inn a b := by
  constructor
  · intro h i hi
    have := congrArg (fun z => z.testBit i) h
    simp only [Nat.testBit_and, hi, Bool.true_and] at this
    exact this
  · intro h
    apply Nat.eq_of_testBit_eq
    intro i
    rw [Nat.testBit_and]
    cases ha : a.testBit i with
    | false => rfl
    | true => rw [h i ha]; rfl
theorem and_pow_bit {k i : Nat} : k &&& 2 ^ i = 0 ↔ k.testBit i = false := by
  constructor
  · intro h
    have := congrArg (fun z => z.testBit i) h
    simpa [Nat.testBit_and, Nat.testBit_two_pow_self] using this
  · intro h
    apply Nat.eq_of_testBit_eq
    intro j
    rw [Nat.testBit_and, Nat.zero_testBit, Nat.testBit_two_pow]
    by_cases hj : i = j
    · subst hj; rw [h]; rfl
    · simp [hj]
/-! No more than 924 sets of 12 such that none is in another one: chains by matched brackets. -/
def sp_sc (x : Nat) : Nat → List Nat × Nat × Nat
  | 0 => ([], 0, 0)
  | i + 1 => match sp_sc x i with
    | (st, um, k) => if x / 2 ^ i % 2 = 1 then (match st with | [] => ([], um + 2 ^ i, k + 1) | _ :: st' => (st', um, k)) else (i :: st, um, k)
def sp_bot (x : Nat) : Nat := x - (sp_sc x 12).2.1
def sp_cnt (x : Nat) : Nat := (sp_sc x 12).2.2
def sp_up (b : Nat) (k : Nat) : Nat := ((sp_sc b 12).1.reverse.take k).foldl (fun a z => a + 2 ^ z) b
def sp_L : List Nat := (List.range 4096).filter (fun x => sp_bot x == x)
set_option maxRecDepth 100000 in
theorem sp_len : sp_L.length = 924 := by decide +kernel
set_option maxRecDepth 100000 in
theorem sp_c1 : (List.range 4096).all (fun x => sp_up (sp_bot x) (sp_cnt x) == x && Nat.ble (sp_cnt x) 12 && Nat.blt (sp_bot x) 4096 && sp_bot (sp_bot x) == sp_bot x) = true := by decide +kernel
set_option maxRecDepth 100000 in
theorem sp_c2 : sp_L.all (fun b => (List.range 12).all (fun k => sp_up b k &&& sp_up b (k + 1) == sp_up b k)) = true := by decide +kernel
theorem sp_one {x : Nat} (h : x < 4096) : sp_up (sp_bot x) (sp_cnt x) = x ∧ sp_cnt x ≤ 12 ∧ sp_bot x ∈ sp_L := by
  have h1 := List.all_eq_true.mp sp_c1 x (List.mem_range.mpr h)
  simp only [Bool.and_eq_true, beq_iff_eq, Nat.ble_eq, Nat.blt_eq] at h1
  refine ⟨h1.1.1.1, h1.1.1.2, ?_⟩
  unfold sp_L
  rw [List.mem_filter]
  exact ⟨List.mem_range.mpr h1.1.2, by rw [beq_iff_eq]; exact h1.2⟩
theorem sp_mono {b : Nat} (hb : b ∈ sp_L) : ∀ (d k : Nat), k + d ≤ 12 → inn (sp_up b k) (sp_up b (k + d)) := by
  intro d
  induction d with
  | zero => intro k _; exact inn_refl _
  | succ d ih =>
    intro k hk
    refine inn_trans (ih k (by omega)) ?_
    have h1 := List.all_eq_true.mp (List.all_eq_true.mp sp_c2 b hb) (k + d) (List.mem_range.mpr (by omega))
    rw [beq_iff_eq] at h1
    exact inn_and.mp h1
theorem sp_cmp {x y : Nat} (hx : x < 4096) (hy : y < 4096) (h : sp_bot x = sp_bot y) : inn x y ∨ inn y x := by
  obtain ⟨x1, x2, x3⟩ := sp_one hx
  obtain ⟨y1, y2, y3⟩ := sp_one hy
  rcases Nat.le_total (sp_cnt x) (sp_cnt y) with hc | hc
  · left
    have := sp_mono x3 (sp_cnt y - sp_cnt x) (sp_cnt x) (by omega)
    rw [show sp_cnt x + (sp_cnt y - sp_cnt x) = sp_cnt y by omega, x1, h, y1] at this
    exact this
  · right
    have := sp_mono y3 (sp_cnt x - sp_cnt y) (sp_cnt y) (by omega)
    rw [show sp_cnt y + (sp_cnt x - sp_cnt y) = sp_cnt x by omega, y1, ← h, x1] at this
    exact this
theorem nodup_len {l1 : List Nat} : ∀ {l2 : List Nat}, l1.Nodup → (∀ x ∈ l1, x ∈ l2) → l1.length ≤ l2.length := by
  induction l1 with
  | nil => intro l2 _ _; exact Nat.zero_le _
  | cons a t ih =>
    intro l2 hn hs
    rw [List.nodup_cons] at hn
    have ha : a ∈ l2 := hs a List.mem_cons_self
    have h1 := ih (l2 := l2.erase a) hn.2 (fun x hx => by
      have hxa : x ≠ a := fun q => hn.1 (q ▸ hx)
      exact (List.mem_erase_of_ne hxa).mpr (hs x (List.mem_cons_of_mem _ hx)))
    rw [List.length_erase_of_mem ha] at h1
    have h2 : 0 < l2.length := List.length_pos_of_mem ha
    simp only [List.length_cons]
    omega
/-- sets of 12, none in another one, are 924 at most -/
theorem sperner {f : Nat → Nat} {c : Nat} (hb : ∀ i, i < c → f i < 4096) (hn : ∀ i j, i < c → j < c → i ≠ j → ¬ inn (f i) (f j)) : c ≤ 924 := by
  have h1 : ((List.range c).map (fun i => sp_bot (f i))).Nodup := by
    unfold List.Nodup
    rw [List.pairwise_map]
    refine List.Pairwise.imp_of_mem ?_ (List.nodup_range (n := c))
    intro i j hi hj hij q
    rcases sp_cmp (hb i (List.mem_range.mp hi)) (hb j (List.mem_range.mp hj)) q with h | h
    · exact hn i j (List.mem_range.mp hi) (List.mem_range.mp hj) hij h
    · exact hn j i (List.mem_range.mp hj) (List.mem_range.mp hi) (Ne.symm hij) h
  have h2 := nodup_len (l2 := sp_L) h1 (fun x hx => by
    obtain ⟨i, hi, rfl⟩ := List.mem_map.mp hx
    exact (sp_one (hb i (List.mem_range.mp hi))).2.2)
  rw [List.length_map, List.length_range, sp_len] at h2
  exact h2
end
section
/-! numbers out of a script; what a set attacks -/
def inR (x : Int32) (n : Nat) : Bool := decide (¬ x < 0 ∧ ¬ nI n ≤ x)
theorem inR_of {x : Int32} {n : Nat} (h : inR x n = true) (hn : n < 2 ^ 31 := by omega) : ∃ j : Nat, j < n ∧ x = nI j := by
  simp only [inR, decide_eq_true_eq] at h
  rcases pk_ix x hn with h1 | h1 | h1
  · exact absurd h1 h.1
  · exact absurd h1 h.2
  · exact h1
theorem inR_nI {j n : Nat} (hj : j < 2 ^ 31) (hn : n < 2 ^ 31) : inR (nI j) n = decide (j < n) := by
  simp only [inR, nI_pos hj, not_false_eq_true, true_and, nI_leI hn hj, Nat.not_le]
theorem lt4 {x : Nat} (h : x < 4096) : x < 2 ^ 31 := Nat.lt_trans h (by decide)
theorem ev_lt {n : Nat} (h : n ≤ 12) : 2 ^ n - 1 < 2 ^ 31 := by
  have : 2 ^ n ≤ 2 ^ 12 := Nat.pow_le_pow_right (by decide) h
  omega
/-- what the arguments in a set attack, looked at up to i -/
def tgU (T : Nat → Nat) (k : Nat) : Nat → Nat
  | 0 => 0
  | i + 1 => if k.testBit i then tgU T k i ||| T i else tgU T k i
theorem tgU_lt {T : Nat → Nat} (hT : ∀ a, T a < 4096) (k i : Nat) : tgU T k i < 4096 := by
  induction i with
  | zero => exact Nat.zero_lt_succ _
  | succ i ih =>
    simp only [tgU]
    split
    · exact Nat.or_lt_two_pow (n := 12) ih (hT i)
    · exact ih
def putT (on : Bool) (T : Nat → Nat) (i j : Nat) : Nat → Nat := va_up T i (if on then T i ||| 2 ^ j else dif (T i) (2 ^ j))
end
section
theorem d_Senses_init_0 : decode k_Senses_init 0 = .ok (.aload_n 0, 1) := by decide +kernel
theorem d_Senses_init_1 : decode k_Senses_init 1 = .ok (.invokespecial 3, 3) := by decide +kernel
theorem d_Senses_init_4 : decode k_Senses_init 4 = .ok (.aload_n 0, 1) := by decide +kernel
theorem d_Senses_init_5 : decode k_Senses_init 5 = .ok (.sipush 4096, 3) := by decide +kernel
theorem d_Senses_init_8 : decode k_Senses_init 8 = .ok (.newarray .int, 2) := by decide +kernel
theorem d_Senses_init_10 : decode k_Senses_init 10 = .ok (.putfield 9, 3) := by decide +kernel
theorem d_Senses_init_13 : decode k_Senses_init 13 = .ok (.aload_n 0, 1) := by decide +kernel
theorem d_Senses_init_14 : decode k_Senses_init 14 = .ok (.sipush 4096, 3) := by decide +kernel
theorem d_Senses_init_17 : decode k_Senses_init 17 = .ok (.newarray .int, 2) := by decide +kernel
theorem d_Senses_init_19 : decode k_Senses_init 19 = .ok (.putfield 15, 3) := by decide +kernel
theorem d_Senses_init_22 : decode k_Senses_init 22 = .ok (.aload_n 0, 1) := by decide +kernel
theorem d_Senses_init_23 : decode k_Senses_init 23 = .ok (.sipush 924, 3) := by decide +kernel
theorem d_Senses_init_26 : decode k_Senses_init 26 = .ok (.newarray .int, 2) := by decide +kernel
theorem d_Senses_init_28 : decode k_Senses_init 28 = .ok (.putfield 18, 3) := by decide +kernel
theorem d_Senses_init_31 : decode k_Senses_init 31 = .ok (.aload_n 0, 1) := by decide +kernel
theorem d_Senses_init_32 : decode k_Senses_init 32 = .ok (.iconst 0, 1) := by decide +kernel
theorem d_Senses_init_33 : decode k_Senses_init 33 = .ok (.putfield 21, 3) := by decide +kernel
theorem d_Senses_init_36 : decode k_Senses_init 36 = .ok (.aload_n 0, 1) := by decide +kernel
theorem d_Senses_init_37 : decode k_Senses_init 37 = .ok (.iconst 0, 1) := by decide +kernel
theorem d_Senses_init_38 : decode k_Senses_init 38 = .ok (.putfield 25, 3) := by decide +kernel
theorem d_Senses_init_41 : decode k_Senses_init 41 = .ok (.aload_n 0, 1) := by decide +kernel
theorem d_Senses_init_42 : decode k_Senses_init 42 = .ok (.iconst 0, 1) := by decide +kernel
theorem d_Senses_init_43 : decode k_Senses_init 43 = .ok (.putfield 28, 3) := by decide +kernel
theorem d_Senses_init_46 : decode k_Senses_init 46 = .ok (.return_, 1) := by decide +kernel
theorem d_Listing_init_0 : decode k_Listing_init 0 = .ok (.aload_n 0, 1) := by decide +kernel
theorem d_Listing_init_1 : decode k_Listing_init 1 = .ok (.invokespecial 3, 3) := by decide +kernel
theorem d_Listing_init_4 : decode k_Listing_init 4 = .ok (.aload_n 0, 1) := by decide +kernel
theorem d_Listing_init_5 : decode k_Listing_init 5 = .ok (.iconst 0, 1) := by decide +kernel
theorem d_Listing_init_6 : decode k_Listing_init 6 = .ok (.putfield 9, 3) := by decide +kernel
theorem d_Listing_init_9 : decode k_Listing_init 9 = .ok (.aload_n 0, 1) := by decide +kernel
theorem d_Listing_init_10 : decode k_Listing_init 10 = .ok (.iconst 0, 1) := by decide +kernel
theorem d_Listing_init_11 : decode k_Listing_init 11 = .ok (.putfield 15, 3) := by decide +kernel
theorem d_Listing_init_14 : decode k_Listing_init 14 = .ok (.aload_n 0, 1) := by decide +kernel
theorem d_Listing_init_15 : decode k_Listing_init 15 = .ok (.iconst 0, 1) := by decide +kernel
theorem d_Listing_init_16 : decode k_Listing_init 16 = .ok (.putfield 19, 3) := by decide +kernel
theorem d_Listing_init_19 : decode k_Listing_init 19 = .ok (.aload_n 0, 1) := by decide +kernel
theorem d_Listing_init_20 : decode k_Listing_init 20 = .ok (.iconst (-1), 1) := by decide +kernel
theorem d_Listing_init_21 : decode k_Listing_init 21 = .ok (.putfield 22, 3) := by decide +kernel
theorem d_Listing_init_24 : decode k_Listing_init 24 = .ok (.return_, 1) := by decide +kernel
theorem d_Grounds_init_0 : decode k_Grounds_init 0 = .ok (.aload_n 0, 1) := by decide +kernel
theorem d_Grounds_init_1 : decode k_Grounds_init 1 = .ok (.invokespecial 3, 3) := by decide +kernel
theorem d_Grounds_init_4 : decode k_Grounds_init 4 = .ok (.aload_n 0, 1) := by decide +kernel
theorem d_Grounds_init_5 : decode k_Grounds_init 5 = .ok (.bipush 12, 2) := by decide +kernel
theorem d_Grounds_init_7 : decode k_Grounds_init 7 = .ok (.newarray .int, 2) := by decide +kernel
theorem d_Grounds_init_9 : decode k_Grounds_init 9 = .ok (.putfield 9, 3) := by decide +kernel
theorem d_Grounds_init_12 : decode k_Grounds_init 12 = .ok (.aload_n 0, 1) := by decide +kernel
theorem d_Grounds_init_13 : decode k_Grounds_init 13 = .ok (.iconst 0, 1) := by decide +kernel
theorem d_Grounds_init_14 : decode k_Grounds_init 14 = .ok (.putfield 15, 3) := by decide +kernel
theorem d_Grounds_init_17 : decode k_Grounds_init 17 = .ok (.return_, 1) := by decide +kernel
theorem d_Talk_init_0 : decode k_Talk_init 0 = .ok (.aload_n 0, 1) := by decide +kernel
theorem d_Talk_init_1 : decode k_Talk_init 1 = .ok (.invokespecial 3, 3) := by decide +kernel
theorem d_Talk_init_4 : decode k_Talk_init 4 = .ok (.aload_n 0, 1) := by decide +kernel
theorem d_Talk_init_5 : decode k_Talk_init 5 = .ok (.sipush 500, 3) := by decide +kernel
theorem d_Talk_init_8 : decode k_Talk_init 8 = .ok (.newarray .int, 2) := by decide +kernel
theorem d_Talk_init_10 : decode k_Talk_init 10 = .ok (.putfield 9, 3) := by decide +kernel
theorem d_Talk_init_13 : decode k_Talk_init 13 = .ok (.aload_n 0, 1) := by decide +kernel
theorem d_Talk_init_14 : decode k_Talk_init 14 = .ok (.sipush 500, 3) := by decide +kernel
theorem d_Talk_init_17 : decode k_Talk_init 17 = .ok (.newarray .int, 2) := by decide +kernel
theorem d_Talk_init_19 : decode k_Talk_init 19 = .ok (.putfield 15, 3) := by decide +kernel
theorem d_Talk_init_22 : decode k_Talk_init 22 = .ok (.aload_n 0, 1) := by decide +kernel
theorem d_Talk_init_23 : decode k_Talk_init 23 = .ok (.sipush 500, 3) := by decide +kernel
theorem d_Talk_init_26 : decode k_Talk_init 26 = .ok (.newarray .int, 2) := by decide +kernel
theorem d_Talk_init_28 : decode k_Talk_init 28 = .ok (.putfield 18, 3) := by decide +kernel
theorem d_Talk_init_31 : decode k_Talk_init 31 = .ok (.aload_n 0, 1) := by decide +kernel
theorem d_Talk_init_32 : decode k_Talk_init 32 = .ok (.iconst 0, 1) := by decide +kernel
theorem d_Talk_init_33 : decode k_Talk_init 33 = .ok (.putfield 21, 3) := by decide +kernel
theorem d_Talk_init_36 : decode k_Talk_init 36 = .ok (.aload_n 0, 1) := by decide +kernel
theorem d_Talk_init_37 : decode k_Talk_init 37 = .ok (.iconst 0, 1) := by decide +kernel
theorem d_Talk_init_38 : decode k_Talk_init 38 = .ok (.putfield 25, 3) := by decide +kernel
theorem d_Talk_init_41 : decode k_Talk_init 41 = .ok (.return_, 1) := by decide +kernel
theorem d_Rings_init_0 : decode k_Rings_init 0 = .ok (.aload_n 0, 1) := by decide +kernel
theorem d_Rings_init_1 : decode k_Rings_init 1 = .ok (.invokespecial 3, 3) := by decide +kernel
theorem d_Rings_init_4 : decode k_Rings_init 4 = .ok (.aload_n 0, 1) := by decide +kernel
theorem d_Rings_init_5 : decode k_Rings_init 5 = .ok (.bipush 12, 2) := by decide +kernel
theorem d_Rings_init_7 : decode k_Rings_init 7 = .ok (.newarray .int, 2) := by decide +kernel
theorem d_Rings_init_9 : decode k_Rings_init 9 = .ok (.putfield 9, 3) := by decide +kernel
theorem d_Rings_init_12 : decode k_Rings_init 12 = .ok (.aload_n 0, 1) := by decide +kernel
theorem d_Rings_init_13 : decode k_Rings_init 13 = .ok (.bipush 12, 2) := by decide +kernel
theorem d_Rings_init_15 : decode k_Rings_init 15 = .ok (.newarray .int, 2) := by decide +kernel
theorem d_Rings_init_17 : decode k_Rings_init 17 = .ok (.putfield 15, 3) := by decide +kernel
theorem d_Rings_init_20 : decode k_Rings_init 20 = .ok (.aload_n 0, 1) := by decide +kernel
theorem d_Rings_init_21 : decode k_Rings_init 21 = .ok (.iconst 0, 1) := by decide +kernel
theorem d_Rings_init_22 : decode k_Rings_init 22 = .ok (.putfield 18, 3) := by decide +kernel
theorem d_Rings_init_25 : decode k_Rings_init 25 = .ok (.return_, 1) := by decide +kernel
theorem d_Listing_end_0 : decode k_Listing_end 0 = .ok (.aload_n 0, 1) := by decide +kernel
theorem d_Listing_end_1 : decode k_Listing_end 1 = .ok (.iconst 0, 1) := by decide +kernel
theorem d_Listing_end_2 : decode k_Listing_end 2 = .ok (.putfield 9, 3) := by decide +kernel
theorem d_Listing_end_5 : decode k_Listing_end 5 = .ok (.aload_n 0, 1) := by decide +kernel
theorem d_Listing_end_6 : decode k_Listing_end 6 = .ok (.iconst (-1), 1) := by decide +kernel
theorem d_Listing_end_7 : decode k_Listing_end 7 = .ok (.putfield 22, 3) := by decide +kernel
theorem d_Listing_end_10 : decode k_Listing_end 10 = .ok (.return_, 1) := by decide +kernel
theorem d_Senses_forget_0 : decode k_Senses_forget 0 = .ok (.aload_n 0, 1) := by decide +kernel
theorem d_Senses_forget_1 : decode k_Senses_forget 1 = .ok (.iconst 0, 1) := by decide +kernel
theorem d_Senses_forget_2 : decode k_Senses_forget 2 = .ok (.putfield 28, 3) := by decide +kernel
theorem d_Senses_forget_5 : decode k_Senses_forget 5 = .ok (.return_, 1) := by decide +kernel
theorem d_Senses_learn_0 : decode k_Senses_learn 0 = .ok (.aload_n 0, 1) := by decide +kernel
theorem d_Senses_learn_1 : decode k_Senses_learn 1 = .ok (.getfield 28, 3) := by decide +kernel
theorem d_Senses_learn_4 : decode k_Senses_learn 4 = .ok (.ifCond .eq 4, 3) := by decide +kernel
theorem d_Senses_learn_7 : decode k_Senses_learn 7 = .ok (.return_, 1) := by decide +kernel
theorem d_Senses_learn_8 : decode k_Senses_learn 8 = .ok (.aload_n 0, 1) := by decide +kernel
theorem d_Senses_learn_9 : decode k_Senses_learn 9 = .ok (.aload_n 1, 1) := by decide +kernel
theorem d_Senses_learn_10 : decode k_Senses_learn 10 = .ok (.invokevirtual 32, 3) := by decide +kernel
theorem d_Senses_learn_13 : decode k_Senses_learn 13 = .ok (.putfield 25, 3) := by decide +kernel
theorem d_Senses_learn_16 : decode k_Senses_learn 16 = .ok (.aload_n 0, 1) := by decide +kernel
theorem d_Senses_learn_17 : decode k_Senses_learn 17 = .ok (.aload_n 1, 1) := by decide +kernel
theorem d_Senses_learn_18 : decode k_Senses_learn 18 = .ok (.invokevirtual 37, 3) := by decide +kernel
theorem d_Senses_learn_21 : decode k_Senses_learn 21 = .ok (.iconst 0, 1) := by decide +kernel
theorem d_Senses_learn_22 : decode k_Senses_learn 22 = .ok (.istore_n 2, 1) := by decide +kernel
theorem d_Senses_learn_23 : decode k_Senses_learn 23 = .ok (.iload_n 2, 1) := by decide +kernel
theorem d_Senses_learn_24 : decode k_Senses_learn 24 = .ok (.aload_n 0, 1) := by decide +kernel
theorem d_Senses_learn_25 : decode k_Senses_learn 25 = .ok (.getfield 25, 3) := by decide +kernel
theorem d_Senses_learn_28 : decode k_Senses_learn 28 = .ok (.if_icmp .gt 27, 3) := by decide +kernel
theorem d_Senses_learn_31 : decode k_Senses_learn 31 = .ok (.iload_n 2, 1) := by decide +kernel
theorem d_Senses_learn_32 : decode k_Senses_learn 32 = .ok (.sipush 4096, 3) := by decide +kernel
theorem d_Senses_learn_35 : decode k_Senses_learn 35 = .ok (.if_icmp .ge 20, 3) := by decide +kernel
theorem d_Senses_learn_38 : decode k_Senses_learn 38 = .ok (.aload_n 0, 1) := by decide +kernel
theorem d_Senses_learn_39 : decode k_Senses_learn 39 = .ok (.getfield 15, 3) := by decide +kernel
theorem d_Senses_learn_42 : decode k_Senses_learn 42 = .ok (.iload_n 2, 1) := by decide +kernel
theorem d_Senses_learn_43 : decode k_Senses_learn 43 = .ok (.aload_n 0, 1) := by decide +kernel
theorem d_Senses_learn_44 : decode k_Senses_learn 44 = .ok (.iload_n 2, 1) := by decide +kernel
theorem d_Senses_learn_45 : decode k_Senses_learn 45 = .ok (.invokevirtual 41, 3) := by decide +kernel
theorem d_Senses_learn_48 : decode k_Senses_learn 48 = .ok (.iastore, 1) := by decide +kernel
theorem d_Senses_learn_49 : decode k_Senses_learn 49 = .ok (.iinc 2 1, 3) := by decide +kernel
theorem d_Senses_learn_52 : decode k_Senses_learn 52 = .ok (.goto (-29), 3) := by decide +kernel
theorem d_Senses_learn_55 : decode k_Senses_learn 55 = .ok (.aload_n 0, 1) := by decide +kernel
theorem d_Senses_learn_56 : decode k_Senses_learn 56 = .ok (.invokevirtual 45, 3) := by decide +kernel
theorem d_Senses_learn_59 : decode k_Senses_learn 59 = .ok (.aload_n 0, 1) := by decide +kernel
theorem d_Senses_learn_60 : decode k_Senses_learn 60 = .ok (.invokevirtual 48, 3) := by decide +kernel
theorem d_Senses_learn_63 : decode k_Senses_learn 63 = .ok (.aload_n 0, 1) := by decide +kernel
theorem d_Senses_learn_64 : decode k_Senses_learn 64 = .ok (.invokevirtual 51, 3) := by decide +kernel
theorem d_Senses_learn_67 : decode k_Senses_learn 67 = .ok (.aload_n 0, 1) := by decide +kernel
theorem d_Senses_learn_68 : decode k_Senses_learn 68 = .ok (.iconst 1, 1) := by decide +kernel
theorem d_Senses_learn_69 : decode k_Senses_learn 69 = .ok (.putfield 28, 3) := by decide +kernel
theorem d_Senses_learn_72 : decode k_Senses_learn 72 = .ok (.return_, 1) := by decide +kernel
theorem d_Senses_fillTargets_0 : decode k_Senses_fillTargets 0 = .ok (.aload_n 0, 1) := by decide +kernel
theorem d_Senses_fillTargets_1 : decode k_Senses_fillTargets 1 = .ok (.getfield 9, 3) := by decide +kernel
theorem d_Senses_fillTargets_4 : decode k_Senses_fillTargets 4 = .ok (.iconst 0, 1) := by decide +kernel
theorem d_Senses_fillTargets_5 : decode k_Senses_fillTargets 5 = .ok (.iconst 0, 1) := by decide +kernel
theorem d_Senses_fillTargets_6 : decode k_Senses_fillTargets 6 = .ok (.iastore, 1) := by decide +kernel
theorem d_Senses_fillTargets_7 : decode k_Senses_fillTargets 7 = .ok (.iconst 0, 1) := by decide +kernel
theorem d_Senses_fillTargets_8 : decode k_Senses_fillTargets 8 = .ok (.istore_n 2, 1) := by decide +kernel
theorem d_Senses_fillTargets_9 : decode k_Senses_fillTargets 9 = .ok (.iload_n 2, 1) := by decide +kernel
theorem d_Senses_fillTargets_10 : decode k_Senses_fillTargets 10 = .ok (.aload_n 1, 1) := by decide +kernel
theorem d_Senses_fillTargets_11 : decode k_Senses_fillTargets 11 = .ok (.invokevirtual 64, 3) := by decide +kernel
theorem d_Senses_fillTargets_14 : decode k_Senses_fillTargets 14 = .ok (.if_icmp .ge 60, 3) := by decide +kernel
theorem d_Senses_fillTargets_17 : decode k_Senses_fillTargets 17 = .ok (.iload_n 2, 1) := by decide +kernel
theorem d_Senses_fillTargets_18 : decode k_Senses_fillTargets 18 = .ok (.bipush 12, 2) := by decide +kernel
theorem d_Senses_fillTargets_20 : decode k_Senses_fillTargets 20 = .ok (.if_icmp .ge 54, 3) := by decide +kernel
theorem d_Senses_fillTargets_23 : decode k_Senses_fillTargets 23 = .ok (.iconst 1, 1) := by decide +kernel
theorem d_Senses_fillTargets_24 : decode k_Senses_fillTargets 24 = .ok (.iload_n 2, 1) := by decide +kernel
theorem d_Senses_fillTargets_25 : decode k_Senses_fillTargets 25 = .ok (.ishl, 1) := by decide +kernel
theorem d_Senses_fillTargets_26 : decode k_Senses_fillTargets 26 = .ok (.istore_n 3, 1) := by decide +kernel
theorem d_Senses_fillTargets_27 : decode k_Senses_fillTargets 27 = .ok (.aload_n 1, 1) := by decide +kernel
theorem d_Senses_fillTargets_28 : decode k_Senses_fillTargets 28 = .ok (.iload_n 2, 1) := by decide +kernel
theorem d_Senses_fillTargets_29 : decode k_Senses_fillTargets 29 = .ok (.invokevirtual 67, 3) := by decide +kernel
theorem d_Senses_fillTargets_32 : decode k_Senses_fillTargets 32 = .ok (.istore 4, 2) := by decide +kernel
theorem d_Senses_fillTargets_34 : decode k_Senses_fillTargets 34 = .ok (.iconst 0, 1) := by decide +kernel
theorem d_Senses_fillTargets_35 : decode k_Senses_fillTargets 35 = .ok (.istore 5, 2) := by decide +kernel
theorem d_Senses_fillTargets_37 : decode k_Senses_fillTargets 37 = .ok (.iload 5, 2) := by decide +kernel
theorem d_Senses_fillTargets_39 : decode k_Senses_fillTargets 39 = .ok (.iload_n 3, 1) := by decide +kernel
theorem d_Senses_fillTargets_40 : decode k_Senses_fillTargets 40 = .ok (.if_icmp .ge 28, 3) := by decide +kernel
theorem d_Senses_fillTargets_43 : decode k_Senses_fillTargets 43 = .ok (.aload_n 0, 1) := by decide +kernel
theorem d_Senses_fillTargets_44 : decode k_Senses_fillTargets 44 = .ok (.getfield 9, 3) := by decide +kernel
theorem d_Senses_fillTargets_47 : decode k_Senses_fillTargets 47 = .ok (.iload_n 3, 1) := by decide +kernel
theorem d_Senses_fillTargets_48 : decode k_Senses_fillTargets 48 = .ok (.iload 5, 2) := by decide +kernel
theorem d_Senses_fillTargets_50 : decode k_Senses_fillTargets 50 = .ok (.iadd, 1) := by decide +kernel
theorem d_Senses_fillTargets_51 : decode k_Senses_fillTargets 51 = .ok (.aload_n 0, 1) := by decide +kernel
theorem d_Senses_fillTargets_52 : decode k_Senses_fillTargets 52 = .ok (.getfield 9, 3) := by decide +kernel
theorem d_Senses_fillTargets_55 : decode k_Senses_fillTargets 55 = .ok (.iload 5, 2) := by decide +kernel
theorem d_Senses_fillTargets_57 : decode k_Senses_fillTargets 57 = .ok (.iaload, 1) := by decide +kernel
theorem d_Senses_fillTargets_58 : decode k_Senses_fillTargets 58 = .ok (.iload 4, 2) := by decide +kernel
theorem d_Senses_fillTargets_60 : decode k_Senses_fillTargets 60 = .ok (.ior, 1) := by decide +kernel
theorem d_Senses_fillTargets_61 : decode k_Senses_fillTargets 61 = .ok (.iastore, 1) := by decide +kernel
theorem d_Senses_fillTargets_62 : decode k_Senses_fillTargets 62 = .ok (.iinc 5 1, 3) := by decide +kernel
theorem d_Senses_fillTargets_65 : decode k_Senses_fillTargets 65 = .ok (.goto (-28), 3) := by decide +kernel
theorem d_Senses_fillTargets_68 : decode k_Senses_fillTargets 68 = .ok (.iinc 2 1, 3) := by decide +kernel
theorem d_Senses_fillTargets_71 : decode k_Senses_fillTargets 71 = .ok (.goto (-62), 3) := by decide +kernel
theorem d_Senses_fillTargets_74 : decode k_Senses_fillTargets 74 = .ok (.return_, 1) := by decide +kernel
theorem d_Senses_ownMarks_0 : decode k_Senses_ownMarks 0 = .ok (.aload_n 0, 1) := by decide +kernel
theorem d_Senses_ownMarks_1 : decode k_Senses_ownMarks 1 = .ok (.getfield 9, 3) := by decide +kernel
theorem d_Senses_ownMarks_4 : decode k_Senses_ownMarks 4 = .ok (.iload_n 1, 1) := by decide +kernel
theorem d_Senses_ownMarks_5 : decode k_Senses_ownMarks 5 = .ok (.iaload, 1) := by decide +kernel
theorem d_Senses_ownMarks_6 : decode k_Senses_ownMarks 6 = .ok (.istore_n 2, 1) := by decide +kernel
theorem d_Senses_ownMarks_7 : decode k_Senses_ownMarks 7 = .ok (.iload_n 2, 1) := by decide +kernel
theorem d_Senses_ownMarks_8 : decode k_Senses_ownMarks 8 = .ok (.iload_n 1, 1) := by decide +kernel
theorem d_Senses_ownMarks_9 : decode k_Senses_ownMarks 9 = .ok (.iand, 1) := by decide +kernel
theorem d_Senses_ownMarks_10 : decode k_Senses_ownMarks 10 = .ok (.ifCond .eq 5, 3) := by decide +kernel
theorem d_Senses_ownMarks_13 : decode k_Senses_ownMarks 13 = .ok (.iconst 0, 1) := by decide +kernel
theorem d_Senses_ownMarks_14 : decode k_Senses_ownMarks 14 = .ok (.ireturn, 1) := by decide +kernel
theorem d_Senses_ownMarks_15 : decode k_Senses_ownMarks 15 = .ok (.bipush 32, 2) := by decide +kernel
theorem d_Senses_ownMarks_17 : decode k_Senses_ownMarks 17 = .ok (.istore_n 3, 1) := by decide +kernel
theorem d_Senses_ownMarks_18 : decode k_Senses_ownMarks 18 = .ok (.iload_n 2, 1) := by decide +kernel
theorem d_Senses_ownMarks_19 : decode k_Senses_ownMarks 19 = .ok (.iload_n 1, 1) := by decide +kernel
theorem d_Senses_ownMarks_20 : decode k_Senses_ownMarks 20 = .ok (.ior, 1) := by decide +kernel
theorem d_Senses_ownMarks_21 : decode k_Senses_ownMarks 21 = .ok (.aload_n 0, 1) := by decide +kernel
theorem d_Senses_ownMarks_22 : decode k_Senses_ownMarks 22 = .ok (.getfield 25, 3) := by decide +kernel
theorem d_Senses_ownMarks_25 : decode k_Senses_ownMarks 25 = .ok (.if_icmp .ne 7, 3) := by decide +kernel
theorem d_Senses_ownMarks_28 : decode k_Senses_ownMarks 28 = .ok (.iload_n 3, 1) := by decide +kernel
theorem d_Senses_ownMarks_29 : decode k_Senses_ownMarks 29 = .ok (.iconst 4, 1) := by decide +kernel
theorem d_Senses_ownMarks_30 : decode k_Senses_ownMarks 30 = .ok (.ior, 1) := by decide +kernel
theorem d_Senses_ownMarks_31 : decode k_Senses_ownMarks 31 = .ok (.istore_n 3, 1) := by decide +kernel
theorem d_Senses_ownMarks_32 : decode k_Senses_ownMarks 32 = .ok (.aload_n 0, 1) := by decide +kernel
theorem d_Senses_ownMarks_33 : decode k_Senses_ownMarks 33 = .ok (.getfield 25, 3) := by decide +kernel
theorem d_Senses_ownMarks_36 : decode k_Senses_ownMarks 36 = .ok (.aload_n 0, 1) := by decide +kernel
theorem d_Senses_ownMarks_37 : decode k_Senses_ownMarks 37 = .ok (.getfield 9, 3) := by decide +kernel
theorem d_Senses_ownMarks_40 : decode k_Senses_ownMarks 40 = .ok (.aload_n 0, 1) := by decide +kernel
theorem d_Senses_ownMarks_41 : decode k_Senses_ownMarks 41 = .ok (.getfield 25, 3) := by decide +kernel
theorem d_Senses_ownMarks_44 : decode k_Senses_ownMarks 44 = .ok (.iload_n 2, 1) := by decide +kernel
theorem d_Senses_ownMarks_45 : decode k_Senses_ownMarks 45 = .ok (.iconst (-1), 1) := by decide +kernel
theorem d_Senses_ownMarks_46 : decode k_Senses_ownMarks 46 = .ok (.ixor, 1) := by decide +kernel
theorem d_Senses_ownMarks_47 : decode k_Senses_ownMarks 47 = .ok (.iand, 1) := by decide +kernel
theorem d_Senses_ownMarks_48 : decode k_Senses_ownMarks 48 = .ok (.iaload, 1) := by decide +kernel
theorem d_Senses_ownMarks_49 : decode k_Senses_ownMarks 49 = .ok (.iconst (-1), 1) := by decide +kernel
theorem d_Senses_ownMarks_50 : decode k_Senses_ownMarks 50 = .ok (.ixor, 1) := by decide +kernel
theorem d_Senses_ownMarks_51 : decode k_Senses_ownMarks 51 = .ok (.iand, 1) := by decide +kernel
theorem d_Senses_ownMarks_52 : decode k_Senses_ownMarks 52 = .ok (.istore 4, 2) := by decide +kernel
theorem d_Senses_ownMarks_54 : decode k_Senses_ownMarks 54 = .ok (.iload_n 1, 1) := by decide +kernel
theorem d_Senses_ownMarks_55 : decode k_Senses_ownMarks 55 = .ok (.iload 4, 2) := by decide +kernel
theorem d_Senses_ownMarks_57 : decode k_Senses_ownMarks 57 = .ok (.invokestatic 61, 3) := by decide +kernel
theorem d_Senses_ownMarks_60 : decode k_Senses_ownMarks 60 = .ok (.ifCond .eq 8, 3) := by decide +kernel
theorem d_Senses_ownMarks_63 : decode k_Senses_ownMarks 63 = .ok (.iload_n 3, 1) := by decide +kernel
theorem d_Senses_ownMarks_64 : decode k_Senses_ownMarks 64 = .ok (.bipush 16, 2) := by decide +kernel
theorem d_Senses_ownMarks_66 : decode k_Senses_ownMarks 66 = .ok (.ior, 1) := by decide +kernel
theorem d_Senses_ownMarks_67 : decode k_Senses_ownMarks 67 = .ok (.istore_n 3, 1) := by decide +kernel
theorem d_Senses_ownMarks_68 : decode k_Senses_ownMarks 68 = .ok (.iload_n 1, 1) := by decide +kernel
theorem d_Senses_ownMarks_69 : decode k_Senses_ownMarks 69 = .ok (.iload 4, 2) := by decide +kernel
theorem d_Senses_ownMarks_71 : decode k_Senses_ownMarks 71 = .ok (.if_icmp .ne 7, 3) := by decide +kernel
theorem d_Senses_ownMarks_74 : decode k_Senses_ownMarks 74 = .ok (.iload_n 3, 1) := by decide +kernel
theorem d_Senses_ownMarks_75 : decode k_Senses_ownMarks 75 = .ok (.iconst 1, 1) := by decide +kernel
theorem d_Senses_ownMarks_76 : decode k_Senses_ownMarks 76 = .ok (.ior, 1) := by decide +kernel
theorem d_Senses_ownMarks_77 : decode k_Senses_ownMarks 77 = .ok (.istore_n 3, 1) := by decide +kernel
theorem d_Senses_ownMarks_78 : decode k_Senses_ownMarks 78 = .ok (.iload_n 3, 1) := by decide +kernel
theorem d_Senses_ownMarks_79 : decode k_Senses_ownMarks 79 = .ok (.ireturn, 1) := by decide +kernel
theorem d_Senses_markPreferred_0 : decode k_Senses_markPreferred 0 = .ok (.aload_n 0, 1) := by decide +kernel
theorem d_Senses_markPreferred_1 : decode k_Senses_markPreferred 1 = .ok (.iconst 0, 1) := by decide +kernel
theorem d_Senses_markPreferred_2 : decode k_Senses_markPreferred 2 = .ok (.putfield 21, 3) := by decide +kernel
theorem d_Senses_markPreferred_5 : decode k_Senses_markPreferred 5 = .ok (.aload_n 0, 1) := by decide +kernel
theorem d_Senses_markPreferred_6 : decode k_Senses_markPreferred 6 = .ok (.getfield 25, 3) := by decide +kernel
theorem d_Senses_markPreferred_9 : decode k_Senses_markPreferred 9 = .ok (.istore_n 1, 1) := by decide +kernel
theorem d_Senses_markPreferred_10 : decode k_Senses_markPreferred 10 = .ok (.iload_n 1, 1) := by decide +kernel
theorem d_Senses_markPreferred_11 : decode k_Senses_markPreferred 11 = .ok (.ifCond .lt 37, 3) := by decide +kernel
theorem d_Senses_markPreferred_14 : decode k_Senses_markPreferred 14 = .ok (.aload_n 0, 1) := by decide +kernel
theorem d_Senses_markPreferred_15 : decode k_Senses_markPreferred 15 = .ok (.iload_n 1, 1) := by decide +kernel
theorem d_Senses_markPreferred_16 : decode k_Senses_markPreferred 16 = .ok (.bipush 16, 2) := by decide +kernel
theorem d_Senses_markPreferred_18 : decode k_Senses_markPreferred 18 = .ok (.invokevirtual 54, 3) := by decide +kernel
theorem d_Senses_markPreferred_21 : decode k_Senses_markPreferred 21 = .ok (.ifCond .eq 21, 3) := by decide +kernel
theorem d_Senses_markPreferred_24 : decode k_Senses_markPreferred 24 = .ok (.aload_n 0, 1) := by decide +kernel
theorem d_Senses_markPreferred_25 : decode k_Senses_markPreferred 25 = .ok (.iload_n 1, 1) := by decide +kernel
theorem d_Senses_markPreferred_26 : decode k_Senses_markPreferred 26 = .ok (.invokevirtual 70, 3) := by decide +kernel
theorem d_Senses_markPreferred_29 : decode k_Senses_markPreferred 29 = .ok (.ifCond .eq 13, 3) := by decide +kernel
theorem d_Senses_markPreferred_32 : decode k_Senses_markPreferred 32 = .ok (.aload_n 0, 1) := by decide +kernel
theorem d_Senses_markPreferred_33 : decode k_Senses_markPreferred 33 = .ok (.getfield 15, 3) := by decide +kernel
theorem d_Senses_markPreferred_36 : decode k_Senses_markPreferred 36 = .ok (.iload_n 1, 1) := by decide +kernel
theorem d_Senses_markPreferred_37 : decode k_Senses_markPreferred 37 = .ok (.dup2, 1) := by decide +kernel
theorem d_Senses_markPreferred_38 : decode k_Senses_markPreferred 38 = .ok (.iaload, 1) := by decide +kernel
theorem d_Senses_markPreferred_39 : decode k_Senses_markPreferred 39 = .ok (.iconst 2, 1) := by decide +kernel
theorem d_Senses_markPreferred_40 : decode k_Senses_markPreferred 40 = .ok (.ior, 1) := by decide +kernel
theorem d_Senses_markPreferred_41 : decode k_Senses_markPreferred 41 = .ok (.iastore, 1) := by decide +kernel
theorem d_Senses_markPreferred_42 : decode k_Senses_markPreferred 42 = .ok (.iinc 1 (-1), 3) := by decide +kernel
theorem d_Senses_markPreferred_45 : decode k_Senses_markPreferred 45 = .ok (.goto (-35), 3) := by decide +kernel
theorem d_Senses_markPreferred_48 : decode k_Senses_markPreferred 48 = .ok (.return_, 1) := by decide +kernel
theorem d_Senses_hasMark_0 : decode k_Senses_hasMark 0 = .ok (.aload_n 0, 1) := by decide +kernel
theorem d_Senses_hasMark_1 : decode k_Senses_hasMark 1 = .ok (.getfield 15, 3) := by decide +kernel
theorem d_Senses_hasMark_4 : decode k_Senses_hasMark 4 = .ok (.iload_n 1, 1) := by decide +kernel
theorem d_Senses_hasMark_5 : decode k_Senses_hasMark 5 = .ok (.iaload, 1) := by decide +kernel
theorem d_Senses_hasMark_6 : decode k_Senses_hasMark 6 = .ok (.iload_n 2, 1) := by decide +kernel
theorem d_Senses_hasMark_7 : decode k_Senses_hasMark 7 = .ok (.iand, 1) := by decide +kernel
theorem d_Senses_hasMark_8 : decode k_Senses_hasMark 8 = .ok (.ifCond .eq 7, 3) := by decide +kernel
theorem d_Senses_hasMark_11 : decode k_Senses_hasMark 11 = .ok (.iconst 1, 1) := by decide +kernel
theorem d_Senses_hasMark_12 : decode k_Senses_hasMark 12 = .ok (.goto 4, 3) := by decide +kernel
theorem d_Senses_hasMark_15 : decode k_Senses_hasMark 15 = .ok (.iconst 0, 1) := by decide +kernel
theorem d_Senses_hasMark_16 : decode k_Senses_hasMark 16 = .ok (.ireturn, 1) := by decide +kernel
theorem d_Senses_isNewTop_0 : decode k_Senses_isNewTop 0 = .ok (.iconst 0, 1) := by decide +kernel
theorem d_Senses_isNewTop_1 : decode k_Senses_isNewTop 1 = .ok (.istore_n 2, 1) := by decide +kernel
theorem d_Senses_isNewTop_2 : decode k_Senses_isNewTop 2 = .ok (.iload_n 2, 1) := by decide +kernel
theorem d_Senses_isNewTop_3 : decode k_Senses_isNewTop 3 = .ok (.aload_n 0, 1) := by decide +kernel
theorem d_Senses_isNewTop_4 : decode k_Senses_isNewTop 4 = .ok (.getfield 21, 3) := by decide +kernel
theorem d_Senses_isNewTop_7 : decode k_Senses_isNewTop 7 = .ok (.if_icmp .ge 24, 3) := by decide +kernel
theorem d_Senses_isNewTop_10 : decode k_Senses_isNewTop 10 = .ok (.iload_n 1, 1) := by decide +kernel
theorem d_Senses_isNewTop_11 : decode k_Senses_isNewTop 11 = .ok (.aload_n 0, 1) := by decide +kernel
theorem d_Senses_isNewTop_12 : decode k_Senses_isNewTop 12 = .ok (.getfield 18, 3) := by decide +kernel
theorem d_Senses_isNewTop_15 : decode k_Senses_isNewTop 15 = .ok (.iload_n 2, 1) := by decide +kernel
theorem d_Senses_isNewTop_16 : decode k_Senses_isNewTop 16 = .ok (.iaload, 1) := by decide +kernel
theorem d_Senses_isNewTop_17 : decode k_Senses_isNewTop 17 = .ok (.invokestatic 61, 3) := by decide +kernel
theorem d_Senses_isNewTop_20 : decode k_Senses_isNewTop 20 = .ok (.ifCond .eq 5, 3) := by decide +kernel
theorem d_Senses_isNewTop_23 : decode k_Senses_isNewTop 23 = .ok (.iconst 0, 1) := by decide +kernel
theorem d_Senses_isNewTop_24 : decode k_Senses_isNewTop 24 = .ok (.ireturn, 1) := by decide +kernel
theorem d_Senses_isNewTop_25 : decode k_Senses_isNewTop 25 = .ok (.iinc 2 1, 3) := by decide +kernel
theorem d_Senses_isNewTop_28 : decode k_Senses_isNewTop 28 = .ok (.goto (-26), 3) := by decide +kernel
theorem d_Senses_isNewTop_31 : decode k_Senses_isNewTop 31 = .ok (.aload_n 0, 1) := by decide +kernel
theorem d_Senses_isNewTop_32 : decode k_Senses_isNewTop 32 = .ok (.getfield 21, 3) := by decide +kernel
theorem d_Senses_isNewTop_35 : decode k_Senses_isNewTop 35 = .ok (.sipush 924, 3) := by decide +kernel
theorem d_Senses_isNewTop_38 : decode k_Senses_isNewTop 38 = .ok (.if_icmp .ge 23, 3) := by decide +kernel
theorem d_Senses_isNewTop_41 : decode k_Senses_isNewTop 41 = .ok (.aload_n 0, 1) := by decide +kernel
theorem d_Senses_isNewTop_42 : decode k_Senses_isNewTop 42 = .ok (.getfield 18, 3) := by decide +kernel
theorem d_Senses_isNewTop_45 : decode k_Senses_isNewTop 45 = .ok (.aload_n 0, 1) := by decide +kernel
theorem d_Senses_isNewTop_46 : decode k_Senses_isNewTop 46 = .ok (.getfield 21, 3) := by decide +kernel
theorem d_Senses_isNewTop_49 : decode k_Senses_isNewTop 49 = .ok (.iload_n 1, 1) := by decide +kernel
theorem d_Senses_isNewTop_50 : decode k_Senses_isNewTop 50 = .ok (.iastore, 1) := by decide +kernel
theorem d_Senses_isNewTop_51 : decode k_Senses_isNewTop 51 = .ok (.aload_n 0, 1) := by decide +kernel
theorem d_Senses_isNewTop_52 : decode k_Senses_isNewTop 52 = .ok (.dup, 1) := by decide +kernel
theorem d_Senses_isNewTop_53 : decode k_Senses_isNewTop 53 = .ok (.getfield 21, 3) := by decide +kernel
theorem d_Senses_isNewTop_56 : decode k_Senses_isNewTop 56 = .ok (.iconst 1, 1) := by decide +kernel
theorem d_Senses_isNewTop_57 : decode k_Senses_isNewTop 57 = .ok (.iadd, 1) := by decide +kernel
theorem d_Senses_isNewTop_58 : decode k_Senses_isNewTop 58 = .ok (.putfield 21, 3) := by decide +kernel
theorem d_Senses_isNewTop_61 : decode k_Senses_isNewTop 61 = .ok (.iconst 1, 1) := by decide +kernel
theorem d_Senses_isNewTop_62 : decode k_Senses_isNewTop 62 = .ok (.ireturn, 1) := by decide +kernel
theorem d_Senses_markRanges_0 : decode k_Senses_markRanges 0 = .ok (.iconst 0, 1) := by decide +kernel
theorem d_Senses_markRanges_1 : decode k_Senses_markRanges 1 = .ok (.istore_n 1, 1) := by decide +kernel
theorem d_Senses_markRanges_2 : decode k_Senses_markRanges 2 = .ok (.iload_n 1, 1) := by decide +kernel
theorem d_Senses_markRanges_3 : decode k_Senses_markRanges 3 = .ok (.aload_n 0, 1) := by decide +kernel
theorem d_Senses_markRanges_4 : decode k_Senses_markRanges 4 = .ok (.getfield 25, 3) := by decide +kernel
theorem d_Senses_markRanges_7 : decode k_Senses_markRanges 7 = .ok (.if_icmp .gt 37, 3) := by decide +kernel
theorem d_Senses_markRanges_10 : decode k_Senses_markRanges 10 = .ok (.aload_n 0, 1) := by decide +kernel
theorem d_Senses_markRanges_11 : decode k_Senses_markRanges 11 = .ok (.iload_n 1, 1) := by decide +kernel
theorem d_Senses_markRanges_12 : decode k_Senses_markRanges 12 = .ok (.bipush 32, 2) := by decide +kernel
theorem d_Senses_markRanges_14 : decode k_Senses_markRanges 14 = .ok (.invokevirtual 54, 3) := by decide +kernel
theorem d_Senses_markRanges_17 : decode k_Senses_markRanges 17 = .ok (.ifCond .eq 21, 3) := by decide +kernel
theorem d_Senses_markRanges_20 : decode k_Senses_markRanges 20 = .ok (.aload_n 0, 1) := by decide +kernel
theorem d_Senses_markRanges_21 : decode k_Senses_markRanges 21 = .ok (.getfield 15, 3) := by decide +kernel
theorem d_Senses_markRanges_24 : decode k_Senses_markRanges 24 = .ok (.iload_n 1, 1) := by decide +kernel
theorem d_Senses_markRanges_25 : decode k_Senses_markRanges 25 = .ok (.aload_n 0, 1) := by decide +kernel
theorem d_Senses_markRanges_26 : decode k_Senses_markRanges 26 = .ok (.getfield 9, 3) := by decide +kernel
theorem d_Senses_markRanges_29 : decode k_Senses_markRanges 29 = .ok (.iload_n 1, 1) := by decide +kernel
theorem d_Senses_markRanges_30 : decode k_Senses_markRanges 30 = .ok (.iaload, 1) := by decide +kernel
theorem d_Senses_markRanges_31 : decode k_Senses_markRanges 31 = .ok (.ior, 1) := by decide +kernel
theorem d_Senses_markRanges_32 : decode k_Senses_markRanges 32 = .ok (.dup2, 1) := by decide +kernel
theorem d_Senses_markRanges_33 : decode k_Senses_markRanges 33 = .ok (.iaload, 1) := by decide +kernel
theorem d_Senses_markRanges_34 : decode k_Senses_markRanges 34 = .ok (.bipush 64, 2) := by decide +kernel
theorem d_Senses_markRanges_36 : decode k_Senses_markRanges 36 = .ok (.ior, 1) := by decide +kernel
theorem d_Senses_markRanges_37 : decode k_Senses_markRanges 37 = .ok (.iastore, 1) := by decide +kernel
theorem d_Senses_markRanges_38 : decode k_Senses_markRanges 38 = .ok (.iinc 1 1, 3) := by decide +kernel
theorem d_Senses_markRanges_41 : decode k_Senses_markRanges 41 = .ok (.goto (-39), 3) := by decide +kernel
theorem d_Senses_markRanges_44 : decode k_Senses_markRanges 44 = .ok (.aload_n 0, 1) := by decide +kernel
theorem d_Senses_markRanges_45 : decode k_Senses_markRanges 45 = .ok (.iconst 0, 1) := by decide +kernel
theorem d_Senses_markRanges_46 : decode k_Senses_markRanges 46 = .ok (.putfield 21, 3) := by decide +kernel
theorem d_Senses_markRanges_49 : decode k_Senses_markRanges 49 = .ok (.aload_n 0, 1) := by decide +kernel
theorem d_Senses_markRanges_50 : decode k_Senses_markRanges 50 = .ok (.getfield 25, 3) := by decide +kernel
theorem d_Senses_markRanges_53 : decode k_Senses_markRanges 53 = .ok (.istore_n 1, 1) := by decide +kernel
theorem d_Senses_markRanges_54 : decode k_Senses_markRanges 54 = .ok (.iload_n 1, 1) := by decide +kernel
theorem d_Senses_markRanges_55 : decode k_Senses_markRanges 55 = .ok (.ifCond .lt 39, 3) := by decide +kernel
theorem d_Senses_markRanges_58 : decode k_Senses_markRanges 58 = .ok (.aload_n 0, 1) := by decide +kernel
theorem d_Senses_markRanges_59 : decode k_Senses_markRanges 59 = .ok (.iload_n 1, 1) := by decide +kernel
theorem d_Senses_markRanges_60 : decode k_Senses_markRanges 60 = .ok (.bipush 64, 2) := by decide +kernel
theorem d_Senses_markRanges_62 : decode k_Senses_markRanges 62 = .ok (.invokevirtual 54, 3) := by decide +kernel
theorem d_Senses_markRanges_65 : decode k_Senses_markRanges 65 = .ok (.ifCond .eq 23, 3) := by decide +kernel
theorem d_Senses_markRanges_68 : decode k_Senses_markRanges 68 = .ok (.aload_n 0, 1) := by decide +kernel
theorem d_Senses_markRanges_69 : decode k_Senses_markRanges 69 = .ok (.iload_n 1, 1) := by decide +kernel
theorem d_Senses_markRanges_70 : decode k_Senses_markRanges 70 = .ok (.invokevirtual 70, 3) := by decide +kernel
theorem d_Senses_markRanges_73 : decode k_Senses_markRanges 73 = .ok (.ifCond .eq 15, 3) := by decide +kernel
theorem d_Senses_markRanges_76 : decode k_Senses_markRanges 76 = .ok (.aload_n 0, 1) := by decide +kernel
theorem d_Senses_markRanges_77 : decode k_Senses_markRanges 77 = .ok (.getfield 15, 3) := by decide +kernel
theorem d_Senses_markRanges_80 : decode k_Senses_markRanges 80 = .ok (.iload_n 1, 1) := by decide +kernel
theorem d_Senses_markRanges_81 : decode k_Senses_markRanges 81 = .ok (.dup2, 1) := by decide +kernel
theorem d_Senses_markRanges_82 : decode k_Senses_markRanges 82 = .ok (.iaload, 1) := by decide +kernel
theorem d_Senses_markRanges_83 : decode k_Senses_markRanges 83 = .ok (.sipush 128, 3) := by decide +kernel
theorem d_Senses_markRanges_86 : decode k_Senses_markRanges 86 = .ok (.ior, 1) := by decide +kernel
theorem d_Senses_markRanges_87 : decode k_Senses_markRanges 87 = .ok (.iastore, 1) := by decide +kernel
theorem d_Senses_markRanges_88 : decode k_Senses_markRanges 88 = .ok (.iinc 1 (-1), 3) := by decide +kernel
theorem d_Senses_markRanges_91 : decode k_Senses_markRanges 91 = .ok (.goto (-37), 3) := by decide +kernel
theorem d_Senses_markRanges_94 : decode k_Senses_markRanges 94 = .ok (.return_, 1) := by decide +kernel
theorem d_Senses_markStage_0 : decode k_Senses_markStage 0 = .ok (.iconst 0, 1) := by decide +kernel
theorem d_Senses_markStage_1 : decode k_Senses_markStage 1 = .ok (.istore_n 1, 1) := by decide +kernel
theorem d_Senses_markStage_2 : decode k_Senses_markStage 2 = .ok (.iload_n 1, 1) := by decide +kernel
theorem d_Senses_markStage_3 : decode k_Senses_markStage 3 = .ok (.aload_n 0, 1) := by decide +kernel
theorem d_Senses_markStage_4 : decode k_Senses_markStage 4 = .ok (.getfield 25, 3) := by decide +kernel
theorem d_Senses_markStage_7 : decode k_Senses_markStage 7 = .ok (.if_icmp .gt 48, 3) := by decide +kernel
theorem d_Senses_markStage_10 : decode k_Senses_markStage 10 = .ok (.aload_n 0, 1) := by decide +kernel
theorem d_Senses_markStage_11 : decode k_Senses_markStage 11 = .ok (.iload_n 1, 1) := by decide +kernel
theorem d_Senses_markStage_12 : decode k_Senses_markStage 12 = .ok (.bipush 32, 2) := by decide +kernel
theorem d_Senses_markStage_14 : decode k_Senses_markStage 14 = .ok (.invokevirtual 54, 3) := by decide +kernel
theorem d_Senses_markStage_17 : decode k_Senses_markStage 17 = .ok (.ifCond .eq 32, 3) := by decide +kernel
theorem d_Senses_markStage_20 : decode k_Senses_markStage 20 = .ok (.aload_n 0, 1) := by decide +kernel
theorem d_Senses_markStage_21 : decode k_Senses_markStage 21 = .ok (.iload_n 1, 1) := by decide +kernel
theorem d_Senses_markStage_22 : decode k_Senses_markStage 22 = .ok (.aload_n 0, 1) := by decide +kernel
theorem d_Senses_markStage_23 : decode k_Senses_markStage 23 = .ok (.getfield 9, 3) := by decide +kernel
theorem d_Senses_markStage_26 : decode k_Senses_markStage 26 = .ok (.iload_n 1, 1) := by decide +kernel
theorem d_Senses_markStage_27 : decode k_Senses_markStage 27 = .ok (.iaload, 1) := by decide +kernel
theorem d_Senses_markStage_28 : decode k_Senses_markStage 28 = .ok (.ior, 1) := by decide +kernel
theorem d_Senses_markStage_29 : decode k_Senses_markStage 29 = .ok (.sipush 128, 3) := by decide +kernel
theorem d_Senses_markStage_32 : decode k_Senses_markStage 32 = .ok (.invokevirtual 54, 3) := by decide +kernel
theorem d_Senses_markStage_35 : decode k_Senses_markStage 35 = .ok (.ifCond .eq 14, 3) := by decide +kernel
theorem d_Senses_markStage_38 : decode k_Senses_markStage 38 = .ok (.aload_n 0, 1) := by decide +kernel
theorem d_Senses_markStage_39 : decode k_Senses_markStage 39 = .ok (.getfield 15, 3) := by decide +kernel
theorem d_Senses_markStage_42 : decode k_Senses_markStage 42 = .ok (.iload_n 1, 1) := by decide +kernel
theorem d_Senses_markStage_43 : decode k_Senses_markStage 43 = .ok (.dup2, 1) := by decide +kernel
theorem d_Senses_markStage_44 : decode k_Senses_markStage 44 = .ok (.iaload, 1) := by decide +kernel
theorem d_Senses_markStage_45 : decode k_Senses_markStage 45 = .ok (.bipush 8, 2) := by decide +kernel
theorem d_Senses_markStage_47 : decode k_Senses_markStage 47 = .ok (.ior, 1) := by decide +kernel
theorem d_Senses_markStage_48 : decode k_Senses_markStage 48 = .ok (.iastore, 1) := by decide +kernel
theorem d_Senses_markStage_49 : decode k_Senses_markStage 49 = .ok (.iinc 1 1, 3) := by decide +kernel
theorem d_Senses_markStage_52 : decode k_Senses_markStage 52 = .ok (.goto (-50), 3) := by decide +kernel
theorem d_Senses_markStage_55 : decode k_Senses_markStage 55 = .ok (.return_, 1) := by decide +kernel
theorem d_Senses_isOf_0 : decode k_Senses_isOf 0 = .ok (.iload_n 2, 1) := by decide +kernel
theorem d_Senses_isOf_1 : decode k_Senses_isOf 1 = .ok (.ifCond .lt 25, 3) := by decide +kernel
theorem d_Senses_isOf_4 : decode k_Senses_isOf 4 = .ok (.iload_n 2, 1) := by decide +kernel
theorem d_Senses_isOf_5 : decode k_Senses_isOf 5 = .ok (.sipush 4096, 3) := by decide +kernel
theorem d_Senses_isOf_8 : decode k_Senses_isOf 8 = .ok (.if_icmp .ge 18, 3) := by decide +kernel
theorem d_Senses_isOf_11 : decode k_Senses_isOf 11 = .ok (.aload_n 0, 1) := by decide +kernel
theorem d_Senses_isOf_12 : decode k_Senses_isOf 12 = .ok (.iload_n 2, 1) := by decide +kernel
theorem d_Senses_isOf_13 : decode k_Senses_isOf 13 = .ok (.iconst 1, 1) := by decide +kernel
theorem d_Senses_isOf_14 : decode k_Senses_isOf 14 = .ok (.iload_n 1, 1) := by decide +kernel
theorem d_Senses_isOf_15 : decode k_Senses_isOf 15 = .ok (.ishl, 1) := by decide +kernel
theorem d_Senses_isOf_16 : decode k_Senses_isOf 16 = .ok (.invokevirtual 54, 3) := by decide +kernel
theorem d_Senses_isOf_19 : decode k_Senses_isOf 19 = .ok (.ifCond .eq 7, 3) := by decide +kernel
theorem d_Senses_isOf_22 : decode k_Senses_isOf 22 = .ok (.iconst 1, 1) := by decide +kernel
theorem d_Senses_isOf_23 : decode k_Senses_isOf 23 = .ok (.goto 4, 3) := by decide +kernel
theorem d_Senses_isOf_26 : decode k_Senses_isOf 26 = .ok (.iconst 0, 1) := by decide +kernel
theorem d_Senses_isOf_27 : decode k_Senses_isOf 27 = .ok (.ireturn, 1) := by decide +kernel
theorem d_Grounds_settle_0 : decode k_Grounds_settle 0 = .ok (.aload_n 0, 1) := by decide +kernel
theorem d_Grounds_settle_1 : decode k_Grounds_settle 1 = .ok (.iconst 0, 1) := by decide +kernel
theorem d_Grounds_settle_2 : decode k_Grounds_settle 2 = .ok (.putfield 15, 3) := by decide +kernel
theorem d_Grounds_settle_5 : decode k_Grounds_settle 5 = .ok (.iconst 0, 1) := by decide +kernel
theorem d_Grounds_settle_6 : decode k_Grounds_settle 6 = .ok (.istore_n 2, 1) := by decide +kernel
theorem d_Grounds_settle_7 : decode k_Grounds_settle 7 = .ok (.iload_n 2, 1) := by decide +kernel
theorem d_Grounds_settle_8 : decode k_Grounds_settle 8 = .ok (.bipush 12, 2) := by decide +kernel
theorem d_Grounds_settle_10 : decode k_Grounds_settle 10 = .ok (.if_icmp .ge 16, 3) := by decide +kernel
theorem d_Grounds_settle_13 : decode k_Grounds_settle 13 = .ok (.aload_n 0, 1) := by decide +kernel
theorem d_Grounds_settle_14 : decode k_Grounds_settle 14 = .ok (.getfield 9, 3) := by decide +kernel
theorem d_Grounds_settle_17 : decode k_Grounds_settle 17 = .ok (.iload_n 2, 1) := by decide +kernel
theorem d_Grounds_settle_18 : decode k_Grounds_settle 18 = .ok (.iconst 0, 1) := by decide +kernel
theorem d_Grounds_settle_19 : decode k_Grounds_settle 19 = .ok (.iastore, 1) := by decide +kernel
theorem d_Grounds_settle_20 : decode k_Grounds_settle 20 = .ok (.iinc 2 1, 3) := by decide +kernel
theorem d_Grounds_settle_23 : decode k_Grounds_settle 23 = .ok (.goto (-16), 3) := by decide +kernel
theorem d_Grounds_settle_26 : decode k_Grounds_settle 26 = .ok (.iconst 1, 1) := by decide +kernel
theorem d_Grounds_settle_27 : decode k_Grounds_settle 27 = .ok (.istore_n 2, 1) := by decide +kernel
theorem d_Grounds_settle_28 : decode k_Grounds_settle 28 = .ok (.iload_n 2, 1) := by decide +kernel
theorem d_Grounds_settle_29 : decode k_Grounds_settle 29 = .ok (.bipush 12, 2) := by decide +kernel
theorem d_Grounds_settle_31 : decode k_Grounds_settle 31 = .ok (.if_icmp .gt 36, 3) := by decide +kernel
theorem d_Grounds_settle_34 : decode k_Grounds_settle 34 = .ok (.aload_n 1, 1) := by decide +kernel
theorem d_Grounds_settle_35 : decode k_Grounds_settle 35 = .ok (.aload_n 0, 1) := by decide +kernel
theorem d_Grounds_settle_36 : decode k_Grounds_settle 36 = .ok (.getfield 15, 3) := by decide +kernel
theorem d_Grounds_settle_39 : decode k_Grounds_settle 39 = .ok (.invokevirtual 19, 3) := by decide +kernel
theorem d_Grounds_settle_42 : decode k_Grounds_settle 42 = .ok (.istore_n 3, 1) := by decide +kernel
theorem d_Grounds_settle_43 : decode k_Grounds_settle 43 = .ok (.aload_n 0, 1) := by decide +kernel
theorem d_Grounds_settle_44 : decode k_Grounds_settle 44 = .ok (.iload_n 3, 1) := by decide +kernel
theorem d_Grounds_settle_45 : decode k_Grounds_settle 45 = .ok (.aload_n 0, 1) := by decide +kernel
theorem d_Grounds_settle_46 : decode k_Grounds_settle 46 = .ok (.getfield 15, 3) := by decide +kernel
theorem d_Grounds_settle_49 : decode k_Grounds_settle 49 = .ok (.iconst (-1), 1) := by decide +kernel
theorem d_Grounds_settle_50 : decode k_Grounds_settle 50 = .ok (.ixor, 1) := by decide +kernel
theorem d_Grounds_settle_51 : decode k_Grounds_settle 51 = .ok (.iand, 1) := by decide +kernel
theorem d_Grounds_settle_52 : decode k_Grounds_settle 52 = .ok (.iload_n 2, 1) := by decide +kernel
theorem d_Grounds_settle_53 : decode k_Grounds_settle 53 = .ok (.invokevirtual 25, 3) := by decide +kernel
theorem d_Grounds_settle_56 : decode k_Grounds_settle 56 = .ok (.aload_n 0, 1) := by decide +kernel
theorem d_Grounds_settle_57 : decode k_Grounds_settle 57 = .ok (.iload_n 3, 1) := by decide +kernel
theorem d_Grounds_settle_58 : decode k_Grounds_settle 58 = .ok (.putfield 15, 3) := by decide +kernel
theorem d_Grounds_settle_61 : decode k_Grounds_settle 61 = .ok (.iinc 2 1, 3) := by decide +kernel
theorem d_Grounds_settle_64 : decode k_Grounds_settle 64 = .ok (.goto (-36), 3) := by decide +kernel
theorem d_Grounds_settle_67 : decode k_Grounds_settle 67 = .ok (.return_, 1) := by decide +kernel
theorem d_Grounds_noteRound_0 : decode k_Grounds_noteRound 0 = .ok (.iconst 0, 1) := by decide +kernel
theorem d_Grounds_noteRound_1 : decode k_Grounds_noteRound 1 = .ok (.istore_n 3, 1) := by decide +kernel
theorem d_Grounds_noteRound_2 : decode k_Grounds_noteRound 2 = .ok (.iload_n 3, 1) := by decide +kernel
theorem d_Grounds_noteRound_3 : decode k_Grounds_noteRound 3 = .ok (.bipush 12, 2) := by decide +kernel
theorem d_Grounds_noteRound_5 : decode k_Grounds_noteRound 5 = .ok (.if_icmp .ge 24, 3) := by decide +kernel
theorem d_Grounds_noteRound_8 : decode k_Grounds_noteRound 8 = .ok (.iload_n 3, 1) := by decide +kernel
theorem d_Grounds_noteRound_9 : decode k_Grounds_noteRound 9 = .ok (.iload_n 1, 1) := by decide +kernel
theorem d_Grounds_noteRound_10 : decode k_Grounds_noteRound 10 = .ok (.invokestatic 29, 3) := by decide +kernel
theorem d_Grounds_noteRound_13 : decode k_Grounds_noteRound 13 = .ok (.ifCond .eq 10, 3) := by decide +kernel
theorem d_Grounds_noteRound_16 : decode k_Grounds_noteRound 16 = .ok (.aload_n 0, 1) := by decide +kernel
theorem d_Grounds_noteRound_17 : decode k_Grounds_noteRound 17 = .ok (.getfield 9, 3) := by decide +kernel
theorem d_Grounds_noteRound_20 : decode k_Grounds_noteRound 20 = .ok (.iload_n 3, 1) := by decide +kernel
theorem d_Grounds_noteRound_21 : decode k_Grounds_noteRound 21 = .ok (.iload_n 2, 1) := by decide +kernel
theorem d_Grounds_noteRound_22 : decode k_Grounds_noteRound 22 = .ok (.iastore, 1) := by decide +kernel
theorem d_Grounds_noteRound_23 : decode k_Grounds_noteRound 23 = .ok (.iinc 3 1, 3) := by decide +kernel
theorem d_Grounds_noteRound_26 : decode k_Grounds_noteRound 26 = .ok (.goto (-24), 3) := by decide +kernel
theorem d_Grounds_noteRound_29 : decode k_Grounds_noteRound 29 = .ok (.return_, 1) := by decide +kernel
theorem d_Grounds_all_0 : decode k_Grounds_all 0 = .ok (.aload_n 0, 1) := by decide +kernel
theorem d_Grounds_all_1 : decode k_Grounds_all 1 = .ok (.getfield 15, 3) := by decide +kernel
theorem d_Grounds_all_4 : decode k_Grounds_all 4 = .ok (.ireturn, 1) := by decide +kernel
theorem d_Grounds_roundOf_0 : decode k_Grounds_roundOf 0 = .ok (.iload_n 1, 1) := by decide +kernel
theorem d_Grounds_roundOf_1 : decode k_Grounds_roundOf 1 = .ok (.ifCond .lt 18, 3) := by decide +kernel
theorem d_Grounds_roundOf_4 : decode k_Grounds_roundOf 4 = .ok (.iload_n 1, 1) := by decide +kernel
theorem d_Grounds_roundOf_5 : decode k_Grounds_roundOf 5 = .ok (.bipush 12, 2) := by decide +kernel
theorem d_Grounds_roundOf_7 : decode k_Grounds_roundOf 7 = .ok (.if_icmp .ge 12, 3) := by decide +kernel
theorem d_Grounds_roundOf_10 : decode k_Grounds_roundOf 10 = .ok (.aload_n 0, 1) := by decide +kernel
theorem d_Grounds_roundOf_11 : decode k_Grounds_roundOf 11 = .ok (.getfield 9, 3) := by decide +kernel
theorem d_Grounds_roundOf_14 : decode k_Grounds_roundOf 14 = .ok (.iload_n 1, 1) := by decide +kernel
theorem d_Grounds_roundOf_15 : decode k_Grounds_roundOf 15 = .ok (.iaload, 1) := by decide +kernel
theorem d_Grounds_roundOf_16 : decode k_Grounds_roundOf 16 = .ok (.goto 4, 3) := by decide +kernel
theorem d_Grounds_roundOf_19 : decode k_Grounds_roundOf 19 = .ok (.iconst 0, 1) := by decide +kernel
theorem d_Grounds_roundOf_20 : decode k_Grounds_roundOf 20 = .ok (.ireturn, 1) := by decide +kernel
theorem d_Senses_meet_0 : decode k_Senses_meet 0 = .ok (.aload_n 0, 1) := by decide +kernel
theorem d_Senses_meet_1 : decode k_Senses_meet 1 = .ok (.getfield 25, 3) := by decide +kernel
theorem d_Senses_meet_4 : decode k_Senses_meet 4 = .ok (.istore_n 2, 1) := by decide +kernel
theorem d_Senses_meet_5 : decode k_Senses_meet 5 = .ok (.iconst 0, 1) := by decide +kernel
theorem d_Senses_meet_6 : decode k_Senses_meet 6 = .ok (.istore_n 3, 1) := by decide +kernel
theorem d_Senses_meet_7 : decode k_Senses_meet 7 = .ok (.iload_n 3, 1) := by decide +kernel
theorem d_Senses_meet_8 : decode k_Senses_meet 8 = .ok (.aload_n 0, 1) := by decide +kernel
theorem d_Senses_meet_9 : decode k_Senses_meet 9 = .ok (.getfield 25, 3) := by decide +kernel
theorem d_Senses_meet_12 : decode k_Senses_meet 12 = .ok (.if_icmp .gt 22, 3) := by decide +kernel
theorem d_Senses_meet_15 : decode k_Senses_meet 15 = .ok (.aload_n 0, 1) := by decide +kernel
theorem d_Senses_meet_16 : decode k_Senses_meet 16 = .ok (.iload_n 1, 1) := by decide +kernel
theorem d_Senses_meet_17 : decode k_Senses_meet 17 = .ok (.iload_n 3, 1) := by decide +kernel
theorem d_Senses_meet_18 : decode k_Senses_meet 18 = .ok (.invokevirtual 58, 3) := by decide +kernel
theorem d_Senses_meet_21 : decode k_Senses_meet 21 = .ok (.ifCond .eq 7, 3) := by decide +kernel
theorem d_Senses_meet_24 : decode k_Senses_meet 24 = .ok (.iload_n 2, 1) := by decide +kernel
theorem d_Senses_meet_25 : decode k_Senses_meet 25 = .ok (.iload_n 3, 1) := by decide +kernel
theorem d_Senses_meet_26 : decode k_Senses_meet 26 = .ok (.iand, 1) := by decide +kernel
theorem d_Senses_meet_27 : decode k_Senses_meet 27 = .ok (.istore_n 2, 1) := by decide +kernel
theorem d_Senses_meet_28 : decode k_Senses_meet 28 = .ok (.iinc 3 1, 3) := by decide +kernel
theorem d_Senses_meet_31 : decode k_Senses_meet 31 = .ok (.goto (-24), 3) := by decide +kernel
theorem d_Senses_meet_34 : decode k_Senses_meet 34 = .ok (.iload_n 2, 1) := by decide +kernel
theorem d_Senses_meet_35 : decode k_Senses_meet 35 = .ok (.ireturn, 1) := by decide +kernel
theorem d_Senses_joinWithin_0 : decode k_Senses_joinWithin 0 = .ok (.iconst 0, 1) := by decide +kernel
theorem d_Senses_joinWithin_1 : decode k_Senses_joinWithin 1 = .ok (.istore_n 3, 1) := by decide +kernel
theorem d_Senses_joinWithin_2 : decode k_Senses_joinWithin 2 = .ok (.iconst 0, 1) := by decide +kernel
theorem d_Senses_joinWithin_3 : decode k_Senses_joinWithin 3 = .ok (.istore 4, 2) := by decide +kernel
theorem d_Senses_joinWithin_5 : decode k_Senses_joinWithin 5 = .ok (.iload 4, 2) := by decide +kernel
theorem d_Senses_joinWithin_7 : decode k_Senses_joinWithin 7 = .ok (.aload_n 0, 1) := by decide +kernel
theorem d_Senses_joinWithin_8 : decode k_Senses_joinWithin 8 = .ok (.getfield 25, 3) := by decide +kernel
theorem d_Senses_joinWithin_11 : decode k_Senses_joinWithin 11 = .ok (.if_icmp .gt 33, 3) := by decide +kernel
theorem d_Senses_joinWithin_14 : decode k_Senses_joinWithin 14 = .ok (.iload 4, 2) := by decide +kernel
theorem d_Senses_joinWithin_16 : decode k_Senses_joinWithin 16 = .ok (.iload_n 2, 1) := by decide +kernel
theorem d_Senses_joinWithin_17 : decode k_Senses_joinWithin 17 = .ok (.invokestatic 61, 3) := by decide +kernel
theorem d_Senses_joinWithin_20 : decode k_Senses_joinWithin 20 = .ok (.ifCond .eq 18, 3) := by decide +kernel
theorem d_Senses_joinWithin_23 : decode k_Senses_joinWithin 23 = .ok (.aload_n 0, 1) := by decide +kernel
theorem d_Senses_joinWithin_24 : decode k_Senses_joinWithin 24 = .ok (.iload_n 1, 1) := by decide +kernel
theorem d_Senses_joinWithin_25 : decode k_Senses_joinWithin 25 = .ok (.iload 4, 2) := by decide +kernel
theorem d_Senses_joinWithin_27 : decode k_Senses_joinWithin 27 = .ok (.invokevirtual 58, 3) := by decide +kernel
theorem d_Senses_joinWithin_30 : decode k_Senses_joinWithin 30 = .ok (.ifCond .eq 8, 3) := by decide +kernel
theorem d_Senses_joinWithin_33 : decode k_Senses_joinWithin 33 = .ok (.iload_n 3, 1) := by decide +kernel
theorem d_Senses_joinWithin_34 : decode k_Senses_joinWithin 34 = .ok (.iload 4, 2) := by decide +kernel
theorem d_Senses_joinWithin_36 : decode k_Senses_joinWithin 36 = .ok (.ior, 1) := by decide +kernel
theorem d_Senses_joinWithin_37 : decode k_Senses_joinWithin 37 = .ok (.istore_n 3, 1) := by decide +kernel
theorem d_Senses_joinWithin_38 : decode k_Senses_joinWithin 38 = .ok (.iinc 4 1, 3) := by decide +kernel
theorem d_Senses_joinWithin_41 : decode k_Senses_joinWithin 41 = .ok (.goto (-36), 3) := by decide +kernel
theorem d_Senses_joinWithin_44 : decode k_Senses_joinWithin 44 = .ok (.iload_n 3, 1) := by decide +kernel
theorem d_Senses_joinWithin_45 : decode k_Senses_joinWithin 45 = .ok (.ireturn, 1) := by decide +kernel
theorem d_Talk_tell_0 : decode k_Talk_tell 0 = .ok (.iload_n 1, 1) := by decide +kernel
theorem d_Talk_tell_1 : decode k_Talk_tell 1 = .ok (.ifCond .lt 18, 3) := by decide +kernel
theorem d_Talk_tell_4 : decode k_Talk_tell 4 = .ok (.iload_n 1, 1) := by decide +kernel
theorem d_Talk_tell_5 : decode k_Talk_tell 5 = .ok (.aload_n 0, 1) := by decide +kernel
theorem d_Talk_tell_6 : decode k_Talk_tell 6 = .ok (.getfield 21, 3) := by decide +kernel
theorem d_Talk_tell_9 : decode k_Talk_tell 9 = .ok (.if_icmp .ge 10, 3) := by decide +kernel
theorem d_Talk_tell_12 : decode k_Talk_tell 12 = .ok (.iload_n 1, 1) := by decide +kernel
theorem d_Talk_tell_13 : decode k_Talk_tell 13 = .ok (.sipush 500, 3) := by decide +kernel
theorem d_Talk_tell_16 : decode k_Talk_tell 16 = .ok (.if_icmp .lt 5, 3) := by decide +kernel
theorem d_Talk_tell_19 : decode k_Talk_tell 19 = .ok (.iconst (-1), 1) := by decide +kernel
theorem d_Talk_tell_20 : decode k_Talk_tell 20 = .ok (.ireturn, 1) := by decide +kernel
theorem d_Talk_tell_21 : decode k_Talk_tell 21 = .ok (.iload_n 2, 1) := by decide +kernel
theorem d_Talk_tell_22 : decode k_Talk_tell 22 = .ok (.tableswitch 47 0 2 #[26, 33, 40], 26) := by decide +kernel
theorem d_Talk_tell_48 : decode k_Talk_tell 48 = .ok (.aload_n 0, 1) := by decide +kernel
theorem d_Talk_tell_49 : decode k_Talk_tell 49 = .ok (.getfield 9, 3) := by decide +kernel
theorem d_Talk_tell_52 : decode k_Talk_tell 52 = .ok (.iload_n 1, 1) := by decide +kernel
theorem d_Talk_tell_53 : decode k_Talk_tell 53 = .ok (.iaload, 1) := by decide +kernel
theorem d_Talk_tell_54 : decode k_Talk_tell 54 = .ok (.ireturn, 1) := by decide +kernel
theorem d_Talk_tell_55 : decode k_Talk_tell 55 = .ok (.aload_n 0, 1) := by decide +kernel
theorem d_Talk_tell_56 : decode k_Talk_tell 56 = .ok (.getfield 15, 3) := by decide +kernel
theorem d_Talk_tell_59 : decode k_Talk_tell 59 = .ok (.iload_n 1, 1) := by decide +kernel
theorem d_Talk_tell_60 : decode k_Talk_tell 60 = .ok (.iaload, 1) := by decide +kernel
theorem d_Talk_tell_61 : decode k_Talk_tell 61 = .ok (.ireturn, 1) := by decide +kernel
theorem d_Talk_tell_62 : decode k_Talk_tell 62 = .ok (.aload_n 0, 1) := by decide +kernel
theorem d_Talk_tell_63 : decode k_Talk_tell 63 = .ok (.getfield 18, 3) := by decide +kernel
theorem d_Talk_tell_66 : decode k_Talk_tell 66 = .ok (.iload_n 1, 1) := by decide +kernel
theorem d_Talk_tell_67 : decode k_Talk_tell 67 = .ok (.iaload, 1) := by decide +kernel
theorem d_Talk_tell_68 : decode k_Talk_tell 68 = .ok (.ireturn, 1) := by decide +kernel
theorem d_Talk_tell_69 : decode k_Talk_tell 69 = .ok (.iconst (-1), 1) := by decide +kernel
theorem d_Talk_tell_70 : decode k_Talk_tell 70 = .ok (.ireturn, 1) := by decide +kernel
theorem d_Rings_find_0 : decode k_Rings_find 0 = .ok (.aload_n 0, 1) := by decide +kernel
theorem d_Rings_find_1 : decode k_Rings_find 1 = .ok (.aload_n 1, 1) := by decide +kernel
theorem d_Rings_find_2 : decode k_Rings_find 2 = .ok (.invokevirtual 22, 3) := by decide +kernel
theorem d_Rings_find_5 : decode k_Rings_find 5 = .ok (.aload_n 0, 1) := by decide +kernel
theorem d_Rings_find_6 : decode k_Rings_find 6 = .ok (.iconst 0, 1) := by decide +kernel
theorem d_Rings_find_7 : decode k_Rings_find 7 = .ok (.putfield 18, 3) := by decide +kernel
theorem d_Rings_find_10 : decode k_Rings_find 10 = .ok (.iconst 0, 1) := by decide +kernel
theorem d_Rings_find_11 : decode k_Rings_find 11 = .ok (.istore_n 2, 1) := by decide +kernel
theorem d_Rings_find_12 : decode k_Rings_find 12 = .ok (.iconst 0, 1) := by decide +kernel
theorem d_Rings_find_13 : decode k_Rings_find 13 = .ok (.istore_n 3, 1) := by decide +kernel
theorem d_Rings_find_14 : decode k_Rings_find 14 = .ok (.iload_n 3, 1) := by decide +kernel
theorem d_Rings_find_15 : decode k_Rings_find 15 = .ok (.aload_n 1, 1) := by decide +kernel
theorem d_Rings_find_16 : decode k_Rings_find 16 = .ok (.invokevirtual 26, 3) := by decide +kernel
theorem d_Rings_find_19 : decode k_Rings_find 19 = .ok (.if_icmp .ge 28, 3) := by decide +kernel
theorem d_Rings_find_22 : decode k_Rings_find 22 = .ok (.aload_n 0, 1) := by decide +kernel
theorem d_Rings_find_23 : decode k_Rings_find 23 = .ok (.aload_n 1, 1) := by decide +kernel
theorem d_Rings_find_24 : decode k_Rings_find 24 = .ok (.iload_n 2, 1) := by decide +kernel
theorem d_Rings_find_25 : decode k_Rings_find 25 = .ok (.invokevirtual 31, 3) := by decide +kernel
theorem d_Rings_find_28 : decode k_Rings_find 28 = .ok (.istore 4, 2) := by decide +kernel
theorem d_Rings_find_30 : decode k_Rings_find 30 = .ok (.aload_n 0, 1) := by decide +kernel
theorem d_Rings_find_31 : decode k_Rings_find 31 = .ok (.iload 4, 2) := by decide +kernel
theorem d_Rings_find_33 : decode k_Rings_find 33 = .ok (.invokevirtual 35, 3) := by decide +kernel
theorem d_Rings_find_36 : decode k_Rings_find 36 = .ok (.iload_n 2, 1) := by decide +kernel
theorem d_Rings_find_37 : decode k_Rings_find 37 = .ok (.iload 4, 2) := by decide +kernel
theorem d_Rings_find_39 : decode k_Rings_find 39 = .ok (.ior, 1) := by decide +kernel
theorem d_Rings_find_40 : decode k_Rings_find 40 = .ok (.istore_n 2, 1) := by decide +kernel
theorem d_Rings_find_41 : decode k_Rings_find 41 = .ok (.iinc 3 1, 3) := by decide +kernel
theorem d_Rings_find_44 : decode k_Rings_find 44 = .ok (.goto (-30), 3) := by decide +kernel
theorem d_Rings_find_47 : decode k_Rings_find 47 = .ok (.return_, 1) := by decide +kernel
theorem d_Rings_fillReach_0 : decode k_Rings_fillReach 0 = .ok (.iconst 0, 1) := by decide +kernel
theorem d_Rings_fillReach_1 : decode k_Rings_fillReach 1 = .ok (.istore_n 2, 1) := by decide +kernel
theorem d_Rings_fillReach_2 : decode k_Rings_fillReach 2 = .ok (.iload_n 2, 1) := by decide +kernel
theorem d_Rings_fillReach_3 : decode k_Rings_fillReach 3 = .ok (.bipush 12, 2) := by decide +kernel
theorem d_Rings_fillReach_5 : decode k_Rings_fillReach 5 = .ok (.if_icmp .ge 24, 3) := by decide +kernel
theorem d_Rings_fillReach_8 : decode k_Rings_fillReach 8 = .ok (.aload_n 0, 1) := by decide +kernel
theorem d_Rings_fillReach_9 : decode k_Rings_fillReach 9 = .ok (.getfield 9, 3) := by decide +kernel
theorem d_Rings_fillReach_12 : decode k_Rings_fillReach 12 = .ok (.iload_n 2, 1) := by decide +kernel
theorem d_Rings_fillReach_13 : decode k_Rings_fillReach 13 = .ok (.aload_n 1, 1) := by decide +kernel
theorem d_Rings_fillReach_14 : decode k_Rings_fillReach 14 = .ok (.iload_n 2, 1) := by decide +kernel
theorem d_Rings_fillReach_15 : decode k_Rings_fillReach 15 = .ok (.invokevirtual 39, 3) := by decide +kernel
theorem d_Rings_fillReach_18 : decode k_Rings_fillReach 18 = .ok (.iconst 1, 1) := by decide +kernel
theorem d_Rings_fillReach_19 : decode k_Rings_fillReach 19 = .ok (.iload_n 2, 1) := by decide +kernel
theorem d_Rings_fillReach_20 : decode k_Rings_fillReach 20 = .ok (.ishl, 1) := by decide +kernel
theorem d_Rings_fillReach_21 : decode k_Rings_fillReach 21 = .ok (.ior, 1) := by decide +kernel
theorem d_Rings_fillReach_22 : decode k_Rings_fillReach 22 = .ok (.iastore, 1) := by decide +kernel
theorem d_Rings_fillReach_23 : decode k_Rings_fillReach 23 = .ok (.iinc 2 1, 3) := by decide +kernel
theorem d_Rings_fillReach_26 : decode k_Rings_fillReach 26 = .ok (.goto (-24), 3) := by decide +kernel
theorem d_Rings_fillReach_29 : decode k_Rings_fillReach 29 = .ok (.iconst 0, 1) := by decide +kernel
theorem d_Rings_fillReach_30 : decode k_Rings_fillReach 30 = .ok (.istore_n 2, 1) := by decide +kernel
theorem d_Rings_fillReach_31 : decode k_Rings_fillReach 31 = .ok (.iload_n 2, 1) := by decide +kernel
theorem d_Rings_fillReach_32 : decode k_Rings_fillReach 32 = .ok (.bipush 12, 2) := by decide +kernel
theorem d_Rings_fillReach_34 : decode k_Rings_fillReach 34 = .ok (.if_icmp .ge 51, 3) := by decide +kernel
theorem d_Rings_fillReach_37 : decode k_Rings_fillReach 37 = .ok (.iconst 0, 1) := by decide +kernel
theorem d_Rings_fillReach_38 : decode k_Rings_fillReach 38 = .ok (.istore_n 3, 1) := by decide +kernel
theorem d_Rings_fillReach_39 : decode k_Rings_fillReach 39 = .ok (.iload_n 3, 1) := by decide +kernel
theorem d_Rings_fillReach_40 : decode k_Rings_fillReach 40 = .ok (.bipush 12, 2) := by decide +kernel
theorem d_Rings_fillReach_42 : decode k_Rings_fillReach 42 = .ok (.if_icmp .ge 37, 3) := by decide +kernel
theorem d_Rings_fillReach_45 : decode k_Rings_fillReach 45 = .ok (.iload_n 2, 1) := by decide +kernel
theorem d_Rings_fillReach_46 : decode k_Rings_fillReach 46 = .ok (.aload_n 0, 1) := by decide +kernel
theorem d_Rings_fillReach_47 : decode k_Rings_fillReach 47 = .ok (.getfield 9, 3) := by decide +kernel
theorem d_Rings_fillReach_50 : decode k_Rings_fillReach 50 = .ok (.iload_n 3, 1) := by decide +kernel
theorem d_Rings_fillReach_51 : decode k_Rings_fillReach 51 = .ok (.iaload, 1) := by decide +kernel
theorem d_Rings_fillReach_52 : decode k_Rings_fillReach 52 = .ok (.invokestatic 43, 3) := by decide +kernel
theorem d_Rings_fillReach_55 : decode k_Rings_fillReach 55 = .ok (.ifCond .eq 18, 3) := by decide +kernel
theorem d_Rings_fillReach_58 : decode k_Rings_fillReach 58 = .ok (.aload_n 0, 1) := by decide +kernel
theorem d_Rings_fillReach_59 : decode k_Rings_fillReach 59 = .ok (.getfield 9, 3) := by decide +kernel
theorem d_Rings_fillReach_62 : decode k_Rings_fillReach 62 = .ok (.iload_n 3, 1) := by decide +kernel
theorem d_Rings_fillReach_63 : decode k_Rings_fillReach 63 = .ok (.dup2, 1) := by decide +kernel
theorem d_Rings_fillReach_64 : decode k_Rings_fillReach 64 = .ok (.iaload, 1) := by decide +kernel
theorem d_Rings_fillReach_65 : decode k_Rings_fillReach 65 = .ok (.aload_n 0, 1) := by decide +kernel
theorem d_Rings_fillReach_66 : decode k_Rings_fillReach 66 = .ok (.getfield 9, 3) := by decide +kernel
theorem d_Rings_fillReach_69 : decode k_Rings_fillReach 69 = .ok (.iload_n 2, 1) := by decide +kernel
theorem d_Rings_fillReach_70 : decode k_Rings_fillReach 70 = .ok (.iaload, 1) := by decide +kernel
theorem d_Rings_fillReach_71 : decode k_Rings_fillReach 71 = .ok (.ior, 1) := by decide +kernel
theorem d_Rings_fillReach_72 : decode k_Rings_fillReach 72 = .ok (.iastore, 1) := by decide +kernel
theorem d_Rings_fillReach_73 : decode k_Rings_fillReach 73 = .ok (.iinc 3 1, 3) := by decide +kernel
theorem d_Rings_fillReach_76 : decode k_Rings_fillReach 76 = .ok (.goto (-37), 3) := by decide +kernel
theorem d_Rings_fillReach_79 : decode k_Rings_fillReach 79 = .ok (.iinc 2 1, 3) := by decide +kernel
theorem d_Rings_fillReach_82 : decode k_Rings_fillReach 82 = .ok (.goto (-51), 3) := by decide +kernel
theorem d_Rings_fillReach_85 : decode k_Rings_fillReach 85 = .ok (.return_, 1) := by decide +kernel
theorem d_Rings_firstReady_0 : decode k_Rings_firstReady 0 = .ok (.iconst 0, 1) := by decide +kernel
theorem d_Rings_firstReady_1 : decode k_Rings_firstReady 1 = .ok (.istore_n 3, 1) := by decide +kernel
theorem d_Rings_firstReady_2 : decode k_Rings_firstReady 2 = .ok (.iload_n 3, 1) := by decide +kernel
theorem d_Rings_firstReady_3 : decode k_Rings_firstReady 3 = .ok (.aload_n 1, 1) := by decide +kernel
theorem d_Rings_firstReady_4 : decode k_Rings_firstReady 4 = .ok (.invokevirtual 26, 3) := by decide +kernel
theorem d_Rings_firstReady_7 : decode k_Rings_firstReady 7 = .ok (.if_icmp .ge 47, 3) := by decide +kernel
theorem d_Rings_firstReady_10 : decode k_Rings_firstReady 10 = .ok (.iload_n 3, 1) := by decide +kernel
theorem d_Rings_firstReady_11 : decode k_Rings_firstReady 11 = .ok (.iload_n 2, 1) := by decide +kernel
theorem d_Rings_firstReady_12 : decode k_Rings_firstReady 12 = .ok (.invokestatic 43, 3) := by decide +kernel
theorem d_Rings_firstReady_15 : decode k_Rings_firstReady 15 = .ok (.ifCond .ne 33, 3) := by decide +kernel
theorem d_Rings_firstReady_18 : decode k_Rings_firstReady 18 = .ok (.aload_n 0, 1) := by decide +kernel
theorem d_Rings_firstReady_19 : decode k_Rings_firstReady 19 = .ok (.iload_n 3, 1) := by decide +kernel
theorem d_Rings_firstReady_20 : decode k_Rings_firstReady 20 = .ok (.aload_n 1, 1) := by decide +kernel
theorem d_Rings_firstReady_21 : decode k_Rings_firstReady 21 = .ok (.invokevirtual 26, 3) := by decide +kernel
theorem d_Rings_firstReady_24 : decode k_Rings_firstReady 24 = .ok (.invokevirtual 47, 3) := by decide +kernel
theorem d_Rings_firstReady_27 : decode k_Rings_firstReady 27 = .ok (.istore 4, 2) := by decide +kernel
theorem d_Rings_firstReady_29 : decode k_Rings_firstReady 29 = .ok (.aload_n 1, 1) := by decide +kernel
theorem d_Rings_firstReady_30 : decode k_Rings_firstReady 30 = .ok (.iload 4, 2) := by decide +kernel
theorem d_Rings_firstReady_32 : decode k_Rings_firstReady 32 = .ok (.invokevirtual 51, 3) := by decide +kernel
theorem d_Rings_firstReady_35 : decode k_Rings_firstReady 35 = .ok (.iload 4, 2) := by decide +kernel
theorem d_Rings_firstReady_37 : decode k_Rings_firstReady 37 = .ok (.iload_n 2, 1) := by decide +kernel
theorem d_Rings_firstReady_38 : decode k_Rings_firstReady 38 = .ok (.ior, 1) := by decide +kernel
theorem d_Rings_firstReady_39 : decode k_Rings_firstReady 39 = .ok (.invokestatic 54, 3) := by decide +kernel
theorem d_Rings_firstReady_42 : decode k_Rings_firstReady 42 = .ok (.ifCond .eq 6, 3) := by decide +kernel
theorem d_Rings_firstReady_45 : decode k_Rings_firstReady 45 = .ok (.iload 4, 2) := by decide +kernel
theorem d_Rings_firstReady_47 : decode k_Rings_firstReady 47 = .ok (.ireturn, 1) := by decide +kernel
theorem d_Rings_firstReady_48 : decode k_Rings_firstReady 48 = .ok (.iinc 3 1, 3) := by decide +kernel
theorem d_Rings_firstReady_51 : decode k_Rings_firstReady 51 = .ok (.goto (-49), 3) := by decide +kernel
theorem d_Rings_firstReady_54 : decode k_Rings_firstReady 54 = .ok (.iconst 0, 1) := by decide +kernel
theorem d_Rings_firstReady_55 : decode k_Rings_firstReady 55 = .ok (.ireturn, 1) := by decide +kernel
theorem d_Rings_around_0 : decode k_Rings_around 0 = .ok (.iconst 0, 1) := by decide +kernel
theorem d_Rings_around_1 : decode k_Rings_around 1 = .ok (.istore_n 3, 1) := by decide +kernel
theorem d_Rings_around_2 : decode k_Rings_around 2 = .ok (.iconst 0, 1) := by decide +kernel
theorem d_Rings_around_3 : decode k_Rings_around 3 = .ok (.istore 4, 2) := by decide +kernel
theorem d_Rings_around_5 : decode k_Rings_around 5 = .ok (.iload 4, 2) := by decide +kernel
theorem d_Rings_around_7 : decode k_Rings_around 7 = .ok (.iload_n 2, 1) := by decide +kernel
theorem d_Rings_around_8 : decode k_Rings_around 8 = .ok (.if_icmp .ge 51, 3) := by decide +kernel
theorem d_Rings_around_11 : decode k_Rings_around 11 = .ok (.iload 4, 2) := by decide +kernel
theorem d_Rings_around_13 : decode k_Rings_around 13 = .ok (.bipush 12, 2) := by decide +kernel
theorem d_Rings_around_15 : decode k_Rings_around 15 = .ok (.if_icmp .ge 44, 3) := by decide +kernel
theorem d_Rings_around_18 : decode k_Rings_around 18 = .ok (.iload 4, 2) := by decide +kernel
theorem d_Rings_around_20 : decode k_Rings_around 20 = .ok (.aload_n 0, 1) := by decide +kernel
theorem d_Rings_around_21 : decode k_Rings_around 21 = .ok (.getfield 9, 3) := by decide +kernel
theorem d_Rings_around_24 : decode k_Rings_around 24 = .ok (.iload_n 1, 1) := by decide +kernel
theorem d_Rings_around_25 : decode k_Rings_around 25 = .ok (.iaload, 1) := by decide +kernel
theorem d_Rings_around_26 : decode k_Rings_around 26 = .ok (.invokestatic 43, 3) := by decide +kernel
theorem d_Rings_around_29 : decode k_Rings_around 29 = .ok (.ifCond .eq 24, 3) := by decide +kernel
theorem d_Rings_around_32 : decode k_Rings_around 32 = .ok (.iload_n 1, 1) := by decide +kernel
theorem d_Rings_around_33 : decode k_Rings_around 33 = .ok (.aload_n 0, 1) := by decide +kernel
theorem d_Rings_around_34 : decode k_Rings_around 34 = .ok (.getfield 9, 3) := by decide +kernel
theorem d_Rings_around_37 : decode k_Rings_around 37 = .ok (.iload 4, 2) := by decide +kernel
theorem d_Rings_around_39 : decode k_Rings_around 39 = .ok (.iaload, 1) := by decide +kernel
theorem d_Rings_around_40 : decode k_Rings_around 40 = .ok (.invokestatic 43, 3) := by decide +kernel
theorem d_Rings_around_43 : decode k_Rings_around 43 = .ok (.ifCond .eq 10, 3) := by decide +kernel
theorem d_Rings_around_46 : decode k_Rings_around 46 = .ok (.iload_n 3, 1) := by decide +kernel
theorem d_Rings_around_47 : decode k_Rings_around 47 = .ok (.iconst 1, 1) := by decide +kernel
theorem d_Rings_around_48 : decode k_Rings_around 48 = .ok (.iload 4, 2) := by decide +kernel
theorem d_Rings_around_50 : decode k_Rings_around 50 = .ok (.ishl, 1) := by decide +kernel
theorem d_Rings_around_51 : decode k_Rings_around 51 = .ok (.ior, 1) := by decide +kernel
theorem d_Rings_around_52 : decode k_Rings_around 52 = .ok (.istore_n 3, 1) := by decide +kernel
theorem d_Rings_around_53 : decode k_Rings_around 53 = .ok (.iinc 4 1, 3) := by decide +kernel
theorem d_Rings_around_56 : decode k_Rings_around 56 = .ok (.goto (-51), 3) := by decide +kernel
theorem d_Rings_around_59 : decode k_Rings_around 59 = .ok (.iload_n 3, 1) := by decide +kernel
theorem d_Rings_around_60 : decode k_Rings_around 60 = .ok (.ireturn, 1) := by decide +kernel
theorem d_Rings_number_0 : decode k_Rings_number 0 = .ok (.iload_n 1, 1) := by decide +kernel
theorem d_Rings_number_1 : decode k_Rings_number 1 = .ok (.ifCond .ne 4, 3) := by decide +kernel
theorem d_Rings_number_4 : decode k_Rings_number 4 = .ok (.return_, 1) := by decide +kernel
theorem d_Rings_number_5 : decode k_Rings_number 5 = .ok (.iconst 0, 1) := by decide +kernel
theorem d_Rings_number_6 : decode k_Rings_number 6 = .ok (.istore_n 2, 1) := by decide +kernel
theorem d_Rings_number_7 : decode k_Rings_number 7 = .ok (.iload_n 2, 1) := by decide +kernel
theorem d_Rings_number_8 : decode k_Rings_number 8 = .ok (.bipush 12, 2) := by decide +kernel
theorem d_Rings_number_10 : decode k_Rings_number 10 = .ok (.if_icmp .ge 27, 3) := by decide +kernel
theorem d_Rings_number_13 : decode k_Rings_number 13 = .ok (.iload_n 2, 1) := by decide +kernel
theorem d_Rings_number_14 : decode k_Rings_number 14 = .ok (.iload_n 1, 1) := by decide +kernel
theorem d_Rings_number_15 : decode k_Rings_number 15 = .ok (.invokestatic 43, 3) := by decide +kernel
theorem d_Rings_number_18 : decode k_Rings_number 18 = .ok (.ifCond .eq 13, 3) := by decide +kernel
theorem d_Rings_number_21 : decode k_Rings_number 21 = .ok (.aload_n 0, 1) := by decide +kernel
theorem d_Rings_number_22 : decode k_Rings_number 22 = .ok (.getfield 15, 3) := by decide +kernel
theorem d_Rings_number_25 : decode k_Rings_number 25 = .ok (.iload_n 2, 1) := by decide +kernel
theorem d_Rings_number_26 : decode k_Rings_number 26 = .ok (.aload_n 0, 1) := by decide +kernel
theorem d_Rings_number_27 : decode k_Rings_number 27 = .ok (.getfield 18, 3) := by decide +kernel
theorem d_Rings_number_30 : decode k_Rings_number 30 = .ok (.iastore, 1) := by decide +kernel
theorem d_Rings_number_31 : decode k_Rings_number 31 = .ok (.iinc 2 1, 3) := by decide +kernel
theorem d_Rings_number_34 : decode k_Rings_number 34 = .ok (.goto (-27), 3) := by decide +kernel
theorem d_Rings_number_37 : decode k_Rings_number 37 = .ok (.aload_n 0, 1) := by decide +kernel
theorem d_Rings_number_38 : decode k_Rings_number 38 = .ok (.dup, 1) := by decide +kernel
theorem d_Rings_number_39 : decode k_Rings_number 39 = .ok (.getfield 18, 3) := by decide +kernel
theorem d_Rings_number_42 : decode k_Rings_number 42 = .ok (.iconst 1, 1) := by decide +kernel
theorem d_Rings_number_43 : decode k_Rings_number 43 = .ok (.iadd, 1) := by decide +kernel
theorem d_Rings_number_44 : decode k_Rings_number 44 = .ok (.putfield 18, 3) := by decide +kernel
theorem d_Rings_number_47 : decode k_Rings_number 47 = .ok (.return_, 1) := by decide +kernel
theorem d_Rings_ringOf_0 : decode k_Rings_ringOf 0 = .ok (.iload_n 1, 1) := by decide +kernel
theorem d_Rings_ringOf_1 : decode k_Rings_ringOf 1 = .ok (.ifCond .lt 18, 3) := by decide +kernel
theorem d_Rings_ringOf_4 : decode k_Rings_ringOf 4 = .ok (.iload_n 1, 1) := by decide +kernel
theorem d_Rings_ringOf_5 : decode k_Rings_ringOf 5 = .ok (.bipush 12, 2) := by decide +kernel
theorem d_Rings_ringOf_7 : decode k_Rings_ringOf 7 = .ok (.if_icmp .ge 12, 3) := by decide +kernel
theorem d_Rings_ringOf_10 : decode k_Rings_ringOf 10 = .ok (.aload_n 0, 1) := by decide +kernel
theorem d_Rings_ringOf_11 : decode k_Rings_ringOf 11 = .ok (.getfield 15, 3) := by decide +kernel
theorem d_Rings_ringOf_14 : decode k_Rings_ringOf 14 = .ok (.iload_n 1, 1) := by decide +kernel
theorem d_Rings_ringOf_15 : decode k_Rings_ringOf 15 = .ok (.iaload, 1) := by decide +kernel
theorem d_Rings_ringOf_16 : decode k_Rings_ringOf 16 = .ok (.goto 4, 3) := by decide +kernel
theorem d_Rings_ringOf_19 : decode k_Rings_ringOf 19 = .ok (.iconst (-1), 1) := by decide +kernel
theorem d_Rings_ringOf_20 : decode k_Rings_ringOf 20 = .ok (.ireturn, 1) := by decide +kernel
theorem d_Rings_size_0 : decode k_Rings_size 0 = .ok (.aload_n 0, 1) := by decide +kernel
theorem d_Rings_size_1 : decode k_Rings_size 1 = .ok (.getfield 18, 3) := by decide +kernel
theorem d_Rings_size_4 : decode k_Rings_size 4 = .ok (.ireturn, 1) := by decide +kernel
theorem d_Listing_begin_0 : decode k_Listing_begin 0 = .ok (.aload_n 0, 1) := by decide +kernel
theorem d_Listing_begin_1 : decode k_Listing_begin 1 = .ok (.iconst 1, 1) := by decide +kernel
theorem d_Listing_begin_2 : decode k_Listing_begin 2 = .ok (.putfield 9, 3) := by decide +kernel
theorem d_Listing_begin_5 : decode k_Listing_begin 5 = .ok (.aload_n 0, 1) := by decide +kernel
theorem d_Listing_begin_6 : decode k_Listing_begin 6 = .ok (.iload_n 1, 1) := by decide +kernel
theorem d_Listing_begin_7 : decode k_Listing_begin 7 = .ok (.putfield 15, 3) := by decide +kernel
theorem d_Listing_begin_10 : decode k_Listing_begin 10 = .ok (.aload_n 0, 1) := by decide +kernel
theorem d_Listing_begin_11 : decode k_Listing_begin 11 = .ok (.iconst 0, 1) := by decide +kernel
theorem d_Listing_begin_12 : decode k_Listing_begin 12 = .ok (.putfield 19, 3) := by decide +kernel
theorem d_Listing_begin_15 : decode k_Listing_begin 15 = .ok (.aload_n 0, 1) := by decide +kernel
theorem d_Listing_begin_16 : decode k_Listing_begin 16 = .ok (.iconst (-1), 1) := by decide +kernel
theorem d_Listing_begin_17 : decode k_Listing_begin 17 = .ok (.putfield 22, 3) := by decide +kernel
theorem d_Listing_begin_20 : decode k_Listing_begin 20 = .ok (.return_, 1) := by decide +kernel
theorem d_Listing_isOpen_0 : decode k_Listing_isOpen 0 = .ok (.aload_n 0, 1) := by decide +kernel
theorem d_Listing_isOpen_1 : decode k_Listing_isOpen 1 = .ok (.getfield 9, 3) := by decide +kernel
theorem d_Listing_isOpen_4 : decode k_Listing_isOpen 4 = .ok (.ireturn, 1) := by decide +kernel
theorem d_Listing_tell_0 : decode k_Listing_tell 0 = .ok (.aload_n 0, 1) := by decide +kernel
theorem d_Listing_tell_1 : decode k_Listing_tell 1 = .ok (.getfield 19, 3) := by decide +kernel
theorem d_Listing_tell_4 : decode k_Listing_tell 4 = .ok (.istore_n 2, 1) := by decide +kernel
theorem d_Listing_tell_5 : decode k_Listing_tell 5 = .ok (.iload_n 2, 1) := by decide +kernel
theorem d_Listing_tell_6 : decode k_Listing_tell 6 = .ok (.aload_n 1, 1) := by decide +kernel
theorem d_Listing_tell_7 : decode k_Listing_tell 7 = .ok (.invokevirtual 25, 3) := by decide +kernel
theorem d_Listing_tell_10 : decode k_Listing_tell 10 = .ok (.if_icmp .gt 35, 3) := by decide +kernel
theorem d_Listing_tell_13 : decode k_Listing_tell 13 = .ok (.aload_n 1, 1) := by decide +kernel
theorem d_Listing_tell_14 : decode k_Listing_tell 14 = .ok (.aload_n 0, 1) := by decide +kernel
theorem d_Listing_tell_15 : decode k_Listing_tell 15 = .ok (.getfield 15, 3) := by decide +kernel
theorem d_Listing_tell_18 : decode k_Listing_tell 18 = .ok (.iload_n 2, 1) := by decide +kernel
theorem d_Listing_tell_19 : decode k_Listing_tell 19 = .ok (.invokevirtual 31, 3) := by decide +kernel
theorem d_Listing_tell_22 : decode k_Listing_tell 22 = .ok (.ifCond .eq 17, 3) := by decide +kernel
theorem d_Listing_tell_25 : decode k_Listing_tell 25 = .ok (.aload_n 0, 1) := by decide +kernel
theorem d_Listing_tell_26 : decode k_Listing_tell 26 = .ok (.iload_n 2, 1) := by decide +kernel
theorem d_Listing_tell_27 : decode k_Listing_tell 27 = .ok (.iconst 1, 1) := by decide +kernel
theorem d_Listing_tell_28 : decode k_Listing_tell 28 = .ok (.iadd, 1) := by decide +kernel
theorem d_Listing_tell_29 : decode k_Listing_tell 29 = .ok (.putfield 19, 3) := by decide +kernel
theorem d_Listing_tell_32 : decode k_Listing_tell 32 = .ok (.aload_n 0, 1) := by decide +kernel
theorem d_Listing_tell_33 : decode k_Listing_tell 33 = .ok (.iload_n 2, 1) := by decide +kernel
theorem d_Listing_tell_34 : decode k_Listing_tell 34 = .ok (.putfield 22, 3) := by decide +kernel
theorem d_Listing_tell_37 : decode k_Listing_tell 37 = .ok (.iload_n 2, 1) := by decide +kernel
theorem d_Listing_tell_38 : decode k_Listing_tell 38 = .ok (.ireturn, 1) := by decide +kernel
theorem d_Listing_tell_39 : decode k_Listing_tell 39 = .ok (.iinc 2 1, 3) := by decide +kernel
theorem d_Listing_tell_42 : decode k_Listing_tell 42 = .ok (.goto (-37), 3) := by decide +kernel
theorem d_Listing_tell_45 : decode k_Listing_tell 45 = .ok (.aload_n 0, 1) := by decide +kernel
theorem d_Listing_tell_46 : decode k_Listing_tell 46 = .ok (.invokevirtual 35, 3) := by decide +kernel
theorem d_Listing_tell_49 : decode k_Listing_tell 49 = .ok (.iconst (-1), 1) := by decide +kernel
theorem d_Listing_tell_50 : decode k_Listing_tell 50 = .ok (.ireturn, 1) := by decide +kernel
theorem d_Senses_everything_0 : decode k_Senses_everything 0 = .ok (.aload_n 0, 1) := by decide +kernel
theorem d_Senses_everything_1 : decode k_Senses_everything 1 = .ok (.getfield 25, 3) := by decide +kernel
theorem d_Senses_everything_4 : decode k_Senses_everything 4 = .ok (.ireturn, 1) := by decide +kernel
theorem d_Listing_told_0 : decode k_Listing_told 0 = .ok (.aload_n 0, 1) := by decide +kernel
theorem d_Listing_told_1 : decode k_Listing_told 1 = .ok (.getfield 22, 3) := by decide +kernel
theorem d_Listing_told_4 : decode k_Listing_told 4 = .ok (.ireturn, 1) := by decide +kernel
theorem d_Senses_tally_0 : decode k_Senses_tally 0 = .ok (.iconst 0, 1) := by decide +kernel
theorem d_Senses_tally_1 : decode k_Senses_tally 1 = .ok (.istore_n 2, 1) := by decide +kernel
theorem d_Senses_tally_2 : decode k_Senses_tally 2 = .ok (.iconst 0, 1) := by decide +kernel
theorem d_Senses_tally_3 : decode k_Senses_tally 3 = .ok (.istore_n 3, 1) := by decide +kernel
theorem d_Senses_tally_4 : decode k_Senses_tally 4 = .ok (.iload_n 3, 1) := by decide +kernel
theorem d_Senses_tally_5 : decode k_Senses_tally 5 = .ok (.aload_n 0, 1) := by decide +kernel
theorem d_Senses_tally_6 : decode k_Senses_tally 6 = .ok (.getfield 25, 3) := by decide +kernel
theorem d_Senses_tally_9 : decode k_Senses_tally 9 = .ok (.if_icmp .gt 21, 3) := by decide +kernel
theorem d_Senses_tally_12 : decode k_Senses_tally 12 = .ok (.aload_n 0, 1) := by decide +kernel
theorem d_Senses_tally_13 : decode k_Senses_tally 13 = .ok (.iload_n 1, 1) := by decide +kernel
theorem d_Senses_tally_14 : decode k_Senses_tally 14 = .ok (.iload_n 3, 1) := by decide +kernel
theorem d_Senses_tally_15 : decode k_Senses_tally 15 = .ok (.invokevirtual 58, 3) := by decide +kernel
theorem d_Senses_tally_18 : decode k_Senses_tally 18 = .ok (.ifCond .eq 6, 3) := by decide +kernel
theorem d_Senses_tally_21 : decode k_Senses_tally 21 = .ok (.iinc 2 1, 3) := by decide +kernel
theorem d_Senses_tally_24 : decode k_Senses_tally 24 = .ok (.iinc 3 1, 3) := by decide +kernel
theorem d_Senses_tally_27 : decode k_Senses_tally 27 = .ok (.goto (-23), 3) := by decide +kernel
theorem d_Senses_tally_30 : decode k_Senses_tally 30 = .ok (.iload_n 2, 1) := by decide +kernel
theorem d_Senses_tally_31 : decode k_Senses_tally 31 = .ok (.ireturn, 1) := by decide +kernel
theorem d_Talk_about_0 : decode k_Talk_about 0 = .ok (.aload_n 0, 1) := by decide +kernel
theorem d_Talk_about_1 : decode k_Talk_about 1 = .ok (.iconst 0, 1) := by decide +kernel
theorem d_Talk_about_2 : decode k_Talk_about 2 = .ok (.putfield 21, 3) := by decide +kernel
theorem d_Talk_about_5 : decode k_Talk_about 5 = .ok (.aload_n 0, 1) := by decide +kernel
theorem d_Talk_about_6 : decode k_Talk_about 6 = .ok (.iconst 0, 1) := by decide +kernel
theorem d_Talk_about_7 : decode k_Talk_about 7 = .ok (.putfield 25, 3) := by decide +kernel
theorem d_Talk_about_10 : decode k_Talk_about 10 = .ok (.aload_n 3, 1) := by decide +kernel
theorem d_Talk_about_11 : decode k_Talk_about 11 = .ok (.iload_n 1, 1) := by decide +kernel
theorem d_Talk_about_12 : decode k_Talk_about 12 = .ok (.invokevirtual 29, 3) := by decide +kernel
theorem d_Talk_about_15 : decode k_Talk_about 15 = .ok (.ifCond .ne 5, 3) := by decide +kernel
theorem d_Talk_about_18 : decode k_Talk_about 18 = .ok (.iconst 0, 1) := by decide +kernel
theorem d_Talk_about_19 : decode k_Talk_about 19 = .ok (.ireturn, 1) := by decide +kernel
theorem d_Talk_about_20 : decode k_Talk_about 20 = .ok (.aload_n 0, 1) := by decide +kernel
theorem d_Talk_about_21 : decode k_Talk_about 21 = .ok (.iload_n 1, 1) := by decide +kernel
theorem d_Talk_about_22 : decode k_Talk_about 22 = .ok (.iconst (-1), 1) := by decide +kernel
theorem d_Talk_about_23 : decode k_Talk_about 23 = .ok (.aload_n 2, 1) := by decide +kernel
theorem d_Talk_about_24 : decode k_Talk_about 24 = .ok (.aload_n 3, 1) := by decide +kernel
theorem d_Talk_about_25 : decode k_Talk_about 25 = .ok (.iconst 0, 1) := by decide +kernel
theorem d_Talk_about_26 : decode k_Talk_about 26 = .ok (.invokevirtual 35, 3) := by decide +kernel
theorem d_Talk_about_29 : decode k_Talk_about 29 = .ok (.aload_n 0, 1) := by decide +kernel
theorem d_Talk_about_30 : decode k_Talk_about 30 = .ok (.getfield 25, 3) := by decide +kernel
theorem d_Talk_about_33 : decode k_Talk_about 33 = .ok (.ifCond .eq 10, 3) := by decide +kernel
theorem d_Talk_about_36 : decode k_Talk_about 36 = .ok (.aload_n 0, 1) := by decide +kernel
theorem d_Talk_about_37 : decode k_Talk_about 37 = .ok (.iconst 0, 1) := by decide +kernel
theorem d_Talk_about_38 : decode k_Talk_about 38 = .ok (.putfield 21, 3) := by decide +kernel
theorem d_Talk_about_41 : decode k_Talk_about 41 = .ok (.iconst (-1), 1) := by decide +kernel
theorem d_Talk_about_42 : decode k_Talk_about 42 = .ok (.ireturn, 1) := by decide +kernel
theorem d_Talk_about_43 : decode k_Talk_about 43 = .ok (.aload_n 0, 1) := by decide +kernel
theorem d_Talk_about_44 : decode k_Talk_about 44 = .ok (.getfield 21, 3) := by decide +kernel
theorem d_Talk_about_47 : decode k_Talk_about 47 = .ok (.ireturn, 1) := by decide +kernel
theorem d_Talk_defend_0 : decode k_Talk_defend 0 = .ok (.aload_n 0, 1) := by decide +kernel
theorem d_Talk_defend_1 : decode k_Talk_defend 1 = .ok (.iload_n 1, 1) := by decide +kernel
theorem d_Talk_defend_2 : decode k_Talk_defend 2 = .ok (.iload_n 2, 1) := by decide +kernel
theorem d_Talk_defend_3 : decode k_Talk_defend 3 = .ok (.iconst 0, 1) := by decide +kernel
theorem d_Talk_defend_4 : decode k_Talk_defend 4 = .ok (.invokevirtual 39, 3) := by decide +kernel
theorem d_Talk_defend_7 : decode k_Talk_defend 7 = .ok (.istore 6, 2) := by decide +kernel
theorem d_Talk_defend_9 : decode k_Talk_defend 9 = .ok (.iload 5, 2) := by decide +kernel
theorem d_Talk_defend_11 : decode k_Talk_defend 11 = .ok (.bipush 12, 2) := by decide +kernel
theorem d_Talk_defend_13 : decode k_Talk_defend 13 = .ok (.if_icmp .le 8, 3) := by decide +kernel
theorem d_Talk_defend_16 : decode k_Talk_defend 16 = .ok (.aload_n 0, 1) := by decide +kernel
theorem d_Talk_defend_17 : decode k_Talk_defend 17 = .ok (.iconst 1, 1) := by decide +kernel
theorem d_Talk_defend_18 : decode k_Talk_defend 18 = .ok (.putfield 25, 3) := by decide +kernel
theorem d_Talk_defend_21 : decode k_Talk_defend 21 = .ok (.iconst 0, 1) := by decide +kernel
theorem d_Talk_defend_22 : decode k_Talk_defend 22 = .ok (.istore 7, 2) := by decide +kernel
theorem d_Talk_defend_24 : decode k_Talk_defend 24 = .ok (.iload 7, 2) := by decide +kernel
theorem d_Talk_defend_26 : decode k_Talk_defend 26 = .ok (.bipush 12, 2) := by decide +kernel
theorem d_Talk_defend_28 : decode k_Talk_defend 28 = .ok (.if_icmp .ge 68, 3) := by decide +kernel
theorem d_Talk_defend_31 : decode k_Talk_defend 31 = .ok (.aload_n 0, 1) := by decide +kernel
theorem d_Talk_defend_32 : decode k_Talk_defend 32 = .ok (.getfield 25, 3) := by decide +kernel
theorem d_Talk_defend_35 : decode k_Talk_defend 35 = .ok (.ifCond .ne 61, 3) := by decide +kernel
theorem d_Talk_defend_38 : decode k_Talk_defend 38 = .ok (.iload 7, 2) := by decide +kernel
theorem d_Talk_defend_40 : decode k_Talk_defend 40 = .ok (.aload_n 3, 1) := by decide +kernel
theorem d_Talk_defend_41 : decode k_Talk_defend 41 = .ok (.iload_n 1, 1) := by decide +kernel
theorem d_Talk_defend_42 : decode k_Talk_defend 42 = .ok (.invokevirtual 43, 3) := by decide +kernel
theorem d_Talk_defend_45 : decode k_Talk_defend 45 = .ok (.invokestatic 48, 3) := by decide +kernel
theorem d_Talk_defend_48 : decode k_Talk_defend 48 = .ok (.ifCond .eq 42, 3) := by decide +kernel
theorem d_Talk_defend_51 : decode k_Talk_defend 51 = .ok (.aload_n 0, 1) := by decide +kernel
theorem d_Talk_defend_52 : decode k_Talk_defend 52 = .ok (.iload 7, 2) := by decide +kernel
theorem d_Talk_defend_54 : decode k_Talk_defend 54 = .ok (.iload 6, 2) := by decide +kernel
theorem d_Talk_defend_56 : decode k_Talk_defend 56 = .ok (.iconst 1, 1) := by decide +kernel
theorem d_Talk_defend_57 : decode k_Talk_defend 57 = .ok (.invokevirtual 39, 3) := by decide +kernel
theorem d_Talk_defend_60 : decode k_Talk_defend 60 = .ok (.istore 8, 2) := by decide +kernel
theorem d_Talk_defend_62 : decode k_Talk_defend 62 = .ok (.aload 4, 2) := by decide +kernel
theorem d_Talk_defend_64 : decode k_Talk_defend 64 = .ok (.aload_n 3, 1) := by decide +kernel
theorem d_Talk_defend_65 : decode k_Talk_defend 65 = .ok (.iload 7, 2) := by decide +kernel
theorem d_Talk_defend_67 : decode k_Talk_defend 67 = .ok (.invokevirtual 43, 3) := by decide +kernel
theorem d_Talk_defend_70 : decode k_Talk_defend 70 = .ok (.invokevirtual 52, 3) := by decide +kernel
theorem d_Talk_defend_73 : decode k_Talk_defend 73 = .ok (.istore 9, 2) := by decide +kernel
theorem d_Talk_defend_75 : decode k_Talk_defend 75 = .ok (.aload_n 0, 1) := by decide +kernel
theorem d_Talk_defend_76 : decode k_Talk_defend 76 = .ok (.iload 9, 2) := by decide +kernel
theorem d_Talk_defend_78 : decode k_Talk_defend 78 = .ok (.iload 8, 2) := by decide +kernel
theorem d_Talk_defend_80 : decode k_Talk_defend 80 = .ok (.aload_n 3, 1) := by decide +kernel
theorem d_Talk_defend_81 : decode k_Talk_defend 81 = .ok (.aload 4, 2) := by decide +kernel
theorem d_Talk_defend_83 : decode k_Talk_defend 83 = .ok (.iload 5, 2) := by decide +kernel
theorem d_Talk_defend_85 : decode k_Talk_defend 85 = .ok (.iconst 1, 1) := by decide +kernel
theorem d_Talk_defend_86 : decode k_Talk_defend 86 = .ok (.iadd, 1) := by decide +kernel
theorem d_Talk_defend_87 : decode k_Talk_defend 87 = .ok (.invokevirtual 35, 3) := by decide +kernel
theorem d_Talk_defend_90 : decode k_Talk_defend 90 = .ok (.iinc 7 1, 3) := by decide +kernel
theorem d_Talk_defend_93 : decode k_Talk_defend 93 = .ok (.goto (-69), 3) := by decide +kernel
theorem d_Talk_defend_96 : decode k_Talk_defend 96 = .ok (.return_, 1) := by decide +kernel
theorem d_Talk_say_0 : decode k_Talk_say 0 = .ok (.aload_n 0, 1) := by decide +kernel
theorem d_Talk_say_1 : decode k_Talk_say 1 = .ok (.getfield 21, 3) := by decide +kernel
theorem d_Talk_say_4 : decode k_Talk_say 4 = .ok (.sipush 500, 3) := by decide +kernel
theorem d_Talk_say_7 : decode k_Talk_say 7 = .ok (.if_icmp .lt 10, 3) := by decide +kernel
theorem d_Talk_say_10 : decode k_Talk_say 10 = .ok (.aload_n 0, 1) := by decide +kernel
theorem d_Talk_say_11 : decode k_Talk_say 11 = .ok (.iconst 1, 1) := by decide +kernel
theorem d_Talk_say_12 : decode k_Talk_say 12 = .ok (.putfield 25, 3) := by decide +kernel
theorem d_Talk_say_15 : decode k_Talk_say 15 = .ok (.iconst (-1), 1) := by decide +kernel
theorem d_Talk_say_16 : decode k_Talk_say 16 = .ok (.ireturn, 1) := by decide +kernel
theorem d_Talk_say_17 : decode k_Talk_say 17 = .ok (.aload_n 0, 1) := by decide +kernel
theorem d_Talk_say_18 : decode k_Talk_say 18 = .ok (.getfield 9, 3) := by decide +kernel
theorem d_Talk_say_21 : decode k_Talk_say 21 = .ok (.aload_n 0, 1) := by decide +kernel
theorem d_Talk_say_22 : decode k_Talk_say 22 = .ok (.getfield 21, 3) := by decide +kernel
theorem d_Talk_say_25 : decode k_Talk_say 25 = .ok (.iload_n 1, 1) := by decide +kernel
theorem d_Talk_say_26 : decode k_Talk_say 26 = .ok (.iastore, 1) := by decide +kernel
theorem d_Talk_say_27 : decode k_Talk_say 27 = .ok (.aload_n 0, 1) := by decide +kernel
theorem d_Talk_say_28 : decode k_Talk_say 28 = .ok (.getfield 15, 3) := by decide +kernel
theorem d_Talk_say_31 : decode k_Talk_say 31 = .ok (.aload_n 0, 1) := by decide +kernel
theorem d_Talk_say_32 : decode k_Talk_say 32 = .ok (.getfield 21, 3) := by decide +kernel
theorem d_Talk_say_35 : decode k_Talk_say 35 = .ok (.iload_n 2, 1) := by decide +kernel
theorem d_Talk_say_36 : decode k_Talk_say 36 = .ok (.iastore, 1) := by decide +kernel
theorem d_Talk_say_37 : decode k_Talk_say 37 = .ok (.aload_n 0, 1) := by decide +kernel
theorem d_Talk_say_38 : decode k_Talk_say 38 = .ok (.getfield 18, 3) := by decide +kernel
theorem d_Talk_say_41 : decode k_Talk_say 41 = .ok (.aload_n 0, 1) := by decide +kernel
theorem d_Talk_say_42 : decode k_Talk_say 42 = .ok (.getfield 21, 3) := by decide +kernel
theorem d_Talk_say_45 : decode k_Talk_say 45 = .ok (.iload_n 3, 1) := by decide +kernel
theorem d_Talk_say_46 : decode k_Talk_say 46 = .ok (.iastore, 1) := by decide +kernel
theorem d_Talk_say_47 : decode k_Talk_say 47 = .ok (.aload_n 0, 1) := by decide +kernel
theorem d_Talk_say_48 : decode k_Talk_say 48 = .ok (.dup, 1) := by decide +kernel
theorem d_Talk_say_49 : decode k_Talk_say 49 = .ok (.getfield 21, 3) := by decide +kernel
theorem d_Talk_say_52 : decode k_Talk_say 52 = .ok (.iconst 1, 1) := by decide +kernel
theorem d_Talk_say_53 : decode k_Talk_say 53 = .ok (.iadd, 1) := by decide +kernel
theorem d_Talk_say_54 : decode k_Talk_say 54 = .ok (.putfield 21, 3) := by decide +kernel
theorem d_Talk_say_57 : decode k_Talk_say 57 = .ok (.aload_n 0, 1) := by decide +kernel
theorem d_Talk_say_58 : decode k_Talk_say 58 = .ok (.getfield 21, 3) := by decide +kernel
theorem d_Talk_say_61 : decode k_Talk_say 61 = .ok (.iconst 1, 1) := by decide +kernel
theorem d_Talk_say_62 : decode k_Talk_say 62 = .ok (.isub, 1) := by decide +kernel
theorem d_Talk_say_63 : decode k_Talk_say 63 = .ok (.ireturn, 1) := by decide +kernel
theorem d_Grounds_earliestIn_0 : decode k_Grounds_earliestIn 0 = .ok (.iconst (-1), 1) := by decide +kernel
theorem d_Grounds_earliestIn_1 : decode k_Grounds_earliestIn 1 = .ok (.istore_n 2, 1) := by decide +kernel
theorem d_Grounds_earliestIn_2 : decode k_Grounds_earliestIn 2 = .ok (.iconst 0, 1) := by decide +kernel
theorem d_Grounds_earliestIn_3 : decode k_Grounds_earliestIn 3 = .ok (.istore_n 3, 1) := by decide +kernel
theorem d_Grounds_earliestIn_4 : decode k_Grounds_earliestIn 4 = .ok (.iload_n 3, 1) := by decide +kernel
theorem d_Grounds_earliestIn_5 : decode k_Grounds_earliestIn 5 = .ok (.bipush 12, 2) := by decide +kernel
theorem d_Grounds_earliestIn_7 : decode k_Grounds_earliestIn 7 = .ok (.if_icmp .ge 43, 3) := by decide +kernel
theorem d_Grounds_earliestIn_10 : decode k_Grounds_earliestIn 10 = .ok (.iload_n 3, 1) := by decide +kernel
theorem d_Grounds_earliestIn_11 : decode k_Grounds_earliestIn 11 = .ok (.iload_n 1, 1) := by decide +kernel
theorem d_Grounds_earliestIn_12 : decode k_Grounds_earliestIn 12 = .ok (.aload_n 0, 1) := by decide +kernel
theorem d_Grounds_earliestIn_13 : decode k_Grounds_earliestIn 13 = .ok (.getfield 15, 3) := by decide +kernel
theorem d_Grounds_earliestIn_16 : decode k_Grounds_earliestIn 16 = .ok (.iand, 1) := by decide +kernel
theorem d_Grounds_earliestIn_17 : decode k_Grounds_earliestIn 17 = .ok (.invokestatic 29, 3) := by decide +kernel
theorem d_Grounds_earliestIn_20 : decode k_Grounds_earliestIn 20 = .ok (.ifCond .eq 24, 3) := by decide +kernel
theorem d_Grounds_earliestIn_23 : decode k_Grounds_earliestIn 23 = .ok (.iload_n 2, 1) := by decide +kernel
theorem d_Grounds_earliestIn_24 : decode k_Grounds_earliestIn 24 = .ok (.iconst (-1), 1) := by decide +kernel
theorem d_Grounds_earliestIn_25 : decode k_Grounds_earliestIn 25 = .ok (.if_icmp .eq 17, 3) := by decide +kernel
theorem d_Grounds_earliestIn_28 : decode k_Grounds_earliestIn 28 = .ok (.aload_n 0, 1) := by decide +kernel
theorem d_Grounds_earliestIn_29 : decode k_Grounds_earliestIn 29 = .ok (.getfield 9, 3) := by decide +kernel
theorem d_Grounds_earliestIn_32 : decode k_Grounds_earliestIn 32 = .ok (.iload_n 3, 1) := by decide +kernel
theorem d_Grounds_earliestIn_33 : decode k_Grounds_earliestIn 33 = .ok (.iaload, 1) := by decide +kernel
theorem d_Grounds_earliestIn_34 : decode k_Grounds_earliestIn 34 = .ok (.aload_n 0, 1) := by decide +kernel
theorem d_Grounds_earliestIn_35 : decode k_Grounds_earliestIn 35 = .ok (.iload_n 2, 1) := by decide +kernel
theorem d_Grounds_earliestIn_36 : decode k_Grounds_earliestIn 36 = .ok (.invokevirtual 33, 3) := by decide +kernel
theorem d_Grounds_earliestIn_39 : decode k_Grounds_earliestIn 39 = .ok (.if_icmp .ge 5, 3) := by decide +kernel
theorem d_Grounds_earliestIn_42 : decode k_Grounds_earliestIn 42 = .ok (.iload_n 3, 1) := by decide +kernel
theorem d_Grounds_earliestIn_43 : decode k_Grounds_earliestIn 43 = .ok (.istore_n 2, 1) := by decide +kernel
theorem d_Grounds_earliestIn_44 : decode k_Grounds_earliestIn 44 = .ok (.iinc 3 1, 3) := by decide +kernel
theorem d_Grounds_earliestIn_47 : decode k_Grounds_earliestIn 47 = .ok (.goto (-43), 3) := by decide +kernel
theorem d_Grounds_earliestIn_50 : decode k_Grounds_earliestIn 50 = .ok (.iload_n 2, 1) := by decide +kernel
theorem d_Grounds_earliestIn_51 : decode k_Grounds_earliestIn 51 = .ok (.ireturn, 1) := by decide +kernel
end
section
/-! Senses: what its loops do, as functions -/
/-- the first i places are those of g -/
def ovw (f g : Nat → Nat) (i : Nat) : Nat → Nat := fun x => if x < i then g x else f x
theorem ovw_0 (f g : Nat → Nat) : ovw f g 0 = f := by funext x; simp [ovw]
theorem ovw_s (f g : Nat → Nat) (i : Nat) : va_up (ovw f g i) i (g i) = ovw f g (i + 1) := by
  funext x
  simp only [va_up, ovw]
  by_cases h : x = i
  · subst h; simp
  · simp only [h, if_false]
    by_cases h2 : x < i
    · simp [h2, Nat.lt_succ_of_lt h2]
    · simp [h2, show ¬ x < i + 1 by omega]
theorem ovw_lt {f g : Nat → Nat} {i x : Nat} (h : x < i) : ovw f g i x = g x := by simp [ovw, h]
theorem ovw_ge {f g : Nat → Nat} {i x : Nat} (h : ¬ x < i) : ovw f g i x = f x := by simp [ovw, h]
def cntM (M : Nat → Nat) (k : Nat) : Nat → Nat
  | 0 => 0
  | i + 1 => if (M i).testBit k then cntM M k i + 1 else cntM M k i
theorem cntM_le (M : Nat → Nat) (k i : Nat) : cntM M k i ≤ i := by
  induction i with
  | zero => exact Nat.le_refl _
  | succ i ih => simp only [cntM]; split <;> omega
def metM (M : Nat → Nat) (k ev : Nat) : Nat → Nat
  | 0 => ev
  | i + 1 => if (M i).testBit k then metM M k ev i &&& i else metM M k ev i
theorem metM_le (M : Nat → Nat) (k ev i : Nat) : metM M k ev i ≤ ev := by
  induction i with
  | zero => exact Nat.le_refl _
  | succ i ih =>
    simp only [metM]; split
    · exact Nat.le_trans Nat.and_le_left ih
    · exact ih
def joiM (M : Nat → Nat) (k bd : Nat) : Nat → Nat
  | 0 => 0
  | i + 1 => if (dif i bd == 0) && (M i).testBit k then joiM M k bd i ||| i else joiM M k bd i
theorem joiM_lt (M : Nat → Nat) (k bd : Nat) {i : Nat} (h : i ≤ 4096) : joiM M k bd i < 4096 := by
  induction i with
  | zero => exact Nat.zero_lt_succ _
  | succ i ih =>
    simp only [joiM]; split
    · exact Nat.or_lt_two_pow (n := 12) (ih (by omega)) (by omega)
    · exact ih (by omega)
theorem bit_and {m k : Nat} : (m &&& 2 ^ k != 0) = m.testBit k := by
  cases h : m.testBit k with
  | false => rw [and_pow_bit.mpr h]; rfl
  | true =>
    have : m &&& 2 ^ k ≠ 0 := fun q => by rw [and_pow_bit.mp q] at h; cases h
    simp [this]
def ownM (TS : Nat → Nat) (ev x : Nat) : Nat :=
  if TS x &&& x ≠ 0 then 0
  else
    (if x = dif ev (TS (dif ev (TS x))) then
      (if dif x (dif ev (TS (dif ev (TS x)))) = 0 then (if TS x ||| x = ev then 32 ||| 4 else 32) ||| 16 else (if TS x ||| x = ev then 32 ||| 4 else 32)) ||| 1
    else
      (if dif x (dif ev (TS (dif ev (TS x)))) = 0 then (if TS x ||| x = ev then 32 ||| 4 else 32) ||| 16 else (if TS x ||| x = ev then 32 ||| 4 else 32)))
/-- whether x is in none of the first i tops -/
def ntU (P : Nat → Nat) (x : Nat) : Nat → Bool
  | 0 => true
  | i + 1 => ntU P x i && !(dif x (P i) == 0)
/-- the loop that goes down from ev: the marks, the tops, how many -/
def tpS (mk sb : Nat) (M0 P0 : Nat → Nat) (ev : Nat) : Nat → (Nat → Nat) × (Nat → Nat) × Nat
  | 0 => (M0, P0, 0)
  | d + 1 =>
    if ((tpS mk sb M0 P0 ev d).1 (ev - d) &&& mk != 0) && ntU (tpS mk sb M0 P0 ev d).2.1 (ev - d) (tpS mk sb M0 P0 ev d).2.2 then
      (va_up (tpS mk sb M0 P0 ev d).1 (ev - d) ((tpS mk sb M0 P0 ev d).1 (ev - d) ||| sb), va_up (tpS mk sb M0 P0 ev d).2.1 (tpS mk sb M0 P0 ev d).2.2 (ev - d), (tpS mk sb M0 P0 ev d).2.2 + 1)
    else tpS mk sb M0 P0 ev d
def rgS (TS M : Nat → Nat) : Nat → Nat → Nat
  | 0 => M
  | i + 1 => if rgS TS M i i &&& 32 != 0 then va_up (rgS TS M i) (i ||| TS i) (rgS TS M i (i ||| TS i) ||| 64) else rgS TS M i
def stS (TS M : Nat → Nat) : Nat → Nat → Nat
  | 0 => M
  | i + 1 => if (stS TS M i i &&& 32 != 0) && (stS TS M i (i ||| TS i) &&& 128 != 0) then va_up (stS TS M i) i (stS TS M i i ||| 8) else stS TS M i
end
section
section Rows2
variable {p : Program} {l : Launch} {e : Env} {R : Room} {s : State} {m : MethodId} {args : Array Value} {below : List Frame} {meth : Method} {c : Code} {Q : State → Prop} {D : va_G} {E : Nat → ClassId} {A : Nat → Prop} {cc : ByteArray} {own : String} {nL cells slots pc : Nat} {lv lv' : List (Nat × Value)} {st : List Value} {ws ws' : va_W}
/-- one less, down to minus one -/
def pI (i : Nat) : Int32 := nI i - nI 1
theorem pI_s (i : Nat) : pI (i + 1) = nI i := by unfold pI; rw [pk_sub (Nat.le_add_left 1 i), Nat.add_sub_cancel]
theorem pI_0 : pI 0 = -1 := by decide
theorem pI_of (i : Nat) : nI i + Int32.ofInt (-1) = pI i := by
  unfold pI
  rw [Int32.sub_eq_add_neg]
  rfl
/-- a number, or minus one -/
def oI : Option Nat → Int32
  | none => -1
  | some j => nI j
theorem g_if_ltP (C : CX p s m args c D E A cc nL own) {i : Nat} (hi : i < 2 ^ 31) {off : Int} {tgt : Nat} (d : decode cc pc = .ok (.ifCond .lt off, 3)) (ht : (pc : Int) + off = (tgt : Int)) (kt : i = 0 → GG p l e R s m args below meth c Q D A nL cells slots tgt lv st ws) (kf : ∀ j, i = j + 1 → GG p l e R s m args below meth c Q D A nL cells slots (pc + 3) lv st ws) : GG p l e R s m args below meth c Q D A nL cells slots pc lv (.int (pI i) :: st) ws :=
  g_if_lt C d ht (fun h => kt (by cases i with | zero => rfl | succ j => rw [pI_s] at h; exact absurd h (nI_pos (by omega)))) (fun h => by cases i with | zero => exact absurd (by decide) h | succ j => exact kf j rfl)
end Rows2
end
section
set_option maxHeartbeats 4000000 in
set_option maxRecDepth 100000 in
theorem c_isIn (l : Launch) (D : va_G) (E : Nat → ClassId) (i : Nat) (k : Nat) (hi : i < 31) (hk : k < 2 ^ 31) : MI l D E y_AB_isIn (.code y_AB_isIn k_AB_isIn 2 (some .boolean)) ({ frames := 0, cells := 0, slots := 0, locals := 0 } : Room) [.int (nI i), .int (nI k)] [] (fun (r : Int32) (_ : Unit) => r = bI (k.testBit i)) (fun _ : Unit => []) := by
  refine MI.of (by decide) (Nat.le_of_ble_eq_true rfl) ?_
  intro p e s m args below meth c A C hrt hlk hnm
  refine g_lv (lv' := [(0, .int (nI i)), (1, .int (nI k))]) rfl ?_
  refine g_iload_n C d_AB_isIn_0 rfl 1 rfl ?_
  refine g_iconst (v := nI 1) C d_AB_isIn_1 (by decide) ?_
  refine g_iload_n C d_AB_isIn_2 rfl 0 rfl ?_
  refine g_ishl1N C (by omega) d_AB_isIn_3 ?_
  refine g_iandN C d_AB_isIn_4 ?_
  refine g_if_eqN (tgt := 12) C (and_lt (pow_lt (by omega))) d_AB_isIn_5 (by decide) (fun b0 => ?_) (fun b0 => ?_)
  · skip
    refine g_iconst (v := nI 0) C d_AB_isIn_12 (by decide) ?_
    refine g_top (show nI 0 = bI false from rfl) ?_
    exact g_zret C hrt hlk () (congrArg bI (by first | exact (and_pow_bit.mp b0).symm | exact (bt_of (fun q => b0 (and_pow_bit.mpr q))).symm)) rfl d_AB_isIn_13
  · skip
    refine g_iconst (v := nI 1) C d_AB_isIn_8 (by decide) ?_
    refine g_goto (tgt := 13) C d_AB_isIn_9 (by decide) ?_
    refine g_top (show nI 1 = bI true from rfl) ?_
    exact g_zret C hrt hlk () (congrArg bI (by first | exact (and_pow_bit.mp b0).symm | exact (bt_of (fun q => b0 (and_pow_bit.mpr q))).symm)) rfl d_AB_isIn_13

set_option maxHeartbeats 4000000 in
set_option maxRecDepth 100000 in
theorem c_isWithin (l : Launch) (D : va_G) (E : Nat → ClassId) (x : Int32) (k : Nat)  : MI l D E y_AB_isWithin (.code y_AB_isWithin k_AB_isWithin 2 (some .boolean)) ({ frames := 0, cells := 0, slots := 0, locals := 0 } : Room) [.int x, .int (nI k)] [] (fun (r : Int32) (_ : Unit) => r = bI (decide (x &&& (nI k ^^^ -1) = 0))) (fun _ : Unit => []) := by
  refine MI.of (by decide) (Nat.le_of_ble_eq_true rfl) ?_
  intro p e s m args below meth c A C hrt hlk hnm
  refine g_lv (lv' := [(0, .int x), (1, .int (nI k))]) rfl ?_
  refine g_iload_n C d_AB_isWithin_0 rfl 0 rfl ?_
  refine g_iload_n C d_AB_isWithin_1 rfl 1 rfl ?_
  refine g_iconst (v := (-1)) C d_AB_isWithin_2 (by decide) ?_
  refine g_ixor C d_AB_isWithin_3 ?_
  refine g_iand C d_AB_isWithin_4 ?_
  refine g_if_ne (tgt := 12) C d_AB_isWithin_5 (by decide) (fun b0 => ?_) (fun b0 => ?_)
  · skip
    refine g_iconst (v := nI 0) C d_AB_isWithin_12 (by decide) ?_
    refine g_top (show nI 0 = bI false from rfl) ?_
    exact g_zret C hrt hlk () (congrArg bI (by simp_all)) rfl d_AB_isWithin_13
  · skip
    refine g_iconst (v := nI 1) C d_AB_isWithin_8 (by decide) ?_
    refine g_goto (tgt := 13) C d_AB_isWithin_9 (by decide) ?_
    refine g_top (show nI 1 = bI true from rfl) ?_
    exact g_zret C hrt hlk () (congrArg bI (by simp_all)) rfl d_AB_isWithin_13

set_option maxHeartbeats 4000000 in
set_option maxRecDepth 100000 in
theorem c_isWithinN (l : Launch) (D : va_G) (E : Nat → ClassId) (j : Nat) (k : Nat) (hj : j < 2 ^ 31) : MI l D E y_AB_isWithin (.code y_AB_isWithin k_AB_isWithin 2 (some .boolean)) ({ frames := 0, cells := 0, slots := 0, locals := 0 } : Room) [.int (nI j), .int (nI k)] [] (fun (r : Int32) (_ : Unit) => r = bI (dif j k == 0)) (fun _ : Unit => []) := by
  refine MI.of (by decide) (Nat.le_of_ble_eq_true rfl) ?_
  intro p e s m args below meth c A C hrt hlk hnm
  refine g_lv (lv' := [(0, .int (nI j)), (1, .int (nI k))]) rfl ?_
  refine g_iload_n C d_AB_isWithin_0 rfl 0 rfl ?_
  refine g_iload_n C d_AB_isWithin_1 rfl 1 rfl ?_
  refine g_iconst (v := (-1)) C d_AB_isWithin_2 (by decide) ?_
  refine g_ixor C d_AB_isWithin_3 ?_
  refine g_iandD C d_AB_isWithin_4 ?_
  refine g_if_neN (tgt := 12) C (dif_lt hj) d_AB_isWithin_5 (by decide) (fun b0 => ?_) (fun b0 => ?_)
  · skip
    refine g_iconst (v := nI 0) C d_AB_isWithin_12 (by decide) ?_
    refine g_top (show nI 0 = bI false from rfl) ?_
    exact g_zret C hrt hlk () (congrArg bI (by simp_all)) rfl d_AB_isWithin_13
  · skip
    refine g_iconst (v := nI 1) C d_AB_isWithin_8 (by decide) ?_
    refine g_goto (tgt := 13) C d_AB_isWithin_9 (by decide) ?_
    refine g_top (show nI 1 = bI true from rfl) ?_
    exact g_zret C hrt hlk () (congrArg bI (by simp_all)) rfl d_AB_isWithin_13

set_option maxHeartbeats 4000000 in
set_option maxRecDepth 100000 in
theorem c_isKind (l : Launch) (D : va_G) (E : Nat → ClassId) (x : Int32)  : MI l D E y_AB_isKind (.code y_AB_isKind k_AB_isKind 1 (some .boolean)) ({ frames := 0, cells := 0, slots := 0, locals := 0 } : Room) [.int x] [] (fun (r : Int32) (_ : Unit) => r = bI (inR x 5)) (fun _ : Unit => []) := by
  refine MI.of (by decide) (Nat.le_of_ble_eq_true rfl) ?_
  intro p e s m args below meth c A C hrt hlk hnm
  refine g_lv (lv' := [(0, .int x)]) rfl ?_
  refine g_iload_n C d_AB_isKind_0 rfl 0 rfl ?_
  refine g_if_lt (tgt := 13) C d_AB_isKind_1 (by decide) (fun b0 => ?_) (fun b0 => ?_)
  · skip
    refine g_iconst (v := nI 0) C d_AB_isKind_13 (by decide) ?_
    refine g_top (show nI 0 = bI false from rfl) ?_
    exact g_zret C hrt hlk () (congrArg bI (by simp_all [inR])) rfl d_AB_isKind_14
  · skip
    refine g_iload_n C d_AB_isKind_4 rfl 0 rfl ?_
    refine g_iconst (v := nI 5) C d_AB_isKind_5 (by decide) ?_
    refine g_icmp_ge (tgt := 13) C d_AB_isKind_6 (by decide) (fun b1 => ?_) (fun b1 => ?_)
    · skip
      refine g_iconst (v := nI 0) C d_AB_isKind_13 (by decide) ?_
      refine g_top (show nI 0 = bI false from rfl) ?_
      exact g_zret C hrt hlk () (congrArg bI (by simp_all [inR])) rfl d_AB_isKind_14
    · skip
      refine g_iconst (v := nI 1) C d_AB_isKind_9 (by decide) ?_
      refine g_goto (tgt := 14) C d_AB_isKind_10 (by decide) ?_
      refine g_top (show nI 1 = bI true from rfl) ?_
      exact g_zret C hrt hlk () (congrArg bI (by simp_all [inR])) rfl d_AB_isKind_14

set_option maxHeartbeats 4000000 in
set_option maxRecDepth 100000 in
theorem c_Web_size (l : Launch) (D : va_G) (E : Nat → ClassId) (h : Nat) (t : Nat) (u : Nat) (n : Nat) (T : Nat → Nat) (U : Nat → Nat)  : MI l D E y_Web_size (.code y_Web_size k_Web_size 1 (some .int)) ({ frames := 0, cells := 0, slots := 0, locals := 0 } : Room) [.ref h] [(h, .inr (6, [.ref t, .ref u, .int (nI n)])), (t, .inl (E 0, 12, .inl (aN T))), (u, .inl (E 0, 12, .inl (aN U)))] (fun (r : Int32) (_ : Unit) => r = nI n) (fun _ : Unit => [(h, .inr (6, [.ref t, .ref u, .int (nI n)])), (t, .inl (E 0, 12, .inl (aN T))), (u, .inl (E 0, 12, .inl (aN U)))]) := by
  refine MI.of (by decide) (Nat.le_of_ble_eq_true rfl) ?_
  intro p e s m args below meth c A C hrt hlk hnm
  refine g_lv (lv' := [(0, .ref h)]) rfl ?_
  refine g_aload_n C d_Web_size_0 rfl 0 rfl ?_
  refine g_get C lay_Web 0 rfl rfl 2 (by decide) m_63 rfl d_Web_size_1 ?_
  exact g_iret C hrt hlk () (rfl) rfl d_Web_size_4

set_option maxHeartbeats 4000000 in
set_option maxRecDepth 100000 in
theorem c_Web_everything (l : Launch) (D : va_G) (E : Nat → ClassId) (h : Nat) (t : Nat) (u : Nat) (n : Nat) (T : Nat → Nat) (U : Nat → Nat) (hn : n ≤ 12) : MI l D E y_Web_everything (.code y_Web_everything k_Web_everything 1 (some .int)) ({ frames := 0, cells := 0, slots := 0, locals := 0 } : Room) [.ref h] [(h, .inr (6, [.ref t, .ref u, .int (nI n)])), (t, .inl (E 0, 12, .inl (aN T))), (u, .inl (E 0, 12, .inl (aN U)))] (fun (r : Int32) (_ : Unit) => r = nI (2 ^ n - 1)) (fun _ : Unit => [(h, .inr (6, [.ref t, .ref u, .int (nI n)])), (t, .inl (E 0, 12, .inl (aN T))), (u, .inl (E 0, 12, .inl (aN U)))]) := by
  refine MI.of (by decide) (Nat.le_of_ble_eq_true rfl) ?_
  intro p e s m args below meth c A C hrt hlk hnm
  refine g_lv (lv' := [(0, .ref h)]) rfl ?_
  refine g_iconst (v := nI 1) C d_Web_everything_0 (by decide) ?_
  refine g_aload_n C d_Web_everything_1 rfl 0 rfl ?_
  refine g_get C lay_Web 0 rfl rfl 2 (by decide) m_63 rfl d_Web_everything_2 ?_
  refine g_ishl1N C (by omega) d_Web_everything_5 ?_
  refine g_iconst (v := nI 1) C d_Web_everything_6 (by decide) ?_
  refine g_isubN C Nat.one_le_two_pow d_Web_everything_7 ?_
  exact g_iret C hrt hlk () (rfl) rfl d_Web_everything_8

set_option maxHeartbeats 4000000 in
set_option maxRecDepth 100000 in
theorem c_Web_has (l : Launch) (D : va_G) (E : Nat → ClassId) (h : Nat) (t : Nat) (u : Nat) (n : Nat) (T : Nat → Nat) (U : Nat → Nat) (x : Int32)  : MI l D E y_Web_has (.code y_Web_has k_Web_has 2 (some .boolean)) ({ frames := 0, cells := 0, slots := 0, locals := 0 } : Room) [.ref h, .int x] [(h, .inr (6, [.ref t, .ref u, .int (nI n)])), (t, .inl (E 0, 12, .inl (aN T))), (u, .inl (E 0, 12, .inl (aN U)))] (fun (r : Int32) (_ : Unit) => r = bI (inR x n)) (fun _ : Unit => [(h, .inr (6, [.ref t, .ref u, .int (nI n)])), (t, .inl (E 0, 12, .inl (aN T))), (u, .inl (E 0, 12, .inl (aN U)))]) := by
  refine MI.of (by decide) (Nat.le_of_ble_eq_true rfl) ?_
  intro p e s m args below meth c A C hrt hlk hnm
  refine g_lv (lv' := [(0, .ref h), (1, .int x)]) rfl ?_
  refine g_iload_n C d_Web_has_0 rfl 1 rfl ?_
  refine g_if_lt (tgt := 16) C d_Web_has_1 (by decide) (fun b0 => ?_) (fun b0 => ?_)
  · skip
    refine g_iconst (v := nI 0) C d_Web_has_16 (by decide) ?_
    refine g_top (show nI 0 = bI false from rfl) ?_
    exact g_zret C hrt hlk () (congrArg bI (by simp_all [inR])) rfl d_Web_has_17
  · skip
    refine g_iload_n C d_Web_has_4 rfl 1 rfl ?_
    refine g_aload_n C d_Web_has_5 rfl 0 rfl ?_
    refine g_get C lay_Web 0 rfl rfl 2 (by decide) m_63 rfl d_Web_has_6 ?_
    refine g_icmp_ge (tgt := 16) C d_Web_has_9 (by decide) (fun b1 => ?_) (fun b1 => ?_)
    · skip
      refine g_iconst (v := nI 0) C d_Web_has_16 (by decide) ?_
      refine g_top (show nI 0 = bI false from rfl) ?_
      exact g_zret C hrt hlk () (congrArg bI (by simp_all [inR])) rfl d_Web_has_17
    · skip
      refine g_iconst (v := nI 1) C d_Web_has_12 (by decide) ?_
      refine g_goto (tgt := 17) C d_Web_has_13 (by decide) ?_
      refine g_top (show nI 1 = bI true from rfl) ?_
      exact g_zret C hrt hlk () (congrArg bI (by simp_all [inR])) rfl d_Web_has_17

set_option maxHeartbeats 4000000 in
set_option maxRecDepth 100000 in
theorem c_Web_hasSet (l : Launch) (D : va_G) (E : Nat → ClassId) (h : Nat) (t : Nat) (u : Nat) (n : Nat) (T : Nat → Nat) (U : Nat → Nat) (x : Int32) (hn : n ≤ 12) : MI l D E y_Web_hasSet (.code y_Web_hasSet k_Web_hasSet 2 (some .boolean)) ({ frames := 1, cells := 0, slots := 0, locals := 21 } : Room) [.ref h, .int x] [(h, .inr (6, [.ref t, .ref u, .int (nI n)])), (t, .inl (E 0, 12, .inl (aN T))), (u, .inl (E 0, 12, .inl (aN U)))] (fun (r : Int32) (_ : Unit) => r = bI (decide (x &&& (nI (2 ^ n - 1) ^^^ -1) = 0))) (fun _ : Unit => [(h, .inr (6, [.ref t, .ref u, .int (nI n)])), (t, .inl (E 0, 12, .inl (aN T))), (u, .inl (E 0, 12, .inl (aN U)))]) := by
  refine MI.of (by decide) (Nat.le_of_ble_eq_true rfl) ?_
  intro p e s m args below meth c A C hrt hlk hnm
  refine g_lv (lv' := [(0, .ref h), (1, .int x)]) rfl ?_
  refine g_iload_n C d_Web_hasSet_0 rfl 1 rfl ?_
  refine g_aload_n C d_Web_hasSet_1 rfl 0 rfl ?_
  refine g_iV (rest := [.int x]) (wr := []) C (c_Web_everything l D E h t u n T U (by omega)) rd_Web_everything m_259 m_260 m_261 rfl rfl (Nat.le_of_ble_eq_true rfl) (Nat.le_of_ble_eq_true rfl) (Nat.le_of_ble_eq_true rfl) (Nat.le_of_ble_eq_true rfl) rfl rfl (Nat.le_of_ble_eq_true rfl) d_Web_hasSet_2 [0, 1, 2] [] rfl (by decide) rfl (by decide) (by decide) (fun r2 _ (hr2 : r2 = nI (2 ^ n - 1)) => ?_)
  subst hr2
  refine g_cells (ws' := [(h, .inr (6, [.ref t, .ref u, .int (nI n)])), (t, .inl (E 0, 12, .inl (aN T))), (u, .inl (E 0, 12, .inl (aN U)))]) [0, 1, 2] (by decide) rfl ?_
  refine g_iSN (rest := []) (wr := [(h, .inr (6, [.ref t, .ref u, .int (nI n)])), (t, .inl (E 0, 12, .inl (aN T))), (u, .inl (E 0, 12, .inl (aN U)))]) C (c_isWithin l D E x (2 ^ n - 1) ) rd_AB_isWithin m_263 m_264 (Nat.le_of_ble_eq_true rfl) (Nat.le_of_ble_eq_true rfl) (Nat.le_of_ble_eq_true rfl) (Nat.le_of_ble_eq_true rfl) rfl rfl (Nat.le_of_ble_eq_true rfl) d_Web_hasSet_5 [] [0, 1, 2] rfl (by decide) rfl (by decide) (by decide) (fun r5 _ (hr5 : r5 = bI (decide (x &&& (nI (2 ^ n - 1) ^^^ -1) = 0))) => ?_)
  subst hr5
  refine g_cells (ws' := [(h, .inr (6, [.ref t, .ref u, .int (nI n)])), (t, .inl (E 0, 12, .inl (aN T))), (u, .inl (E 0, 12, .inl (aN U)))]) [0, 1, 2] (by decide) rfl ?_
  exact g_zret C hrt hlk () (rfl) rfl d_Web_hasSet_8

set_option maxHeartbeats 4000000 in
set_option maxRecDepth 100000 in
theorem c_Web_hasRoomFor (l : Launch) (D : va_G) (E : Nat → ClassId) (h : Nat) (t : Nat) (u : Nat) (n : Nat) (T : Nat → Nat) (U : Nat → Nat) (k : Nat) (hn : n ≤ 12) (hk : k ≤ 3) : MI l D E y_Web_hasRoomFor (.code y_Web_hasRoomFor k_Web_hasRoomFor 2 (some .boolean)) ({ frames := 0, cells := 0, slots := 0, locals := 0 } : Room) [.ref h, .int (nI k)] [(h, .inr (6, [.ref t, .ref u, .int (nI n)])), (t, .inl (E 0, 12, .inl (aN T))), (u, .inl (E 0, 12, .inl (aN U)))] (fun (r : Int32) (_ : Unit) => r = bI (decide (n + k ≤ 12))) (fun _ : Unit => [(h, .inr (6, [.ref t, .ref u, .int (nI n)])), (t, .inl (E 0, 12, .inl (aN T))), (u, .inl (E 0, 12, .inl (aN U)))]) := by
  refine MI.of (by decide) (Nat.le_of_ble_eq_true rfl) ?_
  intro p e s m args below meth c A C hrt hlk hnm
  refine g_lv (lv' := [(0, .ref h), (1, .int (nI k))]) rfl ?_
  refine g_aload_n C d_Web_hasRoomFor_0 rfl 0 rfl ?_
  refine g_get C lay_Web 0 rfl rfl 2 (by decide) m_63 rfl d_Web_hasRoomFor_1 ?_
  refine g_iload_n C d_Web_hasRoomFor_4 rfl 1 rfl ?_
  refine g_iaddN C d_Web_hasRoomFor_5 ?_
  refine g_bipush (v := nI 12) C d_Web_hasRoomFor_6 (by decide) ?_
  refine g_icmp_gtN (tgt := 15) C (by omega) (by decide) d_Web_hasRoomFor_8 (by decide) (fun b0 => ?_) (fun b0 => ?_)
  · skip
    refine g_iconst (v := nI 0) C d_Web_hasRoomFor_15 (by decide) ?_
    refine g_top (show nI 0 = bI false from rfl) ?_
    exact g_zret C hrt hlk () (congrArg bI (by simp; omega)) rfl d_Web_hasRoomFor_16
  · skip
    refine g_iconst (v := nI 1) C d_Web_hasRoomFor_11 (by decide) ?_
    refine g_goto (tgt := 16) C d_Web_hasRoomFor_12 (by decide) ?_
    refine g_top (show nI 1 = bI true from rfl) ?_
    exact g_zret C hrt hlk () (congrArg bI (by simp; omega)) rfl d_Web_hasRoomFor_16

set_option maxHeartbeats 4000000 in
set_option maxRecDepth 100000 in
theorem c_Web_add (l : Launch) (D : va_G) (E : Nat → ClassId) (h : Nat) (t : Nat) (u : Nat) (n : Nat) (T : Nat → Nat) (U : Nat → Nat) (hn : n < 12) : MI l D E y_Web_add (.code y_Web_add k_Web_add 1 (some .int)) ({ frames := 1, cells := 0, slots := 0, locals := 21 } : Room) [.ref h] [(h, .inr (6, [.ref t, .ref u, .int (nI n)])), (t, .inl (E 0, 12, .inl (aN T))), (u, .inl (E 0, 12, .inl (aN U)))] (fun (r : Int32) (_ : Unit) => r = nI n) (fun _ : Unit => [(h, .inr (6, [.ref t, .ref u, .int (nI (n + 1))])), (t, .inl (E 0, 12, .inl (aN T))), (u, .inl (E 0, 12, .inl (aN U)))]) := by
  refine MI.of (by decide) (Nat.le_of_ble_eq_true rfl) ?_
  intro p e s m args below meth c A C hrt hlk hnm
  refine g_lv (lv' := [(0, .ref h)]) rfl ?_
  refine g_aload_n C d_Web_add_0 rfl 0 rfl ?_
  refine g_iconst (v := nI 1) C d_Web_add_1 (by decide) ?_
  refine g_iV (rest := []) (wr := []) C (c_Web_hasRoomFor l D E h t u n T U 1 (by omega) (by omega)) rd_Web_hasRoomFor m_198 m_191 m_192 rfl rfl (Nat.le_of_ble_eq_true rfl) (Nat.le_of_ble_eq_true rfl) (Nat.le_of_ble_eq_true rfl) (Nat.le_of_ble_eq_true rfl) rfl rfl (Nat.le_of_ble_eq_true rfl) d_Web_add_2 [0, 1, 2] [] rfl (by decide) rfl (by decide) (by decide) (fun r2 _ (hr2 : r2 = bI (decide (n + 1 ≤ 12))) => ?_)
  subst hr2
  refine g_cells (ws' := [(h, .inr (6, [.ref t, .ref u, .int (nI n)])), (t, .inl (E 0, 12, .inl (aN T))), (u, .inl (E 0, 12, .inl (aN U)))]) [0, 1, 2] (by decide) rfl ?_
  refine g_if_neB (tgt := 10) C d_Web_add_5 (by decide) (fun b0 => ?_) (fun b0 => ?_)
  · skip
    refine g_aload_n C d_Web_add_10 rfl 0 rfl ?_
    refine g_dup C d_Web_add_11 rfl ?_
    refine g_get C lay_Web 0 rfl rfl 2 (by decide) m_63 rfl d_Web_add_12 ?_
    refine g_iconst (v := nI 1) C d_Web_add_15 (by decide) ?_
    refine g_iaddN C d_Web_add_16 ?_
    refine g_put (ws' := [(h, .inr (6, [.ref t, .ref u, .int (nI (n + 1))])), (t, .inl (E 0, 12, .inl (aN T))), (u, .inl (E 0, 12, .inl (aN U)))]) C lay_Web ty_Web nm_Web 0 rfl rfl 2 (by decide) m_63 rfl rfl rfl (Nat.le_of_ble_eq_true rfl) rfl d_Web_add_17 ?_
    refine g_aload_n C d_Web_add_20 rfl 0 rfl ?_
    refine g_get C lay_Web 0 rfl rfl 2 (by decide) m_63 rfl d_Web_add_21 ?_
    refine g_iconst (v := nI 1) C d_Web_add_24 (by decide) ?_
    refine g_isubN C (by omega) d_Web_add_25 ?_
    exact g_iret C hrt hlk () (by rw [Nat.add_sub_cancel]) rfl d_Web_add_26
  · skip
    simp at b0; omega

set_option maxHeartbeats 4000000 in
set_option maxRecDepth 100000 in
theorem c_Web_leads (l : Launch) (D : va_G) (E : Nat → ClassId) (h : Nat) (t : Nat) (u : Nat) (n : Nat) (T : Nat → Nat) (U : Nat → Nat) (x : Int32) (y : Int32) (hn : n ≤ 12) (hT : ∀ a, T a < 4096) : MI l D E y_Web_leads (.code y_Web_leads k_Web_leads 3 (some .boolean)) ({ frames := 1, cells := 0, slots := 0, locals := 21 } : Room) [.ref h, .int x, .int y] [(h, .inr (6, [.ref t, .ref u, .int (nI n)])), (t, .inl (E 0, 12, .inl (aN T))), (u, .inl (E 0, 12, .inl (aN U)))] (fun (r : Int32) (_ : Unit) => r = bI (inR x n && inR y n && (T x.toNatClampNeg).testBit y.toNatClampNeg)) (fun _ : Unit => [(h, .inr (6, [.ref t, .ref u, .int (nI n)])), (t, .inl (E 0, 12, .inl (aN T))), (u, .inl (E 0, 12, .inl (aN U)))]) := by
  refine MI.of (by decide) (Nat.le_of_ble_eq_true rfl) ?_
  intro p e s m args below meth c A C hrt hlk hnm
  refine g_lv (lv' := [(0, .ref h), (1, .int x), (2, .int y)]) rfl ?_
  refine g_aload_n C d_Web_leads_0 rfl 0 rfl ?_
  refine g_iload_n C d_Web_leads_1 rfl 1 rfl ?_
  refine g_iV (rest := []) (wr := []) C (c_Web_has l D E h t u n T U x ) rd_Web_has m_223 m_216 m_217 rfl rfl (Nat.le_of_ble_eq_true rfl) (Nat.le_of_ble_eq_true rfl) (Nat.le_of_ble_eq_true rfl) (Nat.le_of_ble_eq_true rfl) rfl rfl (Nat.le_of_ble_eq_true rfl) d_Web_leads_2 [0, 1, 2] [] rfl (by decide) rfl (by decide) (by decide) (fun r2 _ (hr2 : r2 = bI (inR x n)) => ?_)
  subst hr2
  refine g_cells (ws' := [(h, .inr (6, [.ref t, .ref u, .int (nI n)])), (t, .inl (E 0, 12, .inl (aN T))), (u, .inl (E 0, 12, .inl (aN U)))]) [0, 1, 2] (by decide) rfl ?_
  refine g_if_eqB (tgt := 33) C d_Web_leads_5 (by decide) (fun b0 => ?_) (fun b0 => ?_)
  · skip
    refine g_iconst (v := nI 0) C d_Web_leads_33 (by decide) ?_
    refine g_top (show nI 0 = bI false from rfl) ?_
    exact g_zret C hrt hlk () (congrArg bI (by first | (simp_all; done) | (rw [b0, b1, nI_clamp (by omega), nI_clamp (by omega)]; simp_all))) rfl d_Web_leads_34
  · skip
    refine g_aload_n C d_Web_leads_8 rfl 0 rfl ?_
    refine g_iload_n C d_Web_leads_9 rfl 2 rfl ?_
    refine g_iV (rest := []) (wr := []) C (c_Web_has l D E h t u n T U y ) rd_Web_has m_223 m_216 m_217 rfl rfl (Nat.le_of_ble_eq_true rfl) (Nat.le_of_ble_eq_true rfl) (Nat.le_of_ble_eq_true rfl) (Nat.le_of_ble_eq_true rfl) rfl rfl (Nat.le_of_ble_eq_true rfl) d_Web_leads_10 [0, 1, 2] [] rfl (by decide) rfl (by decide) (by decide) (fun r10 _ (hr10 : r10 = bI (inR y n)) => ?_)
    subst hr10
    refine g_cells (ws' := [(h, .inr (6, [.ref t, .ref u, .int (nI n)])), (t, .inl (E 0, 12, .inl (aN T))), (u, .inl (E 0, 12, .inl (aN U)))]) [0, 1, 2] (by decide) rfl ?_
    refine g_if_eqB (tgt := 33) C d_Web_leads_13 (by decide) (fun b1 => ?_) (fun b1 => ?_)
    · skip
      refine g_iconst (v := nI 0) C d_Web_leads_33 (by decide) ?_
      refine g_top (show nI 0 = bI false from rfl) ?_
      exact g_zret C hrt hlk () (congrArg bI (by first | (simp_all; done) | (rw [b0, b1, nI_clamp (by omega), nI_clamp (by omega)]; simp_all))) rfl d_Web_leads_34
    · skip
      refine g_iload_n C d_Web_leads_16 rfl 2 rfl ?_
      refine g_aload_n C d_Web_leads_17 rfl 0 rfl ?_
      refine g_get C lay_Web 0 rfl rfl 0 (by decide) m_61 rfl d_Web_leads_18 ?_
      refine g_iload_n C d_Web_leads_21 rfl 1 rfl ?_
      obtain ⟨i, hi, rfl⟩ := inR_of b0
      obtain ⟨j, hj, rfl⟩ := inR_of b1
      refine g_ialdN C 1 rfl (by omega) (by decide) d_Web_leads_22 ?_
      refine g_top (show (aN T) i = nI (T i) from rfl) ?_
      refine g_iSN (rest := []) (wr := [(h, .inr (6, [.ref t, .ref u, .int (nI n)])), (t, .inl (E 0, 12, .inl (aN T))), (u, .inl (E 0, 12, .inl (aN U)))]) C (c_isIn l D E j (T i) (by omega) (lt4 (hT _))) rd_AB_isIn m_224 m_225 (Nat.le_of_ble_eq_true rfl) (Nat.le_of_ble_eq_true rfl) (Nat.le_of_ble_eq_true rfl) (Nat.le_of_ble_eq_true rfl) rfl rfl (Nat.le_of_ble_eq_true rfl) d_Web_leads_23 [] [0, 1, 2] rfl (by decide) rfl (by decide) (by decide) (fun r23 _ (hr23 : r23 = bI ((T i).testBit j)) => ?_)
      subst hr23
      refine g_cells (ws' := [(h, .inr (6, [.ref t, .ref u, .int (nI n)])), (t, .inl (E 0, 12, .inl (aN T))), (u, .inl (E 0, 12, .inl (aN U)))]) [0, 1, 2] (by decide) rfl ?_
      refine g_if_eqB (tgt := 33) C d_Web_leads_26 (by decide) (fun b2 => ?_) (fun b2 => ?_)
      · skip
        refine g_iconst (v := nI 0) C d_Web_leads_33 (by decide) ?_
        refine g_top (show nI 0 = bI false from rfl) ?_
        exact g_zret C hrt hlk () (congrArg bI (by first | (simp_all; done) | (rw [b0, b1, nI_clamp (by omega), nI_clamp (by omega)]; simp_all))) rfl d_Web_leads_34
      · skip
        refine g_iconst (v := nI 1) C d_Web_leads_29 (by decide) ?_
        refine g_goto (tgt := 34) C d_Web_leads_30 (by decide) ?_
        refine g_top (show nI 1 = bI true from rfl) ?_
        exact g_zret C hrt hlk () (congrArg bI (by first | (simp_all; done) | (rw [b0, b1, nI_clamp (by omega), nI_clamp (by omega)]; simp_all))) rfl d_Web_leads_34

set_option maxHeartbeats 4000000 in
set_option maxRecDepth 100000 in
theorem c_Web_put (l : Launch) (D : va_G) (E : Nat → ClassId) (h : Nat) (t : Nat) (u : Nat) (n : Nat) (T : Nat → Nat) (U : Nat → Nat) (i : Nat) (j : Nat) (on : Bool) (hn : n ≤ 12) (hT : ∀ a, T a < 4096) (hU : ∀ a, U a < 4096) (hi : i < n) (hj : j < n) : MV l D E y_Web_put (.code y_Web_put k_Web_put 4 none) ({ frames := 1, cells := 0, slots := 0, locals := 21 } : Room) [.ref h, .int (nI i), .int (nI j), .int (bI on)] [(h, .inr (6, [.ref t, .ref u, .int (nI n)])), (t, .inl (E 0, 12, .inl (aN T))), (u, .inl (E 0, 12, .inl (aN U)))] (fun _ : Unit => True) (fun _ : Unit => [(h, .inr (6, [.ref t, .ref u, .int (nI n)])), (t, .inl (E 0, 12, .inl (aN (putT on T i j)))), (u, .inl (E 0, 12, .inl (aN (putT on U j i))))]) := by
  refine MV.of (by decide) (Nat.le_of_ble_eq_true rfl) ?_
  intro p e s m args below meth c A C hrt hlk hnm
  refine g_lv (lv' := [(0, .ref h), (1, .int (nI i)), (2, .int (nI j)), (3, .int (bI on))]) rfl ?_
  refine g_aload_n C d_Web_put_0 rfl 0 rfl ?_
  refine g_iload_n C d_Web_put_1 rfl 1 rfl ?_
  refine g_iV (rest := []) (wr := []) C (c_Web_has l D E h t u n T U (nI i) ) rd_Web_has m_223 m_216 m_217 rfl rfl (Nat.le_of_ble_eq_true rfl) (Nat.le_of_ble_eq_true rfl) (Nat.le_of_ble_eq_true rfl) (Nat.le_of_ble_eq_true rfl) rfl rfl (Nat.le_of_ble_eq_true rfl) d_Web_put_2 [0, 1, 2] [] rfl (by decide) rfl (by decide) (by decide) (fun r2 _ (hr2 : r2 = bI (inR (nI i) n)) => ?_)
  subst hr2
  refine g_cells (ws' := [(h, .inr (6, [.ref t, .ref u, .int (nI n)])), (t, .inl (E 0, 12, .inl (aN T))), (u, .inl (E 0, 12, .inl (aN U)))]) [0, 1, 2] (by decide) rfl ?_
  refine g_if_eqB (tgt := 16) C d_Web_put_5 (by decide) (fun b0 => ?_) (fun b0 => ?_)
  · skip
    rw [inR_nI (by omega) (by omega)] at b0; simp at b0; omega
  · skip
    refine g_aload_n C d_Web_put_8 rfl 0 rfl ?_
    refine g_iload_n C d_Web_put_9 rfl 2 rfl ?_
    refine g_iV (rest := []) (wr := []) C (c_Web_has l D E h t u n T U (nI j) ) rd_Web_has m_223 m_216 m_217 rfl rfl (Nat.le_of_ble_eq_true rfl) (Nat.le_of_ble_eq_true rfl) (Nat.le_of_ble_eq_true rfl) (Nat.le_of_ble_eq_true rfl) rfl rfl (Nat.le_of_ble_eq_true rfl) d_Web_put_10 [0, 1, 2] [] rfl (by decide) rfl (by decide) (by decide) (fun r10 _ (hr10 : r10 = bI (inR (nI j) n)) => ?_)
    subst hr10
    refine g_cells (ws' := [(h, .inr (6, [.ref t, .ref u, .int (nI n)])), (t, .inl (E 0, 12, .inl (aN T))), (u, .inl (E 0, 12, .inl (aN U)))]) [0, 1, 2] (by decide) rfl ?_
    refine g_if_neB (tgt := 17) C d_Web_put_13 (by decide) (fun b1 => ?_) (fun b1 => ?_)
    · skip
      refine g_iload_n C d_Web_put_17 rfl 3 rfl ?_
      refine g_if_eqB (tgt := 48) C d_Web_put_18 (by decide) (fun b2 => ?_) (fun b2 => ?_)
      · skip
        refine g_aload_n C d_Web_put_48 rfl 0 rfl ?_
        refine g_get C lay_Web 0 rfl rfl 0 (by decide) m_61 rfl d_Web_put_49 ?_
        refine g_iload_n C d_Web_put_52 rfl 1 rfl ?_
        refine g_dup2 C d_Web_put_53 rfl rfl ?_
        refine g_ialdN C 1 rfl (by omega) (by decide) d_Web_put_54 ?_
        refine g_top (show (aN T) i = nI (T i) from rfl) ?_
        refine g_iconst (v := nI 1) C d_Web_put_55 (by decide) ?_
        refine g_iload_n C d_Web_put_56 rfl 2 rfl ?_
        refine g_ishl1N C (by omega) d_Web_put_57 ?_
        refine g_iconst (v := (-1)) C d_Web_put_58 (by decide) ?_
        refine g_ixor C d_Web_put_59 ?_
        refine g_iandD C d_Web_put_60 ?_
        refine g_iastN (f' := aN (va_up T i (dif (T i) (2 ^ j)))) (ws' := [(h, .inr (6, [.ref t, .ref u, .int (nI n)])), (t, .inl (E 0, 12, .inl (aN (va_up T i (dif (T i) (2 ^ j)))))), (u, .inl (E 0, 12, .inl (aN U)))]) C 1 rfl (by omega) (by decide) (aN_up _ _ _) rfl d_Web_put_61 ?_
        refine g_aload_n C d_Web_put_62 rfl 0 rfl ?_
        refine g_get C lay_Web 0 rfl rfl 1 (by decide) m_62 rfl d_Web_put_63 ?_
        refine g_iload_n C d_Web_put_66 rfl 2 rfl ?_
        refine g_dup2 C d_Web_put_67 rfl rfl ?_
        refine g_ialdN C 2 rfl (by omega) (by decide) d_Web_put_68 ?_
        refine g_top (show (aN U) j = nI (U j) from rfl) ?_
        refine g_iconst (v := nI 1) C d_Web_put_69 (by decide) ?_
        refine g_iload_n C d_Web_put_70 rfl 1 rfl ?_
        refine g_ishl1N C (by omega) d_Web_put_71 ?_
        refine g_iconst (v := (-1)) C d_Web_put_72 (by decide) ?_
        refine g_ixor C d_Web_put_73 ?_
        refine g_iandD C d_Web_put_74 ?_
        refine g_iastN (f' := aN (va_up U j (dif (U j) (2 ^ i)))) (ws' := [(h, .inr (6, [.ref t, .ref u, .int (nI n)])), (t, .inl (E 0, 12, .inl (aN (va_up T i (dif (T i) (2 ^ j)))))), (u, .inl (E 0, 12, .inl (aN (va_up U j (dif (U j) (2 ^ i))))))]) C 2 rfl (by omega) (by decide) (aN_up _ _ _) rfl d_Web_put_75 ?_
        exact g_vret C hrt hlk () (trivial) (by subst b2; rfl) d_Web_put_76
      · skip
        refine g_aload_n C d_Web_put_21 rfl 0 rfl ?_
        refine g_get C lay_Web 0 rfl rfl 0 (by decide) m_61 rfl d_Web_put_22 ?_
        refine g_iload_n C d_Web_put_25 rfl 1 rfl ?_
        refine g_dup2 C d_Web_put_26 rfl rfl ?_
        refine g_ialdN C 1 rfl (by omega) (by decide) d_Web_put_27 ?_
        refine g_top (show (aN T) i = nI (T i) from rfl) ?_
        refine g_iconst (v := nI 1) C d_Web_put_28 (by decide) ?_
        refine g_iload_n C d_Web_put_29 rfl 2 rfl ?_
        refine g_ishl1N C (by omega) d_Web_put_30 ?_
        refine g_iorN C d_Web_put_31 ?_
        refine g_iastN (f' := aN (va_up T i ((T i) ||| (2 ^ j)))) (ws' := [(h, .inr (6, [.ref t, .ref u, .int (nI n)])), (t, .inl (E 0, 12, .inl (aN (va_up T i ((T i) ||| (2 ^ j)))))), (u, .inl (E 0, 12, .inl (aN U)))]) C 1 rfl (by omega) (by decide) (aN_up _ _ _) rfl d_Web_put_32 ?_
        refine g_aload_n C d_Web_put_33 rfl 0 rfl ?_
        refine g_get C lay_Web 0 rfl rfl 1 (by decide) m_62 rfl d_Web_put_34 ?_
        refine g_iload_n C d_Web_put_37 rfl 2 rfl ?_
        refine g_dup2 C d_Web_put_38 rfl rfl ?_
        refine g_ialdN C 2 rfl (by omega) (by decide) d_Web_put_39 ?_
        refine g_top (show (aN U) j = nI (U j) from rfl) ?_
        refine g_iconst (v := nI 1) C d_Web_put_40 (by decide) ?_
        refine g_iload_n C d_Web_put_41 rfl 1 rfl ?_
        refine g_ishl1N C (by omega) d_Web_put_42 ?_
        refine g_iorN C d_Web_put_43 ?_
        refine g_iastN (f' := aN (va_up U j ((U j) ||| (2 ^ i)))) (ws' := [(h, .inr (6, [.ref t, .ref u, .int (nI n)])), (t, .inl (E 0, 12, .inl (aN (va_up T i ((T i) ||| (2 ^ j)))))), (u, .inl (E 0, 12, .inl (aN (va_up U j ((U j) ||| (2 ^ i))))))]) C 2 rfl (by omega) (by decide) (aN_up _ _ _) rfl d_Web_put_44 ?_
        refine g_goto (tgt := 76) C d_Web_put_45 (by decide) ?_
        exact g_vret C hrt hlk () (trivial) (by subst b2; rfl) d_Web_put_76
    · skip
      rw [inR_nI (by omega) (by omega)] at b1; simp at b1; omega

set_option maxHeartbeats 4000000 in
set_option maxRecDepth 100000 in
theorem c_Web_targetsOfOne (l : Launch) (D : va_G) (E : Nat → ClassId) (h : Nat) (t : Nat) (u : Nat) (n : Nat) (T : Nat → Nat) (U : Nat → Nat) (i : Nat) (hn : n ≤ 12) (hi : i < 12) : MI l D E y_Web_targetsOfOne (.code y_Web_targetsOfOne k_Web_targetsOfOne 2 (some .int)) ({ frames := 1, cells := 0, slots := 0, locals := 21 } : Room) [.ref h, .int (nI i)] [(h, .inr (6, [.ref t, .ref u, .int (nI n)])), (t, .inl (E 0, 12, .inl (aN T))), (u, .inl (E 0, 12, .inl (aN U)))] (fun (r : Int32) (_ : Unit) => r = nI (if i < n then T i else 0)) (fun _ : Unit => [(h, .inr (6, [.ref t, .ref u, .int (nI n)])), (t, .inl (E 0, 12, .inl (aN T))), (u, .inl (E 0, 12, .inl (aN U)))]) := by
  refine MI.of (by decide) (Nat.le_of_ble_eq_true rfl) ?_
  intro p e s m args below meth c A C hrt hlk hnm
  refine g_lv (lv' := [(0, .ref h), (1, .int (nI i))]) rfl ?_
  refine g_aload_n C d_Web_targetsOfOne_0 rfl 0 rfl ?_
  refine g_iload_n C d_Web_targetsOfOne_1 rfl 1 rfl ?_
  refine g_iV (rest := []) (wr := []) C (c_Web_has l D E h t u n T U (nI i) ) rd_Web_has m_223 m_216 m_217 rfl rfl (Nat.le_of_ble_eq_true rfl) (Nat.le_of_ble_eq_true rfl) (Nat.le_of_ble_eq_true rfl) (Nat.le_of_ble_eq_true rfl) rfl rfl (Nat.le_of_ble_eq_true rfl) d_Web_targetsOfOne_2 [0, 1, 2] [] rfl (by decide) rfl (by decide) (by decide) (fun r2 _ (hr2 : r2 = bI (inR (nI i) n)) => ?_)
  subst hr2
  refine g_cells (ws' := [(h, .inr (6, [.ref t, .ref u, .int (nI n)])), (t, .inl (E 0, 12, .inl (aN T))), (u, .inl (E 0, 12, .inl (aN U)))]) [0, 1, 2] (by decide) rfl ?_
  refine g_if_eqB (tgt := 17) C d_Web_targetsOfOne_5 (by decide) (fun b0 => ?_) (fun b0 => ?_)
  · skip
    refine g_iconst (v := nI 0) C d_Web_targetsOfOne_17 (by decide) ?_
    exact g_iret C hrt hlk () (congrArg nI (by rw [inR_nI (by omega) (by omega)] at b0; simp at b0; first | (rw [if_pos b0]; done) | rw [if_neg (by omega)])) rfl d_Web_targetsOfOne_18
  · skip
    refine g_aload_n C d_Web_targetsOfOne_8 rfl 0 rfl ?_
    refine g_get C lay_Web 0 rfl rfl 0 (by decide) m_61 rfl d_Web_targetsOfOne_9 ?_
    refine g_iload_n C d_Web_targetsOfOne_12 rfl 1 rfl ?_
    refine g_ialdN C 1 rfl (by omega) (by decide) d_Web_targetsOfOne_13 ?_
    refine g_top (show (aN T) i = nI (T i) from rfl) ?_
    refine g_goto (tgt := 18) C d_Web_targetsOfOne_14 (by decide) ?_
    exact g_iret C hrt hlk () (congrArg nI (by rw [inR_nI (by omega) (by omega)] at b0; simp at b0; first | (rw [if_pos b0]; done) | rw [if_neg (by omega)])) rfl d_Web_targetsOfOne_18

set_option maxHeartbeats 4000000 in
set_option maxRecDepth 100000 in
theorem c_Web_attackersOfOne (l : Launch) (D : va_G) (E : Nat → ClassId) (h : Nat) (t : Nat) (u : Nat) (n : Nat) (T : Nat → Nat) (U : Nat → Nat) (i : Nat) (hn : n ≤ 12) (hi : i < 12) : MI l D E y_Web_attackersOfOne (.code y_Web_attackersOfOne k_Web_attackersOfOne 2 (some .int)) ({ frames := 1, cells := 0, slots := 0, locals := 21 } : Room) [.ref h, .int (nI i)] [(h, .inr (6, [.ref t, .ref u, .int (nI n)])), (t, .inl (E 0, 12, .inl (aN T))), (u, .inl (E 0, 12, .inl (aN U)))] (fun (r : Int32) (_ : Unit) => r = nI (if i < n then U i else 0)) (fun _ : Unit => [(h, .inr (6, [.ref t, .ref u, .int (nI n)])), (t, .inl (E 0, 12, .inl (aN T))), (u, .inl (E 0, 12, .inl (aN U)))]) := by
  refine MI.of (by decide) (Nat.le_of_ble_eq_true rfl) ?_
  intro p e s m args below meth c A C hrt hlk hnm
  refine g_lv (lv' := [(0, .ref h), (1, .int (nI i))]) rfl ?_
  refine g_aload_n C d_Web_attackersOfOne_0 rfl 0 rfl ?_
  refine g_iload_n C d_Web_attackersOfOne_1 rfl 1 rfl ?_
  refine g_iV (rest := []) (wr := []) C (c_Web_has l D E h t u n T U (nI i) ) rd_Web_has m_223 m_216 m_217 rfl rfl (Nat.le_of_ble_eq_true rfl) (Nat.le_of_ble_eq_true rfl) (Nat.le_of_ble_eq_true rfl) (Nat.le_of_ble_eq_true rfl) rfl rfl (Nat.le_of_ble_eq_true rfl) d_Web_attackersOfOne_2 [0, 1, 2] [] rfl (by decide) rfl (by decide) (by decide) (fun r2 _ (hr2 : r2 = bI (inR (nI i) n)) => ?_)
  subst hr2
  refine g_cells (ws' := [(h, .inr (6, [.ref t, .ref u, .int (nI n)])), (t, .inl (E 0, 12, .inl (aN T))), (u, .inl (E 0, 12, .inl (aN U)))]) [0, 1, 2] (by decide) rfl ?_
  refine g_if_eqB (tgt := 17) C d_Web_attackersOfOne_5 (by decide) (fun b0 => ?_) (fun b0 => ?_)
  · skip
    refine g_iconst (v := nI 0) C d_Web_attackersOfOne_17 (by decide) ?_
    exact g_iret C hrt hlk () (congrArg nI (by rw [inR_nI (by omega) (by omega)] at b0; simp at b0; first | (rw [if_pos b0]; done) | rw [if_neg (by omega)])) rfl d_Web_attackersOfOne_18
  · skip
    refine g_aload_n C d_Web_attackersOfOne_8 rfl 0 rfl ?_
    refine g_get C lay_Web 0 rfl rfl 1 (by decide) m_62 rfl d_Web_attackersOfOne_9 ?_
    refine g_iload_n C d_Web_attackersOfOne_12 rfl 1 rfl ?_
    refine g_ialdN C 2 rfl (by omega) (by decide) d_Web_attackersOfOne_13 ?_
    refine g_top (show (aN U) i = nI (U i) from rfl) ?_
    refine g_goto (tgt := 18) C d_Web_attackersOfOne_14 (by decide) ?_
    exact g_iret C hrt hlk () (congrArg nI (by rw [inR_nI (by omega) (by omega)] at b0; simp at b0; first | (rw [if_pos b0]; done) | rw [if_neg (by omega)])) rfl d_Web_attackersOfOne_18

set_option maxHeartbeats 4000000 in
set_option maxRecDepth 100000 in
theorem c_Web_targetsOf (l : Launch) (D : va_G) (E : Nat → ClassId) (h : Nat) (t : Nat) (u : Nat) (n : Nat) (T : Nat → Nat) (U : Nat → Nat) (k : Nat) (hn : n ≤ 12) (hk : k < 2 ^ 31) (hT : ∀ a, T a < 4096) : MI l D E y_Web_targetsOf (.code y_Web_targetsOf k_Web_targetsOf 4 (some .int)) ({ frames := 1, cells := 0, slots := 0, locals := 21 } : Room) [.ref h, .int (nI k)] [(h, .inr (6, [.ref t, .ref u, .int (nI n)])), (t, .inl (E 0, 12, .inl (aN T))), (u, .inl (E 0, 12, .inl (aN U)))] (fun (r : Int32) (_ : Unit) => r = nI (tgU T k n)) (fun _ : Unit => [(h, .inr (6, [.ref t, .ref u, .int (nI n)])), (t, .inl (E 0, 12, .inl (aN T))), (u, .inl (E 0, 12, .inl (aN U)))]) := by
  refine MI.of (by decide) (Nat.le_of_ble_eq_true rfl) ?_
  intro p e s m args below meth c A C hrt hlk hnm
  refine g_lv (lv' := [(0, .ref h), (1, .int (nI k))]) rfl ?_
  refine g_iconst (v := nI 0) C d_Web_targetsOf_0 (by decide) ?_
  refine g_istore_n (lv' := [(2, .int (nI 0)), (0, .ref h), (1, .int (nI k))]) C d_Web_targetsOf_1 rfl (by decide) rfl ?_
  refine g_iconst (v := nI 0) C d_Web_targetsOf_2 (by decide) ?_
  refine g_istore_n (lv' := [(3, .int (nI 0)), (2, .int (nI 0)), (0, .ref h), (1, .int (nI k))]) C d_Web_targetsOf_3 rfl (by decide) rfl ?_
  have loop4 : ∀ (f : Nat) (i : Nat) (acc : Nat), (i ≤ n) → (acc = tgU T k i) → n - i < f → GG p l e ({ frames := 1, cells := 0, slots := 0, locals := 21 } : Room) s m args below meth c (MQ below (va_Qi (fun (r : Int32) (_ : Unit) => r = nI (tgU T k n)) (BC D A (fun _ : Unit => [(h, .inr (6, [.ref t, .ref u, .int (nI n)])), (t, .inl (E 0, 12, .inl (aN T))), (u, .inl (E 0, 12, .inl (aN U)))])) A) args s (({ frames := 1, cells := 0, slots := 0, locals := 21 } : Room)).cells (({ frames := 1, cells := 0, slots := 0, locals := 21 } : Room)).slots A) D A 4 0 0 4 [(0, .ref h), (1, .int (nI k)), (2, .int (nI acc)), (3, .int (nI i))] [] [(h, .inr (6, [.ref t, .ref u, .int (nI n)])), (t, .inl (E 0, 12, .inl (aN T))), (u, .inl (E 0, 12, .inl (aN U)))] := by
    intro f
    induction f with
    | zero => intro i acc hi ha hf; exact absurd hf (Nat.not_lt_zero _)
    | succ f ih =>
      intro i acc hi ha hf
      have ih4 := ih
      refine g_iload_n C d_Web_targetsOf_4 rfl 3 rfl ?_
      refine g_aload_n C d_Web_targetsOf_5 rfl 0 rfl ?_
      refine g_get C lay_Web 0 rfl rfl 2 (by decide) m_63 rfl d_Web_targetsOf_6 ?_
      refine g_icmp_geN (tgt := 35) C (by omega) (by omega) d_Web_targetsOf_9 (by decide) (fun b0 => ?_) (fun b0 => ?_)
      · skip
        refine g_iload_n C d_Web_targetsOf_35 rfl 2 rfl ?_
        exact g_iret C hrt hlk () (by rw [ha, show i = n by omega]) rfl d_Web_targetsOf_36
      · skip
        refine g_iload_n C d_Web_targetsOf_12 rfl 3 rfl ?_
        refine g_iload_n C d_Web_targetsOf_13 rfl 1 rfl ?_
        refine g_iSN (rest := []) (wr := [(h, .inr (6, [.ref t, .ref u, .int (nI n)])), (t, .inl (E 0, 12, .inl (aN T))), (u, .inl (E 0, 12, .inl (aN U)))]) C (c_isIn l D E i k (by omega) hk) rd_AB_isIn m_224 m_225 (Nat.le_of_ble_eq_true rfl) (Nat.le_of_ble_eq_true rfl) (Nat.le_of_ble_eq_true rfl) (Nat.le_of_ble_eq_true rfl) rfl rfl (Nat.le_of_ble_eq_true rfl) d_Web_targetsOf_14 [] [0, 1, 2] rfl (by decide) rfl (by decide) (by decide) (fun r14 _ (hr14 : r14 = bI (k.testBit i)) => ?_)
        subst hr14
        refine g_cells (ws' := [(h, .inr (6, [.ref t, .ref u, .int (nI n)])), (t, .inl (E 0, 12, .inl (aN T))), (u, .inl (E 0, 12, .inl (aN U)))]) [0, 1, 2] (by decide) rfl ?_
        refine g_if_eqB (tgt := 29) C d_Web_targetsOf_17 (by decide) (fun b1 => ?_) (fun b1 => ?_)
        · skip
          refine g_iinc (lv' := [(3, .int (nI (i + 1))), (0, .ref h), (1, .int (nI k)), (2, .int (nI acc))]) C d_Web_targetsOf_29 3 rfl (nI_1 _) (by decide) rfl ?_
          refine g_goto (tgt := 4) C d_Web_targetsOf_32 (by decide) ?_
          refine g_perm [1, 2, 3, 0] rfl ?_
          exact ih4 (i + 1) acc (by omega) (by simp [tgU, *]) (by omega)
        · skip
          refine g_iload_n C d_Web_targetsOf_20 rfl 2 rfl ?_
          refine g_aload_n C d_Web_targetsOf_21 rfl 0 rfl ?_
          refine g_get C lay_Web 0 rfl rfl 0 (by decide) m_61 rfl d_Web_targetsOf_22 ?_
          refine g_iload_n C d_Web_targetsOf_25 rfl 3 rfl ?_
          refine g_ialdN C 1 rfl (by omega) (by decide) d_Web_targetsOf_26 ?_
          refine g_top (show (aN T) i = nI (T i) from rfl) ?_
          refine g_iorN C d_Web_targetsOf_27 ?_
          refine g_istore_n (lv' := [(2, .int (nI (acc ||| (T i)))), (0, .ref h), (1, .int (nI k)), (3, .int (nI i))]) C d_Web_targetsOf_28 rfl (by decide) rfl ?_
          refine g_iinc (lv' := [(3, .int (nI (i + 1))), (2, .int (nI (acc ||| (T i)))), (0, .ref h), (1, .int (nI k))]) C d_Web_targetsOf_29 3 rfl (nI_1 _) (by decide) rfl ?_
          refine g_goto (tgt := 4) C d_Web_targetsOf_32 (by decide) ?_
          refine g_perm [2, 3, 1, 0] rfl ?_
          exact ih4 (i + 1) (acc ||| (T i)) (by omega) (by simp [tgU, *]) (by omega)
  refine g_perm [2, 3, 1, 0] rfl ?_
  exact loop4 (n - 0 + 1) 0 0 (Nat.zero_le _) (rfl) (Nat.lt_succ_self _)

set_option maxHeartbeats 4000000 in
set_option maxRecDepth 100000 in
theorem c_Web_attackersOf (l : Launch) (D : va_G) (E : Nat → ClassId) (h : Nat) (t : Nat) (u : Nat) (n : Nat) (T : Nat → Nat) (U : Nat → Nat) (k : Nat) (hn : n ≤ 12) (hk : k < 2 ^ 31) (hU : ∀ a, U a < 4096) : MI l D E y_Web_attackersOf (.code y_Web_attackersOf k_Web_attackersOf 4 (some .int)) ({ frames := 1, cells := 0, slots := 0, locals := 21 } : Room) [.ref h, .int (nI k)] [(h, .inr (6, [.ref t, .ref u, .int (nI n)])), (t, .inl (E 0, 12, .inl (aN T))), (u, .inl (E 0, 12, .inl (aN U)))] (fun (r : Int32) (_ : Unit) => r = nI (tgU U k n)) (fun _ : Unit => [(h, .inr (6, [.ref t, .ref u, .int (nI n)])), (t, .inl (E 0, 12, .inl (aN T))), (u, .inl (E 0, 12, .inl (aN U)))]) := by
  refine MI.of (by decide) (Nat.le_of_ble_eq_true rfl) ?_
  intro p e s m args below meth c A C hrt hlk hnm
  refine g_lv (lv' := [(0, .ref h), (1, .int (nI k))]) rfl ?_
  refine g_iconst (v := nI 0) C d_Web_attackersOf_0 (by decide) ?_
  refine g_istore_n (lv' := [(2, .int (nI 0)), (0, .ref h), (1, .int (nI k))]) C d_Web_attackersOf_1 rfl (by decide) rfl ?_
  refine g_iconst (v := nI 0) C d_Web_attackersOf_2 (by decide) ?_
  refine g_istore_n (lv' := [(3, .int (nI 0)), (2, .int (nI 0)), (0, .ref h), (1, .int (nI k))]) C d_Web_attackersOf_3 rfl (by decide) rfl ?_
  have loop4 : ∀ (f : Nat) (i : Nat) (acc : Nat), (i ≤ n) → (acc = tgU U k i) → n - i < f → GG p l e ({ frames := 1, cells := 0, slots := 0, locals := 21 } : Room) s m args below meth c (MQ below (va_Qi (fun (r : Int32) (_ : Unit) => r = nI (tgU U k n)) (BC D A (fun _ : Unit => [(h, .inr (6, [.ref t, .ref u, .int (nI n)])), (t, .inl (E 0, 12, .inl (aN T))), (u, .inl (E 0, 12, .inl (aN U)))])) A) args s (({ frames := 1, cells := 0, slots := 0, locals := 21 } : Room)).cells (({ frames := 1, cells := 0, slots := 0, locals := 21 } : Room)).slots A) D A 4 0 0 4 [(0, .ref h), (1, .int (nI k)), (2, .int (nI acc)), (3, .int (nI i))] [] [(h, .inr (6, [.ref t, .ref u, .int (nI n)])), (t, .inl (E 0, 12, .inl (aN T))), (u, .inl (E 0, 12, .inl (aN U)))] := by
    intro f
    induction f with
    | zero => intro i acc hi ha hf; exact absurd hf (Nat.not_lt_zero _)
    | succ f ih =>
      intro i acc hi ha hf
      have ih4 := ih
      refine g_iload_n C d_Web_attackersOf_4 rfl 3 rfl ?_
      refine g_aload_n C d_Web_attackersOf_5 rfl 0 rfl ?_
      refine g_get C lay_Web 0 rfl rfl 2 (by decide) m_63 rfl d_Web_attackersOf_6 ?_
      refine g_icmp_geN (tgt := 35) C (by omega) (by omega) d_Web_attackersOf_9 (by decide) (fun b0 => ?_) (fun b0 => ?_)
      · skip
        refine g_iload_n C d_Web_attackersOf_35 rfl 2 rfl ?_
        exact g_iret C hrt hlk () (by rw [ha, show i = n by omega]) rfl d_Web_attackersOf_36
      · skip
        refine g_iload_n C d_Web_attackersOf_12 rfl 3 rfl ?_
        refine g_iload_n C d_Web_attackersOf_13 rfl 1 rfl ?_
        refine g_iSN (rest := []) (wr := [(h, .inr (6, [.ref t, .ref u, .int (nI n)])), (t, .inl (E 0, 12, .inl (aN T))), (u, .inl (E 0, 12, .inl (aN U)))]) C (c_isIn l D E i k (by omega) hk) rd_AB_isIn m_224 m_225 (Nat.le_of_ble_eq_true rfl) (Nat.le_of_ble_eq_true rfl) (Nat.le_of_ble_eq_true rfl) (Nat.le_of_ble_eq_true rfl) rfl rfl (Nat.le_of_ble_eq_true rfl) d_Web_attackersOf_14 [] [0, 1, 2] rfl (by decide) rfl (by decide) (by decide) (fun r14 _ (hr14 : r14 = bI (k.testBit i)) => ?_)
        subst hr14
        refine g_cells (ws' := [(h, .inr (6, [.ref t, .ref u, .int (nI n)])), (t, .inl (E 0, 12, .inl (aN T))), (u, .inl (E 0, 12, .inl (aN U)))]) [0, 1, 2] (by decide) rfl ?_
        refine g_if_eqB (tgt := 29) C d_Web_attackersOf_17 (by decide) (fun b1 => ?_) (fun b1 => ?_)
        · skip
          refine g_iinc (lv' := [(3, .int (nI (i + 1))), (0, .ref h), (1, .int (nI k)), (2, .int (nI acc))]) C d_Web_attackersOf_29 3 rfl (nI_1 _) (by decide) rfl ?_
          refine g_goto (tgt := 4) C d_Web_attackersOf_32 (by decide) ?_
          refine g_perm [1, 2, 3, 0] rfl ?_
          exact ih4 (i + 1) acc (by omega) (by simp [tgU, *]) (by omega)
        · skip
          refine g_iload_n C d_Web_attackersOf_20 rfl 2 rfl ?_
          refine g_aload_n C d_Web_attackersOf_21 rfl 0 rfl ?_
          refine g_get C lay_Web 0 rfl rfl 1 (by decide) m_62 rfl d_Web_attackersOf_22 ?_
          refine g_iload_n C d_Web_attackersOf_25 rfl 3 rfl ?_
          refine g_ialdN C 2 rfl (by omega) (by decide) d_Web_attackersOf_26 ?_
          refine g_top (show (aN U) i = nI (U i) from rfl) ?_
          refine g_iorN C d_Web_attackersOf_27 ?_
          refine g_istore_n (lv' := [(2, .int (nI (acc ||| (U i)))), (0, .ref h), (1, .int (nI k)), (3, .int (nI i))]) C d_Web_attackersOf_28 rfl (by decide) rfl ?_
          refine g_iinc (lv' := [(3, .int (nI (i + 1))), (2, .int (nI (acc ||| (U i)))), (0, .ref h), (1, .int (nI k))]) C d_Web_attackersOf_29 3 rfl (nI_1 _) (by decide) rfl ?_
          refine g_goto (tgt := 4) C d_Web_attackersOf_32 (by decide) ?_
          refine g_perm [2, 3, 1, 0] rfl ?_
          exact ih4 (i + 1) (acc ||| (U i)) (by omega) (by simp [tgU, *]) (by omega)
  refine g_perm [2, 3, 1, 0] rfl ?_
  exact loop4 (n - 0 + 1) 0 0 (Nat.zero_le _) (rfl) (Nat.lt_succ_self _)

set_option maxHeartbeats 4000000 in
set_option maxRecDepth 100000 in
theorem c_Web_defendedOf (l : Launch) (D : va_G) (E : Nat → ClassId) (h : Nat) (t : Nat) (u : Nat) (n : Nat) (T : Nat → Nat) (U : Nat → Nat) (k : Nat) (hn : n ≤ 12) (hk : k < 2 ^ 31) (hT : ∀ a, T a < 4096) : MI l D E y_Web_defendedOf (.code y_Web_defendedOf k_Web_defendedOf 3 (some .int)) ({ frames := 2, cells := 0, slots := 0, locals := 44 } : Room) [.ref h, .int (nI k)] [(h, .inr (6, [.ref t, .ref u, .int (nI n)])), (t, .inl (E 0, 12, .inl (aN T))), (u, .inl (E 0, 12, .inl (aN U)))] (fun (r : Int32) (_ : Unit) => r = nI (dif (2 ^ n - 1) (tgU T (dif (2 ^ n - 1) (tgU T k n)) n))) (fun _ : Unit => [(h, .inr (6, [.ref t, .ref u, .int (nI n)])), (t, .inl (E 0, 12, .inl (aN T))), (u, .inl (E 0, 12, .inl (aN U)))]) := by
  refine MI.of (by decide) (Nat.le_of_ble_eq_true rfl) ?_
  intro p e s m args below meth c A C hrt hlk hnm
  refine g_lv (lv' := [(0, .ref h), (1, .int (nI k))]) rfl ?_
  refine g_aload_n C d_Web_defendedOf_0 rfl 0 rfl ?_
  refine g_iV (rest := []) (wr := []) C (c_Web_everything l D E h t u n T U (by omega)) rd_Web_everything m_259 m_260 m_261 rfl rfl (Nat.le_of_ble_eq_true rfl) (Nat.le_of_ble_eq_true rfl) (Nat.le_of_ble_eq_true rfl) (Nat.le_of_ble_eq_true rfl) rfl rfl (Nat.le_of_ble_eq_true rfl) d_Web_defendedOf_1 [0, 1, 2] [] rfl (by decide) rfl (by decide) (by decide) (fun r1 _ (hr1 : r1 = nI (2 ^ n - 1)) => ?_)
  subst hr1
  refine g_cells (ws' := [(h, .inr (6, [.ref t, .ref u, .int (nI n)])), (t, .inl (E 0, 12, .inl (aN T))), (u, .inl (E 0, 12, .inl (aN U)))]) [0, 1, 2] (by decide) rfl ?_
  refine g_aload_n C d_Web_defendedOf_4 rfl 0 rfl ?_
  refine g_iload_n C d_Web_defendedOf_5 rfl 1 rfl ?_
  refine g_iV (rest := [.int (nI (2 ^ n - 1))]) (wr := []) C (c_Web_targetsOf l D E h t u n T U k hn hk hT) rd_Web_targetsOf m_332 m_267 m_268 rfl rfl (Nat.le_of_ble_eq_true rfl) (Nat.le_of_ble_eq_true rfl) (Nat.le_of_ble_eq_true rfl) (Nat.le_of_ble_eq_true rfl) rfl rfl (Nat.le_of_ble_eq_true rfl) d_Web_defendedOf_6 [0, 1, 2] [] rfl (by decide) rfl (by decide) (by decide) (fun r6 _ (hr6 : r6 = nI (tgU T k n)) => ?_)
  subst hr6
  refine g_cells (ws' := [(h, .inr (6, [.ref t, .ref u, .int (nI n)])), (t, .inl (E 0, 12, .inl (aN T))), (u, .inl (E 0, 12, .inl (aN U)))]) [0, 1, 2] (by decide) rfl ?_
  refine g_iconst (v := (-1)) C d_Web_defendedOf_9 (by decide) ?_
  refine g_ixor C d_Web_defendedOf_10 ?_
  refine g_iandD C d_Web_defendedOf_11 ?_
  refine g_istore_n (lv' := [(2, .int (nI (dif (2 ^ n - 1) (tgU T k n)))), (0, .ref h), (1, .int (nI k))]) C d_Web_defendedOf_12 rfl (by decide) rfl ?_
  refine g_aload_n C d_Web_defendedOf_13 rfl 1 rfl ?_
  refine g_iV (rest := []) (wr := []) C (c_Web_everything l D E h t u n T U (by omega)) rd_Web_everything m_259 m_260 m_261 rfl rfl (Nat.le_of_ble_eq_true rfl) (Nat.le_of_ble_eq_true rfl) (Nat.le_of_ble_eq_true rfl) (Nat.le_of_ble_eq_true rfl) rfl rfl (Nat.le_of_ble_eq_true rfl) d_Web_defendedOf_14 [0, 1, 2] [] rfl (by decide) rfl (by decide) (by decide) (fun r14 _ (hr14 : r14 = nI (2 ^ n - 1)) => ?_)
  subst hr14
  refine g_cells (ws' := [(h, .inr (6, [.ref t, .ref u, .int (nI n)])), (t, .inl (E 0, 12, .inl (aN T))), (u, .inl (E 0, 12, .inl (aN U)))]) [0, 1, 2] (by decide) rfl ?_
  refine g_aload_n C d_Web_defendedOf_17 rfl 1 rfl ?_
  refine g_iload_n C d_Web_defendedOf_18 rfl 0 rfl ?_
  refine g_iV (rest := [.int (nI (2 ^ n - 1))]) (wr := []) C (c_Web_targetsOf l D E h t u n T U (dif (2 ^ n - 1) (tgU T k n)) hn (dif_lt (ev_lt hn)) hT) rd_Web_targetsOf m_332 m_267 m_268 rfl rfl (Nat.le_of_ble_eq_true rfl) (Nat.le_of_ble_eq_true rfl) (Nat.le_of_ble_eq_true rfl) (Nat.le_of_ble_eq_true rfl) rfl rfl (Nat.le_of_ble_eq_true rfl) d_Web_defendedOf_19 [0, 1, 2] [] rfl (by decide) rfl (by decide) (by decide) (fun r19 _ (hr19 : r19 = nI (tgU T (dif (2 ^ n - 1) (tgU T k n)) n)) => ?_)
  subst hr19
  refine g_cells (ws' := [(h, .inr (6, [.ref t, .ref u, .int (nI n)])), (t, .inl (E 0, 12, .inl (aN T))), (u, .inl (E 0, 12, .inl (aN U)))]) [0, 1, 2] (by decide) rfl ?_
  refine g_iconst (v := (-1)) C d_Web_defendedOf_22 (by decide) ?_
  refine g_ixor C d_Web_defendedOf_23 ?_
  refine g_iandD C d_Web_defendedOf_24 ?_
  exact g_iret C hrt hlk () (rfl) rfl d_Web_defendedOf_25
end
section
/-! Senses: what the walks need -/
theorem tgU_z (T : Nat → Nat) (i : Nat) : tgU T 0 i = 0 := by
  induction i with
  | zero => rfl
  | succ i ih => simp [tgU, ih]
theorem tgU_bit {T : Nat → Nat} {k j : Nat} : ∀ {i : Nat}, (tgU T k i).testBit j = true ↔ ∃ a, a < i ∧ k.testBit a = true ∧ (T a).testBit j = true := by
  intro i
  induction i with
  | zero => simp [tgU]
  | succ i ih =>
    simp only [tgU]
    constructor
    · intro h
      split at h
      · rename_i hb
        rw [Nat.testBit_or, Bool.or_eq_true] at h
        rcases h with h | h
        · obtain ⟨a, h1, h2, h3⟩ := ih.mp h; exact ⟨a, by omega, h2, h3⟩
        · exact ⟨i, by omega, hb, h⟩
      · obtain ⟨a, h1, h2, h3⟩ := ih.mp h; exact ⟨a, by omega, h2, h3⟩
    · rintro ⟨a, h1, h2, h3⟩
      by_cases hai : a = i
      · subst hai
        rw [if_pos h2, Nat.testBit_or, h3, Bool.or_true]
      · have h4 := ih.mpr ⟨a, by omega, h2, h3⟩
        split
        · rw [Nat.testBit_or, h4, Bool.true_or]
        · exact h4
theorem bit_top {a r j : Nat} (hr : r < 2 ^ a) : (2 ^ a + r).testBit j = (decide (a = j) || r.testBit j) := by
  by_cases h : a = j
  · subst h
    rw [Nat.testBit_two_pow_add_eq, Nat.testBit_lt_two_pow hr]
    simp
  · simp only [h, decide_false, Bool.false_or]
    rcases Nat.lt_or_gt_of_ne h with h1 | h1
    · rw [Nat.testBit_lt_two_pow (Nat.lt_of_lt_of_le hr (Nat.pow_le_pow_right (by decide) (by omega))), Nat.testBit_lt_two_pow]
      have : 2 ^ (a + 1) ≤ 2 ^ j := Nat.pow_le_pow_right (by decide) (by omega)
      rw [Nat.pow_succ] at this
      omega
    · exact Nat.testBit_two_pow_add_gt h1 r
theorem tgU_top {T : Nat → Nat} {n a r : Nat} (ha : a < n) (hr : r < 2 ^ a) : tgU T (2 ^ a + r) n = tgU T r n ||| T a := by
  apply Nat.eq_of_testBit_eq
  intro j
  rw [Nat.testBit_or, Bool.eq_iff_iff, tgU_bit, Bool.or_eq_true, tgU_bit]
  constructor
  · rintro ⟨b, h1, h2, h3⟩
    rw [bit_top hr, Bool.or_eq_true, decide_eq_true_eq] at h2
    rcases h2 with h2 | h2
    · subst h2; exact Or.inr h3
    · exact Or.inl ⟨b, h1, h2, h3⟩
  · rintro (⟨b, h1, h2, h3⟩ | h)
    · exact ⟨b, h1, by rw [bit_top hr, h2, Bool.or_true], h3⟩
    · exact ⟨a, ha, by rw [bit_top hr]; simp, h⟩
theorem fi_lt {a r : Nat} (ha : a < 12) (hr : r < 2 ^ a) : 2 ^ a + r < 4096 := by
  have : 2 ^ (a + 1) ≤ 2 ^ 12 := Nat.pow_le_pow_right (by decide) (by omega)
  rw [Nat.pow_succ] at this
  omega
theorem p12_le {a : Nat} (ha : a ≤ 12) : 2 ^ a ≤ 4096 := Nat.pow_le_pow_right (n := 2) (by decide) ha
theorem ntU_f {P : Nat → Nat} {x i : Nat} (h : (dif x (P i) == 0) = true) : ∀ {c : Nat}, i < c → ntU P x c = false := by
  intro c
  induction c with
  | zero => intro q; exact absurd q (Nat.not_lt_zero _)
  | succ c ih =>
    intro q
    simp only [ntU]
    by_cases hi : i = c
    · subst hi; rw [h]; simp
    · rw [ih (by omega)]; rfl
theorem ntU_t {P : Nat → Nat} {x : Nat} : ∀ {c : Nat}, ntU P x c = true ↔ ∀ j, j < c → ¬ inn x (P j) := by
  intro c
  induction c with
  | zero => simp [ntU]
  | succ c ih =>
    simp only [ntU, Bool.and_eq_true, ih, Bool.not_eq_true', beq_eq_false_iff_ne]
    constructor
    · rintro ⟨h1, h2⟩ j hj
      by_cases hi : j = c
      · subst hi; exact fun q => h2 (inn_dif.mpr q)
      · exact h1 j (by omega)
    · intro h
      exact ⟨fun j hj => h j (by omega), fun q => h c (by omega) (inn_dif.mp q)⟩
/-- the tops: apart, none in another one, going down, all above where the loop is -/
theorem tp_inv {mk sb : Nat} {M P : Nat → Nat} {ev : Nat} : ∀ {d : Nat}, d ≤ ev + 1 →
    (∀ j, j < (tpS mk sb M P ev d).2.2 → (tpS mk sb M P ev d).2.1 j ≤ ev ∧ ev < (tpS mk sb M P ev d).2.1 j + d) ∧
    (∀ i j, i < j → j < (tpS mk sb M P ev d).2.2 → (tpS mk sb M P ev d).2.1 j < (tpS mk sb M P ev d).2.1 i ∧ ¬ inn ((tpS mk sb M P ev d).2.1 j) ((tpS mk sb M P ev d).2.1 i)) := by
  intro d
  induction d with
  | zero => intro _; exact ⟨fun j h => absurd h (Nat.not_lt_zero _), fun i j _ h => absurd h (Nat.not_lt_zero _)⟩
  | succ d ih =>
    intro hd
    obtain ⟨h1, h2⟩ := ih (by omega)
    simp only [tpS]
    split
    · rename_i hc
      rw [Bool.and_eq_true] at hc
      have hn := ntU_t.mp hc.2
      refine ⟨?_, ?_⟩
      · intro j hj
        by_cases e : j = (tpS mk sb M P ev d).2.2
        · subst e; simp only [va_up, if_true]; omega
        · simp only [va_up, e, if_false]
          have := h1 j (by simp only at hj; omega)
          omega
      · intro i j hij hj
        simp only at hj
        have ei : i ≠ (tpS mk sb M P ev d).2.2 := by omega
        by_cases e : j = (tpS mk sb M P ev d).2.2
        · subst e
          simp only [va_up, if_true, ei, if_false]
          have := h1 i (by omega)
          exact ⟨by omega, hn i (by omega)⟩
        · simp only [va_up, e, ei, if_false]
          exact h2 i j hij (by omega)
    · refine ⟨fun j hj => ?_, h2⟩
      have := h1 j hj
      omega
theorem tp_cap {mk sb : Nat} {M P : Nat → Nat} {ev d : Nat} (hev : ev < 4096) (hd : d ≤ ev + 1) : (tpS mk sb M P ev d).2.2 ≤ 924 := by
  obtain ⟨h1, h2⟩ := tp_inv (mk := mk) (sb := sb) (M := M) (P := P) hd
  refine sperner (f := (tpS mk sb M P ev d).2.1) (fun i hi => by have := h1 i hi; omega) (fun i j hi hj hij q => ?_)
  rcases Nat.lt_or_gt_of_ne hij with h | h
  · have := (h2 i j h hj).1
    have := inn_le q
    omega
  · exact (h2 j i h hi).2 q
theorem tp_room {mk sb : Nat} {M P : Nat → Nat} {ev d : Nat} (hev : ev < 4096) (hd : d ≤ ev) (hm : ((tpS mk sb M P ev d).1 (ev - d) &&& mk != 0) = true) (hn : ntU (tpS mk sb M P ev d).2.1 (ev - d) (tpS mk sb M P ev d).2.2 = true) : (tpS mk sb M P ev d).2.2 < 924 := by
  have h := tp_cap (mk := mk) (sb := sb) (M := M) (P := P) hev (d := d + 1) (by omega)
  simp only [tpS, hm, hn, Bool.and_self, if_true] at h
  omega
theorem tpS_y {mk sb : Nat} {M P : Nat → Nat} {ev d : Nat} (hm : ((tpS mk sb M P ev d).1 (ev - d) &&& mk != 0) = true) (hn : ntU (tpS mk sb M P ev d).2.1 (ev - d) (tpS mk sb M P ev d).2.2 = true) :
    tpS mk sb M P ev (d + 1) = (va_up (tpS mk sb M P ev d).1 (ev - d) ((tpS mk sb M P ev d).1 (ev - d) ||| sb), va_up (tpS mk sb M P ev d).2.1 (tpS mk sb M P ev d).2.2 (ev - d), (tpS mk sb M P ev d).2.2 + 1) := by
  simp only [tpS, hm, hn, Bool.and_self, if_true]
theorem tpS_n1 {mk sb : Nat} {M P : Nat → Nat} {ev d : Nat} (hm : ((tpS mk sb M P ev d).1 (ev - d) &&& mk != 0) = false) : tpS mk sb M P ev (d + 1) = tpS mk sb M P ev d := by
  simp only [tpS, hm, Bool.false_and, Bool.false_eq_true, if_false]
theorem tpS_n2 {mk sb : Nat} {M P : Nat → Nat} {ev d : Nat} (hn : ntU (tpS mk sb M P ev d).2.1 (ev - d) (tpS mk sb M P ev d).2.2 = false) : tpS mk sb M P ev (d + 1) = tpS mk sb M P ev d := by
  simp only [tpS, hn, Bool.and_false, Bool.false_eq_true, if_false]
/-- one turn of the loop: three ways -/
def TPS (mk sb : Nat) (M P : Nat → Nat) (ev i : Nat) (X Y : Nat → Nat) (z : Nat) : Prop := tpS mk sb M P ev (ev + 1 - i) = (X, Y, z)
theorem TPS_0 {mk sb : Nat} {M P : Nat → Nat} {ev : Nat} : TPS mk sb M P ev (ev + 1) M P 0 := by unfold TPS; rw [Nat.sub_self]; rfl
theorem TPS_d {ev i : Nat} (h : i + 1 ≤ ev + 1) : ev + 1 - i = (ev + 1 - (i + 1)) + 1 ∧ ev - (ev + 1 - (i + 1)) = i := by omega
theorem TPS_y {mk sb : Nat} {M P : Nat → Nat} {ev i : Nat} {X Y : Nat → Nat} {z : Nat} (h : TPS mk sb M P ev (i + 1) X Y z) (hi : i + 1 ≤ ev + 1) (hm : (X i &&& mk != 0) = true) (hn : ntU Y i z = true) : TPS mk sb M P ev i (va_up X i (X i ||| sb)) (va_up Y z i) (z + 1) := by
  unfold TPS at h ⊢
  obtain ⟨e1, e2⟩ := TPS_d hi
  rw [e1, tpS_y (by rw [h, e2]; exact hm) (by rw [h, e2]; exact hn), h, e2]
theorem TPS_n1 {mk sb : Nat} {M P : Nat → Nat} {ev i : Nat} {X Y : Nat → Nat} {z : Nat} (h : TPS mk sb M P ev (i + 1) X Y z) (hi : i + 1 ≤ ev + 1) (hm : (X i &&& mk != 0) = false) : TPS mk sb M P ev i X Y z := by
  unfold TPS at h ⊢
  obtain ⟨e1, e2⟩ := TPS_d hi
  rw [e1, tpS_n1 (by rw [h, e2]; exact hm), h]
theorem TPS_n2 {mk sb : Nat} {M P : Nat → Nat} {ev i : Nat} {X Y : Nat → Nat} {z : Nat} (h : TPS mk sb M P ev (i + 1) X Y z) (hi : i + 1 ≤ ev + 1) (hn : ntU Y i z = false) : TPS mk sb M P ev i X Y z := by
  unfold TPS at h ⊢
  obtain ⟨e1, e2⟩ := TPS_d hi
  rw [e1, tpS_n2 (by rw [h, e2]; exact hn), h]
theorem TPS_cap {mk sb : Nat} {M P : Nat → Nat} {ev i : Nat} {X Y : Nat → Nat} {z : Nat} (h : TPS mk sb M P ev i X Y z) (hev : ev < 4096) : z ≤ 924 := by
  have h1 := tp_cap (mk := mk) (sb := sb) (M := M) (P := P) hev (d := ev + 1 - i) (by omega)
  unfold TPS at h
  rw [h] at h1
  exact h1
theorem TPS_room {mk sb : Nat} {M P : Nat → Nat} {ev i : Nat} {X Y : Nat → Nat} {z : Nat} (h : TPS mk sb M P ev (i + 1) X Y z) (hev : ev < 4096) (hi : i + 1 ≤ ev + 1) (hm : (X i &&& mk != 0) = true) (hn : ntU Y i z = true) : z < 924 := by
  have := TPS_cap (TPS_y h hi hm hn) hev
  omega
theorem TPS_e {mk sb : Nat} {M P : Nat → Nat} {ev : Nat} {X Y : Nat → Nat} {z : Nat} (h : TPS mk sb M P ev 0 X Y z) : X = (tpS mk sb M P ev (ev + 1)).1 ∧ Y = (tpS mk sb M P ev (ev + 1)).2.1 ∧ z = (tpS mk sb M P ev (ev + 1)).2.2 := by
  unfold TPS at h
  rw [Nat.sub_zero] at h
  rw [h]
  exact ⟨rfl, rfl, rfl⟩
theorem orl {a b : Nat} (ha : a < 4096) (hb : b < 4096) : a ||| b < 4096 := Nat.or_lt_two_pow (n := 12) ha hb
def lnTS (kn : Bool) (T : Nat → Nat) (n : Nat) (TS : Nat → Nat) : Nat → Nat := bif kn then TS else ovw TS (fun x => tgU T x n) (2 ^ n)
def lnEv (kn : Bool) (n ev : Nat) : Nat := bif kn then ev else 2 ^ n - 1
def lnM1 (T : Nat → Nat) (n : Nat) (TS M : Nat → Nat) : Nat → Nat := ovw M (ownM (ovw TS (fun x => tgU T x n) (2 ^ n)) (2 ^ n - 1)) (2 ^ n - 1 + 1)
def lnA (T : Nat → Nat) (n : Nat) (TS M P : Nat → Nat) : (Nat → Nat) × (Nat → Nat) × Nat := tpS 16 2 (lnM1 T n TS M) P (2 ^ n - 1) (2 ^ n - 1 + 1)
def lnB (T : Nat → Nat) (n : Nat) (TS M P : Nat → Nat) : (Nat → Nat) × (Nat → Nat) × Nat := tpS 64 128 (rgS (ovw TS (fun x => tgU T x n) (2 ^ n)) (lnA T n TS M P).1 (2 ^ n - 1 + 1)) (lnA T n TS M P).2.1 (2 ^ n - 1) (2 ^ n - 1 + 1)
def lnM (kn : Bool) (T : Nat → Nat) (n : Nat) (TS M P : Nat → Nat) : Nat → Nat := bif kn then M else stS (ovw TS (fun x => tgU T x n) (2 ^ n)) (lnB T n TS M P).1 (2 ^ n - 1 + 1)
def lnP (kn : Bool) (T : Nat → Nat) (n : Nat) (TS M P : Nat → Nat) : Nat → Nat := bif kn then P else (lnB T n TS M P).2.1
def lnC (kn : Bool) (T : Nat → Nat) (n : Nat) (TS M P : Nat → Nat) (tc : Nat) : Nat := bif kn then tc else (lnB T n TS M P).2.2
theorem ovw_b {f g : Nat → Nat} {i : Nat} (hf : ∀ x, f x < 4096) (hg : ∀ x, g x < 4096) : ∀ x, ovw f g i x < 4096 := by
  intro x
  simp only [ovw]
  split
  · exact hg x
  · exact hf x
end
section
set_option maxHeartbeats 4000000 in
set_option maxRecDepth 100000 in
theorem c_Se_forget (l : Launch) (D : va_G) (E : Nat → ClassId) (g : Nat) (ga : Nat) (gb : Nat) (gc : Nat) (TS : Nat → Nat) (M : Nat → Nat) (P : Nat → Nat) (tc : Nat) (ev : Nat) (kn : Bool)  : MV l D E y_Senses_forget (.code y_Senses_forget k_Senses_forget 1 none) ({ frames := 0, cells := 0, slots := 0, locals := 0 } : Room) [.ref g] [(g, .inr (4, [.ref ga, .ref gb, .ref gc, .int (nI tc), .int (nI ev), .int (bI kn)])), (ga, .inl (E 0, 4096, .inl (aN TS))), (gb, .inl (E 0, 4096, .inl (aN M))), (gc, .inl (E 0, 924, .inl (aN P)))] (fun _ : Unit => True) (fun _ : Unit => [(g, .inr (4, [.ref ga, .ref gb, .ref gc, .int (nI tc), .int (nI ev), .int (bI false)])), (ga, .inl (E 0, 4096, .inl (aN TS))), (gb, .inl (E 0, 4096, .inl (aN M))), (gc, .inl (E 0, 924, .inl (aN P)))]) := by
  refine MV.of (by decide) (Nat.le_of_ble_eq_true rfl) ?_
  intro p e s m args below meth c A C hrt hlk hnm
  refine g_lv (lv' := [(0, .ref g)]) rfl ?_
  refine g_aload_n C d_Senses_forget_0 rfl 0 rfl ?_
  refine g_iconst (v := nI 0) C d_Senses_forget_1 (by decide) ?_
  refine g_top (show nI 0 = bI false from rfl) ?_
  refine g_put (ws' := [(g, .inr (4, [.ref ga, .ref gb, .ref gc, .int (nI tc), .int (nI ev), .int (bI false)])), (ga, .inl (E 0, 4096, .inl (aN TS))), (gb, .inl (E 0, 4096, .inl (aN M))), (gc, .inl (E 0, 924, .inl (aN P)))]) C lay_Senses ty_Senses nm_Senses 0 rfl rfl 5 (by decide) m_83 rfl (bI_nar _) (bI_fit _) (Nat.le_of_ble_eq_true rfl) rfl d_Senses_forget_2 ?_
  exact g_vret C hrt hlk () (trivial) rfl d_Senses_forget_5

set_option maxHeartbeats 4000000 in
set_option maxRecDepth 100000 in
theorem c_Se_everything (l : Launch) (D : va_G) (E : Nat → ClassId) (g : Nat) (ga : Nat) (gb : Nat) (gc : Nat) (TS : Nat → Nat) (M : Nat → Nat) (P : Nat → Nat) (tc : Nat) (ev : Nat) (kn : Bool)  : MI l D E y_Senses_everything (.code y_Senses_everything k_Senses_everything 1 (some .int)) ({ frames := 0, cells := 0, slots := 0, locals := 0 } : Room) [.ref g] [(g, .inr (4, [.ref ga, .ref gb, .ref gc, .int (nI tc), .int (nI ev), .int (bI kn)])), (ga, .inl (E 0, 4096, .inl (aN TS))), (gb, .inl (E 0, 4096, .inl (aN M))), (gc, .inl (E 0, 924, .inl (aN P)))] (fun (r : Int32) (_ : Unit) => r = nI ev) (fun _ : Unit => [(g, .inr (4, [.ref ga, .ref gb, .ref gc, .int (nI tc), .int (nI ev), .int (bI kn)])), (ga, .inl (E 0, 4096, .inl (aN TS))), (gb, .inl (E 0, 4096, .inl (aN M))), (gc, .inl (E 0, 924, .inl (aN P)))]) := by
  refine MI.of (by decide) (Nat.le_of_ble_eq_true rfl) ?_
  intro p e s m args below meth c A C hrt hlk hnm
  refine g_lv (lv' := [(0, .ref g)]) rfl ?_
  refine g_aload_n C d_Senses_everything_0 rfl 0 rfl ?_
  refine g_get C lay_Senses 0 rfl rfl 4 (by decide) m_82 rfl d_Senses_everything_1 ?_
  exact g_iret C hrt hlk () (rfl) rfl d_Senses_everything_4

set_option maxHeartbeats 4000000 in
set_option maxRecDepth 100000 in
theorem c_Se_hasMark (l : Launch) (D : va_G) (E : Nat → ClassId) (g : Nat) (ga : Nat) (gb : Nat) (gc : Nat) (TS : Nat → Nat) (M : Nat → Nat) (P : Nat → Nat) (tc : Nat) (ev : Nat) (kn : Bool) (x : Nat) (mk : Nat) (hx : x < 4096) (hm : mk < 2 ^ 31) : MI l D E y_Senses_hasMark (.code y_Senses_hasMark k_Senses_hasMark 3 (some .boolean)) ({ frames := 0, cells := 0, slots := 0, locals := 0 } : Room) [.ref g, .int (nI x), .int (nI mk)] [(g, .inr (4, [.ref ga, .ref gb, .ref gc, .int (nI tc), .int (nI ev), .int (bI kn)])), (ga, .inl (E 0, 4096, .inl (aN TS))), (gb, .inl (E 0, 4096, .inl (aN M))), (gc, .inl (E 0, 924, .inl (aN P)))] (fun (r : Int32) (_ : Unit) => r = bI (M x &&& mk != 0)) (fun _ : Unit => [(g, .inr (4, [.ref ga, .ref gb, .ref gc, .int (nI tc), .int (nI ev), .int (bI kn)])), (ga, .inl (E 0, 4096, .inl (aN TS))), (gb, .inl (E 0, 4096, .inl (aN M))), (gc, .inl (E 0, 924, .inl (aN P)))]) := by
  refine MI.of (by decide) (Nat.le_of_ble_eq_true rfl) ?_
  intro p e s m args below meth c A C hrt hlk hnm
  refine g_lv (lv' := [(0, .ref g), (1, .int (nI x)), (2, .int (nI mk))]) rfl ?_
  refine g_aload_n C d_Senses_hasMark_0 rfl 0 rfl ?_
  refine g_get C lay_Senses 0 rfl rfl 1 (by decide) m_79 rfl d_Senses_hasMark_1 ?_
  refine g_iload_n C d_Senses_hasMark_4 rfl 1 rfl ?_
  refine g_ialdN C 2 rfl (by omega) (by decide) d_Senses_hasMark_5 ?_
  refine g_top (show (aN M) x = nI (M x) from rfl) ?_
  refine g_iload_n C d_Senses_hasMark_6 rfl 2 rfl ?_
  refine g_iandN C d_Senses_hasMark_7 ?_
  refine g_if_eqN (tgt := 15) C (and_lt hm) d_Senses_hasMark_8 (by decide) (fun b0 => ?_) (fun b0 => ?_)
  · skip
    refine g_iconst (v := nI 0) C d_Senses_hasMark_15 (by decide) ?_
    refine g_top (show nI 0 = bI false from rfl) ?_
    exact g_zret C hrt hlk () (congrArg bI (by simp [b0])) rfl d_Senses_hasMark_16
  · skip
    refine g_iconst (v := nI 1) C d_Senses_hasMark_11 (by decide) ?_
    refine g_goto (tgt := 16) C d_Senses_hasMark_12 (by decide) ?_
    refine g_top (show nI 1 = bI true from rfl) ?_
    exact g_zret C hrt hlk () (congrArg bI (by simp [b0])) rfl d_Senses_hasMark_16

set_option maxHeartbeats 4000000 in
set_option maxRecDepth 100000 in
theorem c_Se_isOf (l : Launch) (D : va_G) (E : Nat → ClassId) (g : Nat) (ga : Nat) (gb : Nat) (gc : Nat) (TS : Nat → Nat) (M : Nat → Nat) (P : Nat → Nat) (tc : Nat) (ev : Nat) (kn : Bool) (k : Nat) (x : Nat) (hk : k < 31) (hx : x < 4096) : MI l D E y_Senses_isOf (.code y_Senses_isOf k_Senses_isOf 3 (some .boolean)) ({ frames := 1, cells := 0, slots := 0, locals := 22 } : Room) [.ref g, .int (nI k), .int (nI x)] [(g, .inr (4, [.ref ga, .ref gb, .ref gc, .int (nI tc), .int (nI ev), .int (bI kn)])), (ga, .inl (E 0, 4096, .inl (aN TS))), (gb, .inl (E 0, 4096, .inl (aN M))), (gc, .inl (E 0, 924, .inl (aN P)))] (fun (r : Int32) (_ : Unit) => r = bI ((M x).testBit k)) (fun _ : Unit => [(g, .inr (4, [.ref ga, .ref gb, .ref gc, .int (nI tc), .int (nI ev), .int (bI kn)])), (ga, .inl (E 0, 4096, .inl (aN TS))), (gb, .inl (E 0, 4096, .inl (aN M))), (gc, .inl (E 0, 924, .inl (aN P)))]) := by
  refine MI.of (by decide) (Nat.le_of_ble_eq_true rfl) ?_
  intro p e s m args below meth c A C hrt hlk hnm
  refine g_lv (lv' := [(0, .ref g), (1, .int (nI k)), (2, .int (nI x))]) rfl ?_
  refine g_iload_n C d_Senses_isOf_0 rfl 2 rfl ?_
  refine g_if_ltN (tgt := 26) C (by omega) d_Senses_isOf_1 (by decide) ?_
  refine g_iload_n C d_Senses_isOf_4 rfl 2 rfl ?_
  refine g_sipush (v := nI 4096) C d_Senses_isOf_5 (by decide) ?_
  refine g_icmp_geN (tgt := 26) C (by omega) (by decide) d_Senses_isOf_8 (by decide) (fun b1 => ?_) (fun b1 => ?_)
  · skip
    exact absurd b1 (by omega)
  · skip
    refine g_aload_n C d_Senses_isOf_11 rfl 0 rfl ?_
    refine g_iload_n C d_Senses_isOf_12 rfl 2 rfl ?_
    refine g_iconst (v := nI 1) C d_Senses_isOf_13 (by decide) ?_
    refine g_iload_n C d_Senses_isOf_14 rfl 1 rfl ?_
    refine g_ishl1N C (by omega) d_Senses_isOf_15 ?_
    refine g_iV (rest := []) (wr := []) C (c_Se_hasMark l D E g ga gb gc TS M P tc ev kn x (2 ^ k) hx (pow_lt hk)) rd_Senses_hasMark m_300 m_302 m_4 rfl rfl (Nat.le_of_ble_eq_true rfl) (Nat.le_of_ble_eq_true rfl) (Nat.le_of_ble_eq_true rfl) (Nat.le_of_ble_eq_true rfl) rfl rfl (Nat.le_of_ble_eq_true rfl) d_Senses_isOf_16 [0, 1, 2, 3] [] rfl (by decide) rfl (by decide) (by decide) (fun r16 _ (hr16 : r16 = bI (M x &&& (2 ^ k) != 0)) => ?_)
    subst hr16
    refine g_cells (ws' := [(g, .inr (4, [.ref ga, .ref gb, .ref gc, .int (nI tc), .int (nI ev), .int (bI kn)])), (ga, .inl (E 0, 4096, .inl (aN TS))), (gb, .inl (E 0, 4096, .inl (aN M))), (gc, .inl (E 0, 924, .inl (aN P)))]) [0, 1, 2, 3] (by decide) rfl ?_
    refine g_if_eqB (tgt := 26) C d_Senses_isOf_19 (by decide) (fun b2 => ?_) (fun b2 => ?_)
    · skip
      refine g_iconst (v := nI 0) C d_Senses_isOf_26 (by decide) ?_
      refine g_top (show nI 0 = bI false from rfl) ?_
      exact g_zret C hrt hlk () (congrArg bI (by rw [← bit_and, b2])) rfl d_Senses_isOf_27
    · skip
      refine g_iconst (v := nI 1) C d_Senses_isOf_22 (by decide) ?_
      refine g_goto (tgt := 27) C d_Senses_isOf_23 (by decide) ?_
      refine g_top (show nI 1 = bI true from rfl) ?_
      exact g_zret C hrt hlk () (congrArg bI (by rw [← bit_and, b2])) rfl d_Senses_isOf_27

set_option maxHeartbeats 4000000 in
set_option maxRecDepth 100000 in
theorem c_Se_tally (l : Launch) (D : va_G) (E : Nat → ClassId) (g : Nat) (ga : Nat) (gb : Nat) (gc : Nat) (TS : Nat → Nat) (M : Nat → Nat) (P : Nat → Nat) (tc : Nat) (ev : Nat) (kn : Bool) (k : Nat) (hev : ev < 4096) (hk : k < 31) : MI l D E y_Senses_tally (.code y_Senses_tally k_Senses_tally 4 (some .int)) ({ frames := 2, cells := 0, slots := 0, locals := 44 } : Room) [.ref g, .int (nI k)] [(g, .inr (4, [.ref ga, .ref gb, .ref gc, .int (nI tc), .int (nI ev), .int (bI kn)])), (ga, .inl (E 0, 4096, .inl (aN TS))), (gb, .inl (E 0, 4096, .inl (aN M))), (gc, .inl (E 0, 924, .inl (aN P)))] (fun (r : Int32) (_ : Unit) => r = nI (cntM M k (ev + 1))) (fun _ : Unit => [(g, .inr (4, [.ref ga, .ref gb, .ref gc, .int (nI tc), .int (nI ev), .int (bI kn)])), (ga, .inl (E 0, 4096, .inl (aN TS))), (gb, .inl (E 0, 4096, .inl (aN M))), (gc, .inl (E 0, 924, .inl (aN P)))]) := by
  refine MI.of (by decide) (Nat.le_of_ble_eq_true rfl) ?_
  intro p e s m args below meth c A C hrt hlk hnm
  refine g_lv (lv' := [(0, .ref g), (1, .int (nI k))]) rfl ?_
  refine g_iconst (v := nI 0) C d_Senses_tally_0 (by decide) ?_
  refine g_istore_n (lv' := [(2, .int (nI 0)), (0, .ref g), (1, .int (nI k))]) C d_Senses_tally_1 rfl (by decide) rfl ?_
  refine g_iconst (v := nI 0) C d_Senses_tally_2 (by decide) ?_
  refine g_istore_n (lv' := [(3, .int (nI 0)), (2, .int (nI 0)), (0, .ref g), (1, .int (nI k))]) C d_Senses_tally_3 rfl (by decide) rfl ?_
  have loop4 : ∀ (f : Nat) (i : Nat) (acc : Nat), (i ≤ ev + 1) → (acc = cntM M k i) → ev + 1 - i < f → GG p l e ({ frames := 2, cells := 0, slots := 0, locals := 44 } : Room) s m args below meth c (MQ below (va_Qi (fun (r : Int32) (_ : Unit) => r = nI (cntM M k (ev + 1))) (BC D A (fun _ : Unit => [(g, .inr (4, [.ref ga, .ref gb, .ref gc, .int (nI tc), .int (nI ev), .int (bI kn)])), (ga, .inl (E 0, 4096, .inl (aN TS))), (gb, .inl (E 0, 4096, .inl (aN M))), (gc, .inl (E 0, 924, .inl (aN P)))])) A) args s (({ frames := 2, cells := 0, slots := 0, locals := 44 } : Room)).cells (({ frames := 2, cells := 0, slots := 0, locals := 44 } : Room)).slots A) D A 4 0 0 4 [(0, .ref g), (1, .int (nI k)), (2, .int (nI acc)), (3, .int (nI i))] [] [(g, .inr (4, [.ref ga, .ref gb, .ref gc, .int (nI tc), .int (nI ev), .int (bI kn)])), (ga, .inl (E 0, 4096, .inl (aN TS))), (gb, .inl (E 0, 4096, .inl (aN M))), (gc, .inl (E 0, 924, .inl (aN P)))] := by
    intro f
    induction f with
    | zero => intro i acc hi ha hf; exact absurd hf (Nat.not_lt_zero _)
    | succ f ih =>
      intro i acc hi ha hf
      have ih4 := ih
      refine g_iload_n C d_Senses_tally_4 rfl 3 rfl ?_
      refine g_aload_n C d_Senses_tally_5 rfl 0 rfl ?_
      refine g_get C lay_Senses 0 rfl rfl 4 (by decide) m_82 rfl d_Senses_tally_6 ?_
      refine g_icmp_gtN (tgt := 30) C (by omega) (by omega) d_Senses_tally_9 (by decide) (fun b0 => ?_) (fun b0 => ?_)
      · skip
        refine g_iload_n C d_Senses_tally_30 rfl 2 rfl ?_
        exact g_iret C hrt hlk () (by rw [ha, show i = ev + 1 by omega]) rfl d_Senses_tally_31
      · skip
        refine g_aload_n C d_Senses_tally_12 rfl 0 rfl ?_
        refine g_iload_n C d_Senses_tally_13 rfl 1 rfl ?_
        refine g_iload_n C d_Senses_tally_14 rfl 3 rfl ?_
        refine g_iV (rest := []) (wr := []) C (c_Se_isOf l D E g ga gb gc TS M P tc ev kn k i (by omega) (by omega)) rd_Senses_isOf m_367 m_317 m_318 rfl rfl (Nat.le_of_ble_eq_true rfl) (Nat.le_of_ble_eq_true rfl) (Nat.le_of_ble_eq_true rfl) (Nat.le_of_ble_eq_true rfl) rfl rfl (Nat.le_of_ble_eq_true rfl) d_Senses_tally_15 [0, 1, 2, 3] [] rfl (by decide) rfl (by decide) (by decide) (fun r15 _ (hr15 : r15 = bI ((M i).testBit k)) => ?_)
        subst hr15
        refine g_cells (ws' := [(g, .inr (4, [.ref ga, .ref gb, .ref gc, .int (nI tc), .int (nI ev), .int (bI kn)])), (ga, .inl (E 0, 4096, .inl (aN TS))), (gb, .inl (E 0, 4096, .inl (aN M))), (gc, .inl (E 0, 924, .inl (aN P)))]) [0, 1, 2, 3] (by decide) rfl ?_
        refine g_if_eqB (tgt := 24) C d_Senses_tally_18 (by decide) (fun b1 => ?_) (fun b1 => ?_)
        · skip
          refine g_iinc (lv' := [(3, .int (nI (i + 1))), (0, .ref g), (1, .int (nI k)), (2, .int (nI acc))]) C d_Senses_tally_24 3 rfl (nI_1 _) (by decide) rfl ?_
          refine g_goto (tgt := 4) C d_Senses_tally_27 (by decide) ?_
          refine g_perm [1, 2, 3, 0] rfl ?_
          exact ih4 (i + 1) acc (by omega) (by simp [cntM, *]) (by omega)
        · skip
          refine g_iinc (lv' := [(2, .int (nI (acc + 1))), (0, .ref g), (1, .int (nI k)), (3, .int (nI i))]) C d_Senses_tally_21 2 rfl (nI_1 _) (by decide) rfl ?_
          refine g_iinc (lv' := [(3, .int (nI (i + 1))), (2, .int (nI (acc + 1))), (0, .ref g), (1, .int (nI k))]) C d_Senses_tally_24 3 rfl (nI_1 _) (by decide) rfl ?_
          refine g_goto (tgt := 4) C d_Senses_tally_27 (by decide) ?_
          refine g_perm [2, 3, 1, 0] rfl ?_
          exact ih4 (i + 1) (acc + 1) (by omega) (by simp [cntM, *]) (by omega)
  refine g_perm [2, 3, 1, 0] rfl ?_
  exact loop4 (ev + 1 - 0 + 1) 0 0 (Nat.zero_le _) (rfl) (Nat.lt_succ_self _)

set_option maxHeartbeats 4000000 in
set_option maxRecDepth 100000 in
theorem c_Se_meet (l : Launch) (D : va_G) (E : Nat → ClassId) (g : Nat) (ga : Nat) (gb : Nat) (gc : Nat) (TS : Nat → Nat) (M : Nat → Nat) (P : Nat → Nat) (tc : Nat) (ev : Nat) (kn : Bool) (k : Nat) (hev : ev < 4096) (hk : k < 31) : MI l D E y_Senses_meet (.code y_Senses_meet k_Senses_meet 4 (some .int)) ({ frames := 2, cells := 0, slots := 0, locals := 44 } : Room) [.ref g, .int (nI k)] [(g, .inr (4, [.ref ga, .ref gb, .ref gc, .int (nI tc), .int (nI ev), .int (bI kn)])), (ga, .inl (E 0, 4096, .inl (aN TS))), (gb, .inl (E 0, 4096, .inl (aN M))), (gc, .inl (E 0, 924, .inl (aN P)))] (fun (r : Int32) (_ : Unit) => r = nI (metM M k ev (ev + 1))) (fun _ : Unit => [(g, .inr (4, [.ref ga, .ref gb, .ref gc, .int (nI tc), .int (nI ev), .int (bI kn)])), (ga, .inl (E 0, 4096, .inl (aN TS))), (gb, .inl (E 0, 4096, .inl (aN M))), (gc, .inl (E 0, 924, .inl (aN P)))]) := by
  refine MI.of (by decide) (Nat.le_of_ble_eq_true rfl) ?_
  intro p e s m args below meth c A C hrt hlk hnm
  refine g_lv (lv' := [(0, .ref g), (1, .int (nI k))]) rfl ?_
  refine g_aload_n C d_Senses_meet_0 rfl 0 rfl ?_
  refine g_get C lay_Senses 0 rfl rfl 4 (by decide) m_82 rfl d_Senses_meet_1 ?_
  refine g_istore_n (lv' := [(2, .int (nI ev)), (0, .ref g), (1, .int (nI k))]) C d_Senses_meet_4 rfl (by decide) rfl ?_
  refine g_iconst (v := nI 0) C d_Senses_meet_5 (by decide) ?_
  refine g_istore_n (lv' := [(3, .int (nI 0)), (2, .int (nI ev)), (0, .ref g), (1, .int (nI k))]) C d_Senses_meet_6 rfl (by decide) rfl ?_
  have loop7 : ∀ (f : Nat) (i : Nat) (acc : Nat), (i ≤ ev + 1) → (acc = metM M k ev i) → ev + 1 - i < f → GG p l e ({ frames := 2, cells := 0, slots := 0, locals := 44 } : Room) s m args below meth c (MQ below (va_Qi (fun (r : Int32) (_ : Unit) => r = nI (metM M k ev (ev + 1))) (BC D A (fun _ : Unit => [(g, .inr (4, [.ref ga, .ref gb, .ref gc, .int (nI tc), .int (nI ev), .int (bI kn)])), (ga, .inl (E 0, 4096, .inl (aN TS))), (gb, .inl (E 0, 4096, .inl (aN M))), (gc, .inl (E 0, 924, .inl (aN P)))])) A) args s (({ frames := 2, cells := 0, slots := 0, locals := 44 } : Room)).cells (({ frames := 2, cells := 0, slots := 0, locals := 44 } : Room)).slots A) D A 4 0 0 7 [(0, .ref g), (1, .int (nI k)), (2, .int (nI acc)), (3, .int (nI i))] [] [(g, .inr (4, [.ref ga, .ref gb, .ref gc, .int (nI tc), .int (nI ev), .int (bI kn)])), (ga, .inl (E 0, 4096, .inl (aN TS))), (gb, .inl (E 0, 4096, .inl (aN M))), (gc, .inl (E 0, 924, .inl (aN P)))] := by
    intro f
    induction f with
    | zero => intro i acc hi ha hf; exact absurd hf (Nat.not_lt_zero _)
    | succ f ih =>
      intro i acc hi ha hf
      have ih7 := ih
      refine g_iload_n C d_Senses_meet_7 rfl 3 rfl ?_
      refine g_aload_n C d_Senses_meet_8 rfl 0 rfl ?_
      refine g_get C lay_Senses 0 rfl rfl 4 (by decide) m_82 rfl d_Senses_meet_9 ?_
      refine g_icmp_gtN (tgt := 34) C (by omega) (by omega) d_Senses_meet_12 (by decide) (fun b0 => ?_) (fun b0 => ?_)
      · skip
        refine g_iload_n C d_Senses_meet_34 rfl 2 rfl ?_
        exact g_iret C hrt hlk () (by rw [ha, show i = ev + 1 by omega]) rfl d_Senses_meet_35
      · skip
        refine g_aload_n C d_Senses_meet_15 rfl 0 rfl ?_
        refine g_iload_n C d_Senses_meet_16 rfl 1 rfl ?_
        refine g_iload_n C d_Senses_meet_17 rfl 3 rfl ?_
        refine g_iV (rest := []) (wr := []) C (c_Se_isOf l D E g ga gb gc TS M P tc ev kn k i (by omega) (by omega)) rd_Senses_isOf m_367 m_317 m_318 rfl rfl (Nat.le_of_ble_eq_true rfl) (Nat.le_of_ble_eq_true rfl) (Nat.le_of_ble_eq_true rfl) (Nat.le_of_ble_eq_true rfl) rfl rfl (Nat.le_of_ble_eq_true rfl) d_Senses_meet_18 [0, 1, 2, 3] [] rfl (by decide) rfl (by decide) (by decide) (fun r18 _ (hr18 : r18 = bI ((M i).testBit k)) => ?_)
        subst hr18
        refine g_cells (ws' := [(g, .inr (4, [.ref ga, .ref gb, .ref gc, .int (nI tc), .int (nI ev), .int (bI kn)])), (ga, .inl (E 0, 4096, .inl (aN TS))), (gb, .inl (E 0, 4096, .inl (aN M))), (gc, .inl (E 0, 924, .inl (aN P)))]) [0, 1, 2, 3] (by decide) rfl ?_
        refine g_if_eqB (tgt := 28) C d_Senses_meet_21 (by decide) (fun b1 => ?_) (fun b1 => ?_)
        · skip
          refine g_iinc (lv' := [(3, .int (nI (i + 1))), (0, .ref g), (1, .int (nI k)), (2, .int (nI acc))]) C d_Senses_meet_28 3 rfl (nI_1 _) (by decide) rfl ?_
          refine g_goto (tgt := 7) C d_Senses_meet_31 (by decide) ?_
          refine g_perm [1, 2, 3, 0] rfl ?_
          exact ih7 (i + 1) acc (by omega) (by simp [metM, *]) (by omega)
        · skip
          refine g_iload_n C d_Senses_meet_24 rfl 2 rfl ?_
          refine g_iload_n C d_Senses_meet_25 rfl 3 rfl ?_
          refine g_iandN C d_Senses_meet_26 ?_
          refine g_istore_n (lv' := [(2, .int (nI (acc &&& i))), (0, .ref g), (1, .int (nI k)), (3, .int (nI i))]) C d_Senses_meet_27 rfl (by decide) rfl ?_
          refine g_iinc (lv' := [(3, .int (nI (i + 1))), (2, .int (nI (acc &&& i))), (0, .ref g), (1, .int (nI k))]) C d_Senses_meet_28 3 rfl (nI_1 _) (by decide) rfl ?_
          refine g_goto (tgt := 7) C d_Senses_meet_31 (by decide) ?_
          refine g_perm [2, 3, 1, 0] rfl ?_
          exact ih7 (i + 1) (acc &&& i) (by omega) (by simp [metM, *]) (by omega)
  refine g_perm [2, 3, 1, 0] rfl ?_
  exact loop7 (ev + 1 - 0 + 1) 0 ev (Nat.zero_le _) (rfl) (Nat.lt_succ_self _)

set_option maxHeartbeats 4000000 in
set_option maxRecDepth 100000 in
theorem c_Se_joinWithin (l : Launch) (D : va_G) (E : Nat → ClassId) (g : Nat) (ga : Nat) (gb : Nat) (gc : Nat) (TS : Nat → Nat) (M : Nat → Nat) (P : Nat → Nat) (tc : Nat) (ev : Nat) (kn : Bool) (k : Nat) (bd : Nat) (hev : ev < 4096) (hk : k < 31) : MI l D E y_Senses_joinWithin (.code y_Senses_joinWithin k_Senses_joinWithin 5 (some .int)) ({ frames := 2, cells := 0, slots := 0, locals := 44 } : Room) [.ref g, .int (nI k), .int (nI bd)] [(g, .inr (4, [.ref ga, .ref gb, .ref gc, .int (nI tc), .int (nI ev), .int (bI kn)])), (ga, .inl (E 0, 4096, .inl (aN TS))), (gb, .inl (E 0, 4096, .inl (aN M))), (gc, .inl (E 0, 924, .inl (aN P)))] (fun (r : Int32) (_ : Unit) => r = nI (joiM M k bd (ev + 1))) (fun _ : Unit => [(g, .inr (4, [.ref ga, .ref gb, .ref gc, .int (nI tc), .int (nI ev), .int (bI kn)])), (ga, .inl (E 0, 4096, .inl (aN TS))), (gb, .inl (E 0, 4096, .inl (aN M))), (gc, .inl (E 0, 924, .inl (aN P)))]) := by
  refine MI.of (by decide) (Nat.le_of_ble_eq_true rfl) ?_
  intro p e s m args below meth c A C hrt hlk hnm
  refine g_lv (lv' := [(0, .ref g), (1, .int (nI k)), (2, .int (nI bd))]) rfl ?_
  refine g_iconst (v := nI 0) C d_Senses_joinWithin_0 (by decide) ?_
  refine g_istore_n (lv' := [(3, .int (nI 0)), (0, .ref g), (1, .int (nI k)), (2, .int (nI bd))]) C d_Senses_joinWithin_1 rfl (by decide) rfl ?_
  refine g_iconst (v := nI 0) C d_Senses_joinWithin_2 (by decide) ?_
  refine g_istore (lv' := [(4, .int (nI 0)), (3, .int (nI 0)), (0, .ref g), (1, .int (nI k)), (2, .int (nI bd))]) C d_Senses_joinWithin_3 (by decide) rfl ?_
  have loop5 : ∀ (f : Nat) (i : Nat) (acc : Nat), (i ≤ ev + 1) → (acc = joiM M k bd i) → ev + 1 - i < f → GG p l e ({ frames := 2, cells := 0, slots := 0, locals := 44 } : Room) s m args below meth c (MQ below (va_Qi (fun (r : Int32) (_ : Unit) => r = nI (joiM M k bd (ev + 1))) (BC D A (fun _ : Unit => [(g, .inr (4, [.ref ga, .ref gb, .ref gc, .int (nI tc), .int (nI ev), .int (bI kn)])), (ga, .inl (E 0, 4096, .inl (aN TS))), (gb, .inl (E 0, 4096, .inl (aN M))), (gc, .inl (E 0, 924, .inl (aN P)))])) A) args s (({ frames := 2, cells := 0, slots := 0, locals := 44 } : Room)).cells (({ frames := 2, cells := 0, slots := 0, locals := 44 } : Room)).slots A) D A 5 0 0 5 [(0, .ref g), (1, .int (nI k)), (2, .int (nI bd)), (3, .int (nI acc)), (4, .int (nI i))] [] [(g, .inr (4, [.ref ga, .ref gb, .ref gc, .int (nI tc), .int (nI ev), .int (bI kn)])), (ga, .inl (E 0, 4096, .inl (aN TS))), (gb, .inl (E 0, 4096, .inl (aN M))), (gc, .inl (E 0, 924, .inl (aN P)))] := by
    intro f
    induction f with
    | zero => intro i acc hi ha hf; exact absurd hf (Nat.not_lt_zero _)
    | succ f ih =>
      intro i acc hi ha hf
      have ih5 := ih
      refine g_iload C d_Senses_joinWithin_5 4 rfl ?_
      refine g_aload_n C d_Senses_joinWithin_7 rfl 0 rfl ?_
      refine g_get C lay_Senses 0 rfl rfl 4 (by decide) m_82 rfl d_Senses_joinWithin_8 ?_
      refine g_icmp_gtN (tgt := 44) C (by omega) (by omega) d_Senses_joinWithin_11 (by decide) (fun b0 => ?_) (fun b0 => ?_)
      · skip
        refine g_iload_n C d_Senses_joinWithin_44 rfl 3 rfl ?_
        exact g_iret C hrt hlk () (by rw [ha, show i = ev + 1 by omega]) rfl d_Senses_joinWithin_45
      · skip
        refine g_iload C d_Senses_joinWithin_14 4 rfl ?_
        refine g_iload_n C d_Senses_joinWithin_16 rfl 2 rfl ?_
        refine g_iSN (rest := []) (wr := [(g, .inr (4, [.ref ga, .ref gb, .ref gc, .int (nI tc), .int (nI ev), .int (bI kn)])), (ga, .inl (E 0, 4096, .inl (aN TS))), (gb, .inl (E 0, 4096, .inl (aN M))), (gc, .inl (E 0, 924, .inl (aN P)))]) C (c_isWithinN l D E i bd (by omega)) rd_AB_isWithin m_295 m_264 (Nat.le_of_ble_eq_true rfl) (Nat.le_of_ble_eq_true rfl) (Nat.le_of_ble_eq_true rfl) (Nat.le_of_ble_eq_true rfl) rfl rfl (Nat.le_of_ble_eq_true rfl) d_Senses_joinWithin_17 [] [0, 1, 2, 3] rfl (by decide) rfl (by decide) (by decide) (fun r17 _ (hr17 : r17 = bI (dif i bd == 0)) => ?_)
        subst hr17
        refine g_cells (ws' := [(g, .inr (4, [.ref ga, .ref gb, .ref gc, .int (nI tc), .int (nI ev), .int (bI kn)])), (ga, .inl (E 0, 4096, .inl (aN TS))), (gb, .inl (E 0, 4096, .inl (aN M))), (gc, .inl (E 0, 924, .inl (aN P)))]) [0, 1, 2, 3] (by decide) rfl ?_
        refine g_if_eqB (tgt := 38) C d_Senses_joinWithin_20 (by decide) (fun b1 => ?_) (fun b1 => ?_)
        · skip
          refine g_iinc (lv' := [(4, .int (nI (i + 1))), (0, .ref g), (1, .int (nI k)), (2, .int (nI bd)), (3, .int (nI acc))]) C d_Senses_joinWithin_38 4 rfl (nI_1 _) (by decide) rfl ?_
          refine g_goto (tgt := 5) C d_Senses_joinWithin_41 (by decide) ?_
          refine g_perm [1, 2, 3, 4, 0] rfl ?_
          exact ih5 (i + 1) acc (by omega) (by simp [joiM, *]) (by omega)
        · skip
          refine g_aload_n C d_Senses_joinWithin_23 rfl 0 rfl ?_
          refine g_iload_n C d_Senses_joinWithin_24 rfl 1 rfl ?_
          refine g_iload C d_Senses_joinWithin_25 4 rfl ?_
          refine g_iV (rest := []) (wr := []) C (c_Se_isOf l D E g ga gb gc TS M P tc ev kn k i (by omega) (by omega)) rd_Senses_isOf m_367 m_317 m_318 rfl rfl (Nat.le_of_ble_eq_true rfl) (Nat.le_of_ble_eq_true rfl) (Nat.le_of_ble_eq_true rfl) (Nat.le_of_ble_eq_true rfl) rfl rfl (Nat.le_of_ble_eq_true rfl) d_Senses_joinWithin_27 [0, 1, 2, 3] [] rfl (by decide) rfl (by decide) (by decide) (fun r27 _ (hr27 : r27 = bI ((M i).testBit k)) => ?_)
          subst hr27
          refine g_cells (ws' := [(g, .inr (4, [.ref ga, .ref gb, .ref gc, .int (nI tc), .int (nI ev), .int (bI kn)])), (ga, .inl (E 0, 4096, .inl (aN TS))), (gb, .inl (E 0, 4096, .inl (aN M))), (gc, .inl (E 0, 924, .inl (aN P)))]) [0, 1, 2, 3] (by decide) rfl ?_
          refine g_if_eqB (tgt := 38) C d_Senses_joinWithin_30 (by decide) (fun b2 => ?_) (fun b2 => ?_)
          · skip
            refine g_iinc (lv' := [(4, .int (nI (i + 1))), (0, .ref g), (1, .int (nI k)), (2, .int (nI bd)), (3, .int (nI acc))]) C d_Senses_joinWithin_38 4 rfl (nI_1 _) (by decide) rfl ?_
            refine g_goto (tgt := 5) C d_Senses_joinWithin_41 (by decide) ?_
            refine g_perm [1, 2, 3, 4, 0] rfl ?_
            exact ih5 (i + 1) acc (by omega) (by simp [joiM, *]) (by omega)
          · skip
            refine g_iload_n C d_Senses_joinWithin_33 rfl 3 rfl ?_
            refine g_iload C d_Senses_joinWithin_34 4 rfl ?_
            refine g_iorN C d_Senses_joinWithin_36 ?_
            refine g_istore_n (lv' := [(3, .int (nI (acc ||| i))), (0, .ref g), (1, .int (nI k)), (2, .int (nI bd)), (4, .int (nI i))]) C d_Senses_joinWithin_37 rfl (by decide) rfl ?_
            refine g_iinc (lv' := [(4, .int (nI (i + 1))), (3, .int (nI (acc ||| i))), (0, .ref g), (1, .int (nI k)), (2, .int (nI bd))]) C d_Senses_joinWithin_38 4 rfl (nI_1 _) (by decide) rfl ?_
            refine g_goto (tgt := 5) C d_Senses_joinWithin_41 (by decide) ?_
            refine g_perm [2, 3, 4, 1, 0] rfl ?_
            exact ih5 (i + 1) (acc ||| i) (by omega) (by simp [joiM, *]) (by omega)
  refine g_perm [2, 3, 4, 1, 0] rfl ?_
  exact loop5 (ev + 1 - 0 + 1) 0 0 (Nat.zero_le _) (rfl) (Nat.lt_succ_self _)

set_option maxHeartbeats 4000000 in
set_option maxRecDepth 100000 in
theorem c_Se_ownMarks (l : Launch) (D : va_G) (E : Nat → ClassId) (g : Nat) (ga : Nat) (gb : Nat) (gc : Nat) (TS : Nat → Nat) (M : Nat → Nat) (P : Nat → Nat) (tc : Nat) (ev : Nat) (kn : Bool) (x : Nat) (hev : ev < 4096) (hTS : ∀ a, TS a < 4096) (hx : x ≤ ev) : MI l D E y_Senses_ownMarks (.code y_Senses_ownMarks k_Senses_ownMarks 5 (some .int)) ({ frames := 1, cells := 0, slots := 0, locals := 21 } : Room) [.ref g, .int (nI x)] [(g, .inr (4, [.ref ga, .ref gb, .ref gc, .int (nI tc), .int (nI ev), .int (bI kn)])), (ga, .inl (E 0, 4096, .inl (aN TS))), (gb, .inl (E 0, 4096, .inl (aN M))), (gc, .inl (E 0, 924, .inl (aN P)))] (fun (r : Int32) (_ : Unit) => r = nI (ownM TS ev x)) (fun _ : Unit => [(g, .inr (4, [.ref ga, .ref gb, .ref gc, .int (nI tc), .int (nI ev), .int (bI kn)])), (ga, .inl (E 0, 4096, .inl (aN TS))), (gb, .inl (E 0, 4096, .inl (aN M))), (gc, .inl (E 0, 924, .inl (aN P)))]) := by
  refine MI.of (by decide) (Nat.le_of_ble_eq_true rfl) ?_
  intro p e s m args below meth c A C hrt hlk hnm
  refine g_lv (lv' := [(0, .ref g), (1, .int (nI x))]) rfl ?_
  refine g_aload_n C d_Senses_ownMarks_0 rfl 0 rfl ?_
  refine g_get C lay_Senses 0 rfl rfl 0 (by decide) m_78 rfl d_Senses_ownMarks_1 ?_
  refine g_iload_n C d_Senses_ownMarks_4 rfl 1 rfl ?_
  refine g_ialdN C 1 rfl (by omega) (by decide) d_Senses_ownMarks_5 ?_
  refine g_top (show (aN TS) x = nI (TS x) from rfl) ?_
  refine g_istore_n (lv' := [(2, .int (nI (TS x))), (0, .ref g), (1, .int (nI x))]) C d_Senses_ownMarks_6 rfl (by decide) rfl ?_
  refine g_iload_n C d_Senses_ownMarks_7 rfl 0 rfl ?_
  refine g_iload_n C d_Senses_ownMarks_8 rfl 2 rfl ?_
  refine g_iandN C d_Senses_ownMarks_9 ?_
  refine g_if_eqN (tgt := 15) C (and_ltl (lt4 (hTS _))) d_Senses_ownMarks_10 (by decide) (fun b0 => ?_) (fun b0 => ?_)
  · skip
    refine g_bipush (v := nI 32) C d_Senses_ownMarks_15 (by decide) ?_
    refine g_istore_n (lv' := [(3, .int (nI 32)), (2, .int (nI (TS x))), (0, .ref g), (1, .int (nI x))]) C d_Senses_ownMarks_17 rfl (by decide) rfl ?_
    refine g_iload_n C d_Senses_ownMarks_18 rfl 1 rfl ?_
    refine g_iload_n C d_Senses_ownMarks_19 rfl 3 rfl ?_
    refine g_iorN C d_Senses_ownMarks_20 ?_
    refine g_aload_n C d_Senses_ownMarks_21 rfl 2 rfl ?_
    refine g_get C lay_Senses 0 rfl rfl 4 (by decide) m_82 rfl d_Senses_ownMarks_22 ?_
    refine g_icmp_neN (tgt := 32) C (or_lt (lt4 (hTS _)) (by omega)) (by omega) d_Senses_ownMarks_25 (by decide) (fun b1 => ?_) (fun b1 => ?_)
    · skip
      refine g_aload_n C d_Senses_ownMarks_32 rfl 2 rfl ?_
      refine g_get C lay_Senses 0 rfl rfl 4 (by decide) m_82 rfl d_Senses_ownMarks_33 ?_
      refine g_aload_n C d_Senses_ownMarks_36 rfl 2 rfl ?_
      refine g_get C lay_Senses 0 rfl rfl 0 (by decide) m_78 rfl d_Senses_ownMarks_37 ?_
      refine g_aload_n C d_Senses_ownMarks_40 rfl 2 rfl ?_
      refine g_get C lay_Senses 0 rfl rfl 4 (by decide) m_82 rfl d_Senses_ownMarks_41 ?_
      refine g_iload_n C d_Senses_ownMarks_44 rfl 1 rfl ?_
      refine g_iconst (v := (-1)) C d_Senses_ownMarks_45 (by decide) ?_
      refine g_ixor C d_Senses_ownMarks_46 ?_
      refine g_iandD C d_Senses_ownMarks_47 ?_
      refine g_ialdN C 1 rfl (Nat.lt_of_le_of_lt (dif_le _ _) hev) (by decide) d_Senses_ownMarks_48 ?_
      refine g_top (show (aN TS) (dif ev (TS x)) = nI (TS (dif ev (TS x))) from rfl) ?_
      refine g_iconst (v := (-1)) C d_Senses_ownMarks_49 (by decide) ?_
      refine g_ixor C d_Senses_ownMarks_50 ?_
      refine g_iandD C d_Senses_ownMarks_51 ?_
      refine g_istore (lv' := [(4, .int (nI (dif ev (TS (dif ev (TS x)))))), (3, .int (nI 32)), (2, .int (nI (TS x))), (0, .ref g), (1, .int (nI x))]) C d_Senses_ownMarks_52 (by decide) rfl ?_
      refine g_iload_n C d_Senses_ownMarks_54 rfl 4 rfl ?_
      refine g_iload C d_Senses_ownMarks_55 0 rfl ?_
      refine g_iSN (rest := []) (wr := [(g, .inr (4, [.ref ga, .ref gb, .ref gc, .int (nI tc), .int (nI ev), .int (bI kn)])), (ga, .inl (E 0, 4096, .inl (aN TS))), (gb, .inl (E 0, 4096, .inl (aN M))), (gc, .inl (E 0, 924, .inl (aN P)))]) C (c_isWithinN l D E x (dif ev (TS (dif ev (TS x)))) (by omega)) rd_AB_isWithin m_295 m_264 (Nat.le_of_ble_eq_true rfl) (Nat.le_of_ble_eq_true rfl) (Nat.le_of_ble_eq_true rfl) (Nat.le_of_ble_eq_true rfl) rfl rfl (Nat.le_of_ble_eq_true rfl) d_Senses_ownMarks_57 [] [0, 1, 2, 3] rfl (by decide) rfl (by decide) (by decide) (fun r57 _ (hr57 : r57 = bI (dif x (dif ev (TS (dif ev (TS x)))) == 0)) => ?_)
      subst hr57
      refine g_cells (ws' := [(g, .inr (4, [.ref ga, .ref gb, .ref gc, .int (nI tc), .int (nI ev), .int (bI kn)])), (ga, .inl (E 0, 4096, .inl (aN TS))), (gb, .inl (E 0, 4096, .inl (aN M))), (gc, .inl (E 0, 924, .inl (aN P)))]) [0, 1, 2, 3] (by decide) rfl ?_
      refine g_if_eqB (tgt := 68) C d_Senses_ownMarks_60 (by decide) (fun b2 => ?_) (fun b2 => ?_)
      · skip
        refine g_iload_n C d_Senses_ownMarks_68 rfl 4 rfl ?_
        refine g_iload C d_Senses_ownMarks_69 0 rfl ?_
        refine g_icmp_neN (tgt := 78) C (by omega) (dif_lt (by omega)) d_Senses_ownMarks_71 (by decide) (fun b3 => ?_) (fun b3 => ?_)
        · skip
          refine g_iload_n C d_Senses_ownMarks_78 rfl 1 rfl ?_
          exact g_iret C hrt hlk () (congrArg nI (by unfold ownM; first | (rw [if_pos b0]; done) | (rw [if_neg (fun q => q b0)]; (first | rw [if_pos b3] | rw [if_neg b3]); (first | rw [if_pos (beq_iff_eq.mp b2)] | rw [if_neg (beq_eq_false_iff_ne.mp b2)]); (first | rw [if_pos b1] | rw [if_neg b1])))) rfl d_Senses_ownMarks_79
        · skip
          refine g_iload_n C d_Senses_ownMarks_74 rfl 1 rfl ?_
          refine g_iconst (v := nI 1) C d_Senses_ownMarks_75 (by decide) ?_
          refine g_iorN C d_Senses_ownMarks_76 ?_
          refine g_istore_n (lv' := [(3, .int (nI (32 ||| 1))), (4, .int (nI (dif ev (TS (dif ev (TS x)))))), (2, .int (nI (TS x))), (0, .ref g), (1, .int (nI x))]) C d_Senses_ownMarks_77 rfl (by decide) rfl ?_
          refine g_iload_n C d_Senses_ownMarks_78 rfl 0 rfl ?_
          exact g_iret C hrt hlk () (congrArg nI (by unfold ownM; first | (rw [if_pos b0]; done) | (rw [if_neg (fun q => q b0)]; (first | rw [if_pos b3] | rw [if_neg b3]); (first | rw [if_pos (beq_iff_eq.mp b2)] | rw [if_neg (beq_eq_false_iff_ne.mp b2)]); (first | rw [if_pos b1] | rw [if_neg b1])))) rfl d_Senses_ownMarks_79
      · skip
        refine g_iload_n C d_Senses_ownMarks_63 rfl 1 rfl ?_
        refine g_bipush (v := nI 16) C d_Senses_ownMarks_64 (by decide) ?_
        refine g_iorN C d_Senses_ownMarks_66 ?_
        refine g_istore_n (lv' := [(3, .int (nI (32 ||| 16))), (4, .int (nI (dif ev (TS (dif ev (TS x)))))), (2, .int (nI (TS x))), (0, .ref g), (1, .int (nI x))]) C d_Senses_ownMarks_67 rfl (by decide) rfl ?_
        refine g_iload_n C d_Senses_ownMarks_68 rfl 4 rfl ?_
        refine g_iload C d_Senses_ownMarks_69 1 rfl ?_
        refine g_icmp_neN (tgt := 78) C (by omega) (dif_lt (by omega)) d_Senses_ownMarks_71 (by decide) (fun b3 => ?_) (fun b3 => ?_)
        · skip
          refine g_iload_n C d_Senses_ownMarks_78 rfl 0 rfl ?_
          exact g_iret C hrt hlk () (congrArg nI (by unfold ownM; first | (rw [if_pos b0]; done) | (rw [if_neg (fun q => q b0)]; (first | rw [if_pos b3] | rw [if_neg b3]); (first | rw [if_pos (beq_iff_eq.mp b2)] | rw [if_neg (beq_eq_false_iff_ne.mp b2)]); (first | rw [if_pos b1] | rw [if_neg b1])))) rfl d_Senses_ownMarks_79
        · skip
          refine g_iload_n C d_Senses_ownMarks_74 rfl 0 rfl ?_
          refine g_iconst (v := nI 1) C d_Senses_ownMarks_75 (by decide) ?_
          refine g_iorN C d_Senses_ownMarks_76 ?_
          refine g_istore_n (lv' := [(3, .int (nI ((32 ||| 16) ||| 1))), (4, .int (nI (dif ev (TS (dif ev (TS x)))))), (2, .int (nI (TS x))), (0, .ref g), (1, .int (nI x))]) C d_Senses_ownMarks_77 rfl (by decide) rfl ?_
          refine g_iload_n C d_Senses_ownMarks_78 rfl 0 rfl ?_
          exact g_iret C hrt hlk () (congrArg nI (by unfold ownM; first | (rw [if_pos b0]; done) | (rw [if_neg (fun q => q b0)]; (first | rw [if_pos b3] | rw [if_neg b3]); (first | rw [if_pos (beq_iff_eq.mp b2)] | rw [if_neg (beq_eq_false_iff_ne.mp b2)]); (first | rw [if_pos b1] | rw [if_neg b1])))) rfl d_Senses_ownMarks_79
    · skip
      refine g_iload_n C d_Senses_ownMarks_28 rfl 0 rfl ?_
      refine g_iconst (v := nI 4) C d_Senses_ownMarks_29 (by decide) ?_
      refine g_iorN C d_Senses_ownMarks_30 ?_
      refine g_istore_n (lv' := [(3, .int (nI (32 ||| 4))), (2, .int (nI (TS x))), (0, .ref g), (1, .int (nI x))]) C d_Senses_ownMarks_31 rfl (by decide) rfl ?_
      refine g_aload_n C d_Senses_ownMarks_32 rfl 2 rfl ?_
      refine g_get C lay_Senses 0 rfl rfl 4 (by decide) m_82 rfl d_Senses_ownMarks_33 ?_
      refine g_aload_n C d_Senses_ownMarks_36 rfl 2 rfl ?_
      refine g_get C lay_Senses 0 rfl rfl 0 (by decide) m_78 rfl d_Senses_ownMarks_37 ?_
      refine g_aload_n C d_Senses_ownMarks_40 rfl 2 rfl ?_
      refine g_get C lay_Senses 0 rfl rfl 4 (by decide) m_82 rfl d_Senses_ownMarks_41 ?_
      refine g_iload_n C d_Senses_ownMarks_44 rfl 1 rfl ?_
      refine g_iconst (v := (-1)) C d_Senses_ownMarks_45 (by decide) ?_
      refine g_ixor C d_Senses_ownMarks_46 ?_
      refine g_iandD C d_Senses_ownMarks_47 ?_
      refine g_ialdN C 1 rfl (Nat.lt_of_le_of_lt (dif_le _ _) hev) (by decide) d_Senses_ownMarks_48 ?_
      refine g_top (show (aN TS) (dif ev (TS x)) = nI (TS (dif ev (TS x))) from rfl) ?_
      refine g_iconst (v := (-1)) C d_Senses_ownMarks_49 (by decide) ?_
      refine g_ixor C d_Senses_ownMarks_50 ?_
      refine g_iandD C d_Senses_ownMarks_51 ?_
      refine g_istore (lv' := [(4, .int (nI (dif ev (TS (dif ev (TS x)))))), (3, .int (nI (32 ||| 4))), (2, .int (nI (TS x))), (0, .ref g), (1, .int (nI x))]) C d_Senses_ownMarks_52 (by decide) rfl ?_
      refine g_iload_n C d_Senses_ownMarks_54 rfl 4 rfl ?_
      refine g_iload C d_Senses_ownMarks_55 0 rfl ?_
      refine g_iSN (rest := []) (wr := [(g, .inr (4, [.ref ga, .ref gb, .ref gc, .int (nI tc), .int (nI ev), .int (bI kn)])), (ga, .inl (E 0, 4096, .inl (aN TS))), (gb, .inl (E 0, 4096, .inl (aN M))), (gc, .inl (E 0, 924, .inl (aN P)))]) C (c_isWithinN l D E x (dif ev (TS (dif ev (TS x)))) (by omega)) rd_AB_isWithin m_295 m_264 (Nat.le_of_ble_eq_true rfl) (Nat.le_of_ble_eq_true rfl) (Nat.le_of_ble_eq_true rfl) (Nat.le_of_ble_eq_true rfl) rfl rfl (Nat.le_of_ble_eq_true rfl) d_Senses_ownMarks_57 [] [0, 1, 2, 3] rfl (by decide) rfl (by decide) (by decide) (fun r57 _ (hr57 : r57 = bI (dif x (dif ev (TS (dif ev (TS x)))) == 0)) => ?_)
      subst hr57
      refine g_cells (ws' := [(g, .inr (4, [.ref ga, .ref gb, .ref gc, .int (nI tc), .int (nI ev), .int (bI kn)])), (ga, .inl (E 0, 4096, .inl (aN TS))), (gb, .inl (E 0, 4096, .inl (aN M))), (gc, .inl (E 0, 924, .inl (aN P)))]) [0, 1, 2, 3] (by decide) rfl ?_
      refine g_if_eqB (tgt := 68) C d_Senses_ownMarks_60 (by decide) (fun b2 => ?_) (fun b2 => ?_)
      · skip
        refine g_iload_n C d_Senses_ownMarks_68 rfl 4 rfl ?_
        refine g_iload C d_Senses_ownMarks_69 0 rfl ?_
        refine g_icmp_neN (tgt := 78) C (by omega) (dif_lt (by omega)) d_Senses_ownMarks_71 (by decide) (fun b3 => ?_) (fun b3 => ?_)
        · skip
          refine g_iload_n C d_Senses_ownMarks_78 rfl 1 rfl ?_
          exact g_iret C hrt hlk () (congrArg nI (by unfold ownM; first | (rw [if_pos b0]; done) | (rw [if_neg (fun q => q b0)]; (first | rw [if_pos b3] | rw [if_neg b3]); (first | rw [if_pos (beq_iff_eq.mp b2)] | rw [if_neg (beq_eq_false_iff_ne.mp b2)]); (first | rw [if_pos b1] | rw [if_neg b1])))) rfl d_Senses_ownMarks_79
        · skip
          refine g_iload_n C d_Senses_ownMarks_74 rfl 1 rfl ?_
          refine g_iconst (v := nI 1) C d_Senses_ownMarks_75 (by decide) ?_
          refine g_iorN C d_Senses_ownMarks_76 ?_
          refine g_istore_n (lv' := [(3, .int (nI ((32 ||| 4) ||| 1))), (4, .int (nI (dif ev (TS (dif ev (TS x)))))), (2, .int (nI (TS x))), (0, .ref g), (1, .int (nI x))]) C d_Senses_ownMarks_77 rfl (by decide) rfl ?_
          refine g_iload_n C d_Senses_ownMarks_78 rfl 0 rfl ?_
          exact g_iret C hrt hlk () (congrArg nI (by unfold ownM; first | (rw [if_pos b0]; done) | (rw [if_neg (fun q => q b0)]; (first | rw [if_pos b3] | rw [if_neg b3]); (first | rw [if_pos (beq_iff_eq.mp b2)] | rw [if_neg (beq_eq_false_iff_ne.mp b2)]); (first | rw [if_pos b1] | rw [if_neg b1])))) rfl d_Senses_ownMarks_79
      · skip
        refine g_iload_n C d_Senses_ownMarks_63 rfl 1 rfl ?_
        refine g_bipush (v := nI 16) C d_Senses_ownMarks_64 (by decide) ?_
        refine g_iorN C d_Senses_ownMarks_66 ?_
        refine g_istore_n (lv' := [(3, .int (nI ((32 ||| 4) ||| 16))), (4, .int (nI (dif ev (TS (dif ev (TS x)))))), (2, .int (nI (TS x))), (0, .ref g), (1, .int (nI x))]) C d_Senses_ownMarks_67 rfl (by decide) rfl ?_
        refine g_iload_n C d_Senses_ownMarks_68 rfl 4 rfl ?_
        refine g_iload C d_Senses_ownMarks_69 1 rfl ?_
        refine g_icmp_neN (tgt := 78) C (by omega) (dif_lt (by omega)) d_Senses_ownMarks_71 (by decide) (fun b3 => ?_) (fun b3 => ?_)
        · skip
          refine g_iload_n C d_Senses_ownMarks_78 rfl 0 rfl ?_
          exact g_iret C hrt hlk () (congrArg nI (by unfold ownM; first | (rw [if_pos b0]; done) | (rw [if_neg (fun q => q b0)]; (first | rw [if_pos b3] | rw [if_neg b3]); (first | rw [if_pos (beq_iff_eq.mp b2)] | rw [if_neg (beq_eq_false_iff_ne.mp b2)]); (first | rw [if_pos b1] | rw [if_neg b1])))) rfl d_Senses_ownMarks_79
        · skip
          refine g_iload_n C d_Senses_ownMarks_74 rfl 0 rfl ?_
          refine g_iconst (v := nI 1) C d_Senses_ownMarks_75 (by decide) ?_
          refine g_iorN C d_Senses_ownMarks_76 ?_
          refine g_istore_n (lv' := [(3, .int (nI (((32 ||| 4) ||| 16) ||| 1))), (4, .int (nI (dif ev (TS (dif ev (TS x)))))), (2, .int (nI (TS x))), (0, .ref g), (1, .int (nI x))]) C d_Senses_ownMarks_77 rfl (by decide) rfl ?_
          refine g_iload_n C d_Senses_ownMarks_78 rfl 0 rfl ?_
          exact g_iret C hrt hlk () (congrArg nI (by unfold ownM; first | (rw [if_pos b0]; done) | (rw [if_neg (fun q => q b0)]; (first | rw [if_pos b3] | rw [if_neg b3]); (first | rw [if_pos (beq_iff_eq.mp b2)] | rw [if_neg (beq_eq_false_iff_ne.mp b2)]); (first | rw [if_pos b1] | rw [if_neg b1])))) rfl d_Senses_ownMarks_79
  · skip
    refine g_iconst (v := nI 0) C d_Senses_ownMarks_13 (by decide) ?_
    exact g_iret C hrt hlk () (congrArg nI (by unfold ownM; first | (rw [if_pos b0]; done) | (rw [if_neg (fun q => q b0)]; (first | rw [if_pos b3] | rw [if_neg b3]); (first | rw [if_pos (beq_iff_eq.mp b2)] | rw [if_neg (beq_eq_false_iff_ne.mp b2)]); (first | rw [if_pos b1] | rw [if_neg b1])))) rfl d_Senses_ownMarks_14

set_option maxHeartbeats 4000000 in
set_option maxRecDepth 100000 in
theorem c_Se_fillTargets (l : Launch) (D : va_G) (E : Nat → ClassId) (g : Nat) (ga : Nat) (gb : Nat) (gc : Nat) (TS : Nat → Nat) (M : Nat → Nat) (P : Nat → Nat) (tc : Nat) (ev : Nat) (kn : Bool) (h : Nat) (t : Nat) (u : Nat) (n : Nat) (T : Nat → Nat) (U : Nat → Nat) (hn : n ≤ 12) (hT : ∀ a, T a < 4096) : MV l D E y_Senses_fillTargets (.code y_Senses_fillTargets k_Senses_fillTargets 6 none) ({ frames := 2, cells := 0, slots := 0, locals := 42 } : Room) [.ref g, .ref h] [(g, .inr (4, [.ref ga, .ref gb, .ref gc, .int (nI tc), .int (nI ev), .int (bI kn)])), (ga, .inl (E 0, 4096, .inl (aN TS))), (gb, .inl (E 0, 4096, .inl (aN M))), (gc, .inl (E 0, 924, .inl (aN P))), (h, .inr (6, [.ref t, .ref u, .int (nI n)])), (t, .inl (E 0, 12, .inl (aN T))), (u, .inl (E 0, 12, .inl (aN U)))] (fun _ : Unit => True) (fun _ : Unit => [(g, .inr (4, [.ref ga, .ref gb, .ref gc, .int (nI tc), .int (nI ev), .int (bI kn)])), (ga, .inl (E 0, 4096, .inl (aN (ovw TS (fun x => tgU T x n) (2 ^ n))))), (gb, .inl (E 0, 4096, .inl (aN M))), (gc, .inl (E 0, 924, .inl (aN P))), (h, .inr (6, [.ref t, .ref u, .int (nI n)])), (t, .inl (E 0, 12, .inl (aN T))), (u, .inl (E 0, 12, .inl (aN U)))]) := by
  refine MV.of (by decide) (Nat.le_of_ble_eq_true rfl) ?_
  intro p e s m args below meth c A C hrt hlk hnm
  refine g_lv (lv' := [(0, .ref g), (1, .ref h)]) rfl ?_
  refine g_aload_n C d_Senses_fillTargets_0 rfl 0 rfl ?_
  refine g_get C lay_Senses 0 rfl rfl 0 (by decide) m_78 rfl d_Senses_fillTargets_1 ?_
  refine g_iconst (v := nI 0) C d_Senses_fillTargets_4 (by decide) ?_
  refine g_iconst (v := nI 0) C d_Senses_fillTargets_5 (by decide) ?_
  refine g_iastN (f' := aN (va_up TS 0 0)) (ws' := [(g, .inr (4, [.ref ga, .ref gb, .ref gc, .int (nI tc), .int (nI ev), .int (bI kn)])), (ga, .inl (E 0, 4096, .inl (aN (va_up TS 0 0)))), (gb, .inl (E 0, 4096, .inl (aN M))), (gc, .inl (E 0, 924, .inl (aN P))), (h, .inr (6, [.ref t, .ref u, .int (nI n)])), (t, .inl (E 0, 12, .inl (aN T))), (u, .inl (E 0, 12, .inl (aN U)))]) C 1 rfl (by omega) (by decide) (aN_up _ _ _) rfl d_Senses_fillTargets_6 ?_
  refine g_iconst (v := nI 0) C d_Senses_fillTargets_7 (by decide) ?_
  refine g_istore_n (lv' := [(2, .int (nI 0)), (0, .ref g), (1, .ref h)]) C d_Senses_fillTargets_8 rfl (by decide) rfl ?_
  have loop9 : ∀ (f : Nat) (a : Nat) (X : Nat → Nat), (a ≤ n) → (X = ovw TS (fun x => tgU T x n) (2 ^ a)) → n - a < f → GG p l e ({ frames := 2, cells := 0, slots := 0, locals := 42 } : Room) s m args below meth c (MQ below (va_Qv (fun _ : Unit => True) (BC D A (fun _ : Unit => [(g, .inr (4, [.ref ga, .ref gb, .ref gc, .int (nI tc), .int (nI ev), .int (bI kn)])), (ga, .inl (E 0, 4096, .inl (aN (ovw TS (fun x => tgU T x n) (2 ^ n))))), (gb, .inl (E 0, 4096, .inl (aN M))), (gc, .inl (E 0, 924, .inl (aN P))), (h, .inr (6, [.ref t, .ref u, .int (nI n)])), (t, .inl (E 0, 12, .inl (aN T))), (u, .inl (E 0, 12, .inl (aN U)))])) A) args s (({ frames := 2, cells := 0, slots := 0, locals := 42 } : Room)).cells (({ frames := 2, cells := 0, slots := 0, locals := 42 } : Room)).slots A) D A 6 0 0 9 [(0, .ref g), (1, .ref h), (2, .int (nI a))] [] [(g, .inr (4, [.ref ga, .ref gb, .ref gc, .int (nI tc), .int (nI ev), .int (bI kn)])), (ga, .inl (E 0, 4096, .inl (aN X))), (gb, .inl (E 0, 4096, .inl (aN M))), (gc, .inl (E 0, 924, .inl (aN P))), (h, .inr (6, [.ref t, .ref u, .int (nI n)])), (t, .inl (E 0, 12, .inl (aN T))), (u, .inl (E 0, 12, .inl (aN U)))] := by
    intro f
    induction f with
    | zero => intro a X ha hX hf; exact absurd hf (Nat.not_lt_zero _)
    | succ f ih =>
      intro a X ha hX hf
      have ih9 := ih
      refine g_iload_n C d_Senses_fillTargets_9 rfl 2 rfl ?_
      refine g_aload_n C d_Senses_fillTargets_10 rfl 1 rfl ?_
      refine g_iV (rest := [.int (nI a)]) (wr := [(g, .inr (4, [.ref ga, .ref gb, .ref gc, .int (nI tc), .int (nI ev), .int (bI kn)])), (ga, .inl (E 0, 4096, .inl (aN X))), (gb, .inl (E 0, 4096, .inl (aN M))), (gc, .inl (E 0, 924, .inl (aN P)))]) C (c_Web_size l D E h t u n T U ) rd_Web_size m_286 m_248 m_249 rfl rfl (Nat.le_of_ble_eq_true rfl) (Nat.le_of_ble_eq_true rfl) (Nat.le_of_ble_eq_true rfl) (Nat.le_of_ble_eq_true rfl) rfl rfl (Nat.le_of_ble_eq_true rfl) d_Senses_fillTargets_11 [4, 5, 6] [0, 1, 2, 3] rfl (by decide) rfl (by decide) (by decide) (fun r11 _ (hr11 : r11 = nI n) => ?_)
      subst hr11
      refine g_cells (ws' := [(g, .inr (4, [.ref ga, .ref gb, .ref gc, .int (nI tc), .int (nI ev), .int (bI kn)])), (ga, .inl (E 0, 4096, .inl (aN X))), (gb, .inl (E 0, 4096, .inl (aN M))), (gc, .inl (E 0, 924, .inl (aN P))), (h, .inr (6, [.ref t, .ref u, .int (nI n)])), (t, .inl (E 0, 12, .inl (aN T))), (u, .inl (E 0, 12, .inl (aN U)))]) [0, 1, 2, 3, 4, 5, 6] (by decide) rfl ?_
      refine g_icmp_geN (tgt := 74) C (by omega) (by omega) d_Senses_fillTargets_14 (by decide) (fun b0 => ?_) (fun b0 => ?_)
      · skip
        exact g_vret C hrt hlk () (trivial) (by rw [hX, show a = n by omega]) d_Senses_fillTargets_74
      · skip
        refine g_iload_n C d_Senses_fillTargets_17 rfl 2 rfl ?_
        refine g_bipush (v := nI 12) C d_Senses_fillTargets_18 (by decide) ?_
        refine g_icmp_geN (tgt := 74) C (by omega) (by decide) d_Senses_fillTargets_20 (by decide) (fun b1 => ?_) (fun b1 => ?_)
        · skip
          exact g_vret C hrt hlk () (trivial) (by rw [hX, show a = n by omega]) d_Senses_fillTargets_74
        · skip
          refine g_iconst (v := nI 1) C d_Senses_fillTargets_23 (by decide) ?_
          refine g_iload_n C d_Senses_fillTargets_24 rfl 2 rfl ?_
          refine g_ishl1N C (by omega) d_Senses_fillTargets_25 ?_
          refine g_istore_n (lv' := [(3, .int (nI (2 ^ a))), (0, .ref g), (1, .ref h), (2, .int (nI a))]) C d_Senses_fillTargets_26 rfl (by decide) rfl ?_
          refine g_aload_n C d_Senses_fillTargets_27 rfl 2 rfl ?_
          refine g_iload_n C d_Senses_fillTargets_28 rfl 3 rfl ?_
          refine g_iV (rest := []) (wr := [(g, .inr (4, [.ref ga, .ref gb, .ref gc, .int (nI tc), .int (nI ev), .int (bI kn)])), (ga, .inl (E 0, 4096, .inl (aN X))), (gb, .inl (E 0, 4096, .inl (aN M))), (gc, .inl (E 0, 924, .inl (aN P)))]) C (c_Web_targetsOfOne l D E h t u n T U a (by omega) (by omega)) rd_Web_targetsOfOne m_287 m_288 m_289 rfl rfl (Nat.le_of_ble_eq_true rfl) (Nat.le_of_ble_eq_true rfl) (Nat.le_of_ble_eq_true rfl) (Nat.le_of_ble_eq_true rfl) rfl rfl (Nat.le_of_ble_eq_true rfl) d_Senses_fillTargets_29 [4, 5, 6] [0, 1, 2, 3] rfl (by decide) rfl (by decide) (by decide) (fun r29 _ (hr29 : r29 = nI (if a < n then T a else 0)) => ?_)
          subst hr29
          refine g_cells (ws' := [(g, .inr (4, [.ref ga, .ref gb, .ref gc, .int (nI tc), .int (nI ev), .int (bI kn)])), (ga, .inl (E 0, 4096, .inl (aN X))), (gb, .inl (E 0, 4096, .inl (aN M))), (gc, .inl (E 0, 924, .inl (aN P))), (h, .inr (6, [.ref t, .ref u, .int (nI n)])), (t, .inl (E 0, 12, .inl (aN T))), (u, .inl (E 0, 12, .inl (aN U)))]) [0, 1, 2, 3, 4, 5, 6] (by decide) rfl ?_
          refine g_istore (lv' := [(4, .int (nI (if a < n then T a else 0))), (3, .int (nI (2 ^ a))), (0, .ref g), (1, .ref h), (2, .int (nI a))]) C d_Senses_fillTargets_32 (by decide) rfl ?_
          refine g_iconst (v := nI 0) C d_Senses_fillTargets_34 (by decide) ?_
          refine g_istore (lv' := [(5, .int (nI 0)), (4, .int (nI (if a < n then T a else 0))), (3, .int (nI (2 ^ a))), (0, .ref g), (1, .ref h), (2, .int (nI a))]) C d_Senses_fillTargets_35 (by decide) rfl ?_
          have loop37 : ∀ (f : Nat) (r : Nat) (Y : Nat → Nat), (r ≤ 2 ^ a) → (Y = ovw TS (fun x => tgU T x n) (2 ^ a + r)) → 2 ^ a - r < f → GG p l e ({ frames := 2, cells := 0, slots := 0, locals := 42 } : Room) s m args below meth c (MQ below (va_Qv (fun _ : Unit => True) (BC D A (fun _ : Unit => [(g, .inr (4, [.ref ga, .ref gb, .ref gc, .int (nI tc), .int (nI ev), .int (bI kn)])), (ga, .inl (E 0, 4096, .inl (aN (ovw TS (fun x => tgU T x n) (2 ^ n))))), (gb, .inl (E 0, 4096, .inl (aN M))), (gc, .inl (E 0, 924, .inl (aN P))), (h, .inr (6, [.ref t, .ref u, .int (nI n)])), (t, .inl (E 0, 12, .inl (aN T))), (u, .inl (E 0, 12, .inl (aN U)))])) A) args s (({ frames := 2, cells := 0, slots := 0, locals := 42 } : Room)).cells (({ frames := 2, cells := 0, slots := 0, locals := 42 } : Room)).slots A) D A 6 0 0 37 [(0, .ref g), (1, .ref h), (2, .int (nI a)), (3, .int (nI (2 ^ a))), (4, .int (nI (if a < n then T a else 0))), (5, .int (nI r))] [] [(g, .inr (4, [.ref ga, .ref gb, .ref gc, .int (nI tc), .int (nI ev), .int (bI kn)])), (ga, .inl (E 0, 4096, .inl (aN Y))), (gb, .inl (E 0, 4096, .inl (aN M))), (gc, .inl (E 0, 924, .inl (aN P))), (h, .inr (6, [.ref t, .ref u, .int (nI n)])), (t, .inl (E 0, 12, .inl (aN T))), (u, .inl (E 0, 12, .inl (aN U)))] := by
            intro f
            induction f with
            | zero => intro r Y hr hY hf; exact absurd hf (Nat.not_lt_zero _)
            | succ f ih =>
              intro r Y hr hY hf
              have ih37 := ih
              refine g_iload C d_Senses_fillTargets_37 5 rfl ?_
              refine g_iload_n C d_Senses_fillTargets_39 rfl 3 rfl ?_
              refine g_icmp_geN (tgt := 68) C (by have := p12_le (show a ≤ 12 by omega); omega) (pow_lt (by omega)) d_Senses_fillTargets_40 (by decide) (fun b2 => ?_) (fun b2 => ?_)
              · skip
                refine g_iinc (lv' := [(2, .int (nI (a + 1))), (0, .ref g), (1, .ref h), (3, .int (nI (2 ^ a))), (4, .int (nI (if a < n then T a else 0))), (5, .int (nI r))]) C d_Senses_fillTargets_68 2 rfl (nI_1 _) (by decide) rfl ?_
                refine g_goto (tgt := 9) C d_Senses_fillTargets_71 (by decide) ?_
                refine g_perm [1, 2, 0] rfl ?_
                exact ih9 (a + 1) Y (by omega) (by rw [hY, show r = 2 ^ a by omega, Nat.pow_succ, Nat.mul_two]) (by omega)
              · skip
                refine g_aload_n C d_Senses_fillTargets_43 rfl 0 rfl ?_
                refine g_get C lay_Senses 0 rfl rfl 0 (by decide) m_78 rfl d_Senses_fillTargets_44 ?_
                refine g_iload_n C d_Senses_fillTargets_47 rfl 3 rfl ?_
                refine g_iload C d_Senses_fillTargets_48 5 rfl ?_
                refine g_iaddN C d_Senses_fillTargets_50 ?_
                refine g_aload_n C d_Senses_fillTargets_51 rfl 0 rfl ?_
                refine g_get C lay_Senses 0 rfl rfl 0 (by decide) m_78 rfl d_Senses_fillTargets_52 ?_
                refine g_iload C d_Senses_fillTargets_55 5 rfl ?_
                refine g_ialdN C 1 rfl (by have := p12_le (show a ≤ 12 by omega); omega) (by decide) d_Senses_fillTargets_57 ?_
                refine g_top (show (aN Y) r = nI (Y r) from rfl) ?_
                refine g_iload C d_Senses_fillTargets_58 4 rfl ?_
                refine g_iorN C d_Senses_fillTargets_60 ?_
                refine g_iastN (f' := aN (va_up Y ((2 ^ a) + r) ((Y r) ||| (if a < n then T a else 0)))) (ws' := [(g, .inr (4, [.ref ga, .ref gb, .ref gc, .int (nI tc), .int (nI ev), .int (bI kn)])), (ga, .inl (E 0, 4096, .inl (aN (va_up Y ((2 ^ a) + r) ((Y r) ||| (if a < n then T a else 0)))))), (gb, .inl (E 0, 4096, .inl (aN M))), (gc, .inl (E 0, 924, .inl (aN P))), (h, .inr (6, [.ref t, .ref u, .int (nI n)])), (t, .inl (E 0, 12, .inl (aN T))), (u, .inl (E 0, 12, .inl (aN U)))]) C 1 rfl (fi_lt (by omega) b2) (by decide) (aN_up _ _ _) rfl d_Senses_fillTargets_61 ?_
                refine g_iinc (lv' := [(5, .int (nI (r + 1))), (0, .ref g), (1, .ref h), (2, .int (nI a)), (3, .int (nI (2 ^ a))), (4, .int (nI (if a < n then T a else 0)))]) C d_Senses_fillTargets_62 5 rfl (nI_1 _) (by decide) rfl ?_
                refine g_goto (tgt := 37) C d_Senses_fillTargets_65 (by decide) ?_
                refine g_perm [1, 2, 3, 4, 5, 0] rfl ?_
                exact ih37 (r + 1) (va_up Y ((2 ^ a) + r) ((Y r) ||| (if a < n then T a else 0))) (by omega) (by rw [hY, ovw_lt (by omega), if_pos (by omega), ← tgU_top (by omega) b2, ovw_s]; rfl) (by omega)
          refine g_perm [3, 4, 5, 2, 1, 0] rfl ?_
          exact loop37 (2 ^ a - 0 + 1) 0 X (Nat.zero_le _) (by rw [Nat.add_zero]; exact hX) (Nat.lt_succ_self _)
  refine g_perm [1, 2, 0] rfl ?_
  exact loop9 (n - 0 + 1) 0 (va_up TS 0 0) (Nat.zero_le _) (by rw [Nat.pow_zero, show (1 : Nat) = 0 + 1 from rfl, ← ovw_s, ovw_0, tgU_z]) (Nat.lt_succ_self _)

set_option maxHeartbeats 4000000 in
set_option maxRecDepth 100000 in
theorem c_Se_isNewTop (l : Launch) (D : va_G) (E : Nat → ClassId) (g : Nat) (ga : Nat) (gb : Nat) (gc : Nat) (TS : Nat → Nat) (M : Nat → Nat) (P : Nat → Nat) (tc : Nat) (ev : Nat) (kn : Bool) (x : Nat) (hx : x < 4096) (htc : tc ≤ 924) (hnt : ntU P x tc = true → tc < 924) : MI l D E y_Senses_isNewTop (.code y_Senses_isNewTop k_Senses_isNewTop 3 (some .boolean)) ({ frames := 1, cells := 0, slots := 0, locals := 21 } : Room) [.ref g, .int (nI x)] [(g, .inr (4, [.ref ga, .ref gb, .ref gc, .int (nI tc), .int (nI ev), .int (bI kn)])), (ga, .inl (E 0, 4096, .inl (aN TS))), (gb, .inl (E 0, 4096, .inl (aN M))), (gc, .inl (E 0, 924, .inl (aN P)))] (fun (r : Int32) (_ : Unit) => r = bI (ntU P x tc)) (fun _ : Unit => [(g, .inr (4, [.ref ga, .ref gb, .ref gc, .int (nI (bif ntU P x tc then tc + 1 else tc)), .int (nI ev), .int (bI kn)])), (ga, .inl (E 0, 4096, .inl (aN TS))), (gb, .inl (E 0, 4096, .inl (aN M))), (gc, .inl (E 0, 924, .inl (aN (bif ntU P x tc then va_up P tc x else P))))]) := by
  refine MI.of (by decide) (Nat.le_of_ble_eq_true rfl) ?_
  intro p e s m args below meth c A C hrt hlk hnm
  refine g_lv (lv' := [(0, .ref g), (1, .int (nI x))]) rfl ?_
  refine g_iconst (v := nI 0) C d_Senses_isNewTop_0 (by decide) ?_
  refine g_istore_n (lv' := [(2, .int (nI 0)), (0, .ref g), (1, .int (nI x))]) C d_Senses_isNewTop_1 rfl (by decide) rfl ?_
  have loop2 : ∀ (f : Nat) (i : Nat), (i ≤ tc) → (ntU P x i = true) → tc - i < f → GG p l e ({ frames := 1, cells := 0, slots := 0, locals := 21 } : Room) s m args below meth c (MQ below (va_Qi (fun (r : Int32) (_ : Unit) => r = bI (ntU P x tc)) (BC D A (fun _ : Unit => [(g, .inr (4, [.ref ga, .ref gb, .ref gc, .int (nI (bif ntU P x tc then tc + 1 else tc)), .int (nI ev), .int (bI kn)])), (ga, .inl (E 0, 4096, .inl (aN TS))), (gb, .inl (E 0, 4096, .inl (aN M))), (gc, .inl (E 0, 924, .inl (aN (bif ntU P x tc then va_up P tc x else P))))])) A) args s (({ frames := 1, cells := 0, slots := 0, locals := 21 } : Room)).cells (({ frames := 1, cells := 0, slots := 0, locals := 21 } : Room)).slots A) D A 3 0 0 2 [(0, .ref g), (1, .int (nI x)), (2, .int (nI i))] [] [(g, .inr (4, [.ref ga, .ref gb, .ref gc, .int (nI tc), .int (nI ev), .int (bI kn)])), (ga, .inl (E 0, 4096, .inl (aN TS))), (gb, .inl (E 0, 4096, .inl (aN M))), (gc, .inl (E 0, 924, .inl (aN P)))] := by
    intro f
    induction f with
    | zero => intro i hi hn hf; exact absurd hf (Nat.not_lt_zero _)
    | succ f ih =>
      intro i hi hn hf
      have ih2 := ih
      refine g_iload_n C d_Senses_isNewTop_2 rfl 2 rfl ?_
      refine g_aload_n C d_Senses_isNewTop_3 rfl 0 rfl ?_
      refine g_get C lay_Senses 0 rfl rfl 3 (by decide) m_81 rfl d_Senses_isNewTop_4 ?_
      refine g_icmp_geN (tgt := 31) C (by omega) (by omega) d_Senses_isNewTop_7 (by decide) (fun b0 => ?_) (fun b0 => ?_)
      · skip
        refine g_aload_n C d_Senses_isNewTop_31 rfl 0 rfl ?_
        refine g_get C lay_Senses 0 rfl rfl 3 (by decide) m_81 rfl d_Senses_isNewTop_32 ?_
        refine g_sipush (v := nI 924) C d_Senses_isNewTop_35 (by decide) ?_
        refine g_icmp_geN (tgt := 61) C (by omega) (by decide) d_Senses_isNewTop_38 (by decide) (fun b2 => ?_) (fun b2 => ?_)
        · skip
          rw [show i = tc by omega] at hn; exact absurd (hnt hn) (by omega)
        · skip
          refine g_aload_n C d_Senses_isNewTop_41 rfl 0 rfl ?_
          refine g_get C lay_Senses 0 rfl rfl 2 (by decide) m_80 rfl d_Senses_isNewTop_42 ?_
          refine g_aload_n C d_Senses_isNewTop_45 rfl 0 rfl ?_
          refine g_get C lay_Senses 0 rfl rfl 3 (by decide) m_81 rfl d_Senses_isNewTop_46 ?_
          refine g_iload_n C d_Senses_isNewTop_49 rfl 1 rfl ?_
          refine g_iastN (f' := aN (va_up P tc x)) (ws' := [(g, .inr (4, [.ref ga, .ref gb, .ref gc, .int (nI tc), .int (nI ev), .int (bI kn)])), (ga, .inl (E 0, 4096, .inl (aN TS))), (gb, .inl (E 0, 4096, .inl (aN M))), (gc, .inl (E 0, 924, .inl (aN (va_up P tc x))))]) C 3 rfl (by omega) (by decide) (aN_up _ _ _) rfl d_Senses_isNewTop_50 ?_
          refine g_aload_n C d_Senses_isNewTop_51 rfl 0 rfl ?_
          refine g_dup C d_Senses_isNewTop_52 rfl ?_
          refine g_get C lay_Senses 0 rfl rfl 3 (by decide) m_81 rfl d_Senses_isNewTop_53 ?_
          refine g_iconst (v := nI 1) C d_Senses_isNewTop_56 (by decide) ?_
          refine g_iaddN C d_Senses_isNewTop_57 ?_
          refine g_put (ws' := [(g, .inr (4, [.ref ga, .ref gb, .ref gc, .int (nI (tc + 1)), .int (nI ev), .int (bI kn)])), (ga, .inl (E 0, 4096, .inl (aN TS))), (gb, .inl (E 0, 4096, .inl (aN M))), (gc, .inl (E 0, 924, .inl (aN (va_up P tc x))))]) C lay_Senses ty_Senses nm_Senses 0 rfl rfl 3 (by decide) m_81 rfl rfl rfl (Nat.le_of_ble_eq_true rfl) rfl d_Senses_isNewTop_58 ?_
          refine g_iconst (v := nI 1) C d_Senses_isNewTop_61 (by decide) ?_
          refine g_top (show nI 1 = bI true from rfl) ?_
          exact g_zret C hrt hlk () (congrArg bI (by rw [← hn, show i = tc by omega])) (by rw [show i = tc by omega] at hn; rw [hn]; rfl) d_Senses_isNewTop_62
      · skip
        refine g_iload_n C d_Senses_isNewTop_10 rfl 1 rfl ?_
        refine g_aload_n C d_Senses_isNewTop_11 rfl 0 rfl ?_
        refine g_get C lay_Senses 0 rfl rfl 2 (by decide) m_80 rfl d_Senses_isNewTop_12 ?_
        refine g_iload_n C d_Senses_isNewTop_15 rfl 2 rfl ?_
        refine g_ialdN C 3 rfl (by omega) (by decide) d_Senses_isNewTop_16 ?_
        refine g_top (show (aN P) i = nI (P i) from rfl) ?_
        refine g_iSN (rest := []) (wr := [(g, .inr (4, [.ref ga, .ref gb, .ref gc, .int (nI tc), .int (nI ev), .int (bI kn)])), (ga, .inl (E 0, 4096, .inl (aN TS))), (gb, .inl (E 0, 4096, .inl (aN M))), (gc, .inl (E 0, 924, .inl (aN P)))]) C (c_isWithinN l D E x (P i) (by omega)) rd_AB_isWithin m_295 m_264 (Nat.le_of_ble_eq_true rfl) (Nat.le_of_ble_eq_true rfl) (Nat.le_of_ble_eq_true rfl) (Nat.le_of_ble_eq_true rfl) rfl rfl (Nat.le_of_ble_eq_true rfl) d_Senses_isNewTop_17 [] [0, 1, 2, 3] rfl (by decide) rfl (by decide) (by decide) (fun r17 _ (hr17 : r17 = bI (dif x (P i) == 0)) => ?_)
        subst hr17
        refine g_cells (ws' := [(g, .inr (4, [.ref ga, .ref gb, .ref gc, .int (nI tc), .int (nI ev), .int (bI kn)])), (ga, .inl (E 0, 4096, .inl (aN TS))), (gb, .inl (E 0, 4096, .inl (aN M))), (gc, .inl (E 0, 924, .inl (aN P)))]) [0, 1, 2, 3] (by decide) rfl ?_
        refine g_if_eqB (tgt := 25) C d_Senses_isNewTop_20 (by decide) (fun b1 => ?_) (fun b1 => ?_)
        · skip
          refine g_iinc (lv' := [(2, .int (nI (i + 1))), (0, .ref g), (1, .int (nI x))]) C d_Senses_isNewTop_25 2 rfl (nI_1 _) (by decide) rfl ?_
          refine g_goto (tgt := 2) C d_Senses_isNewTop_28 (by decide) ?_
          refine g_perm [1, 2, 0] rfl ?_
          exact ih2 (i + 1) (by omega) (by simp [ntU, *]) (by omega)
        · skip
          refine g_iconst (v := nI 0) C d_Senses_isNewTop_23 (by decide) ?_
          refine g_top (show nI 0 = bI false from rfl) ?_
          exact g_zret C hrt hlk () (congrArg bI (ntU_f b1 b0).symm) (by rw [ntU_f b1 b0]; rfl) d_Senses_isNewTop_24
  refine g_perm [1, 2, 0] rfl ?_
  exact loop2 (tc - 0 + 1) 0 (Nat.zero_le _) (rfl) (Nat.lt_succ_self _)

set_option maxHeartbeats 4000000 in
set_option maxRecDepth 100000 in
theorem c_Se_markPreferred (l : Launch) (D : va_G) (E : Nat → ClassId) (g : Nat) (ga : Nat) (gb : Nat) (gc : Nat) (TS : Nat → Nat) (M : Nat → Nat) (P : Nat → Nat) (tc : Nat) (ev : Nat) (kn : Bool) (hev : ev < 4096) : MV l D E y_Senses_markPreferred (.code y_Senses_markPreferred k_Senses_markPreferred 2 none) ({ frames := 2, cells := 0, slots := 0, locals := 43 } : Room) [.ref g] [(g, .inr (4, [.ref ga, .ref gb, .ref gc, .int (nI tc), .int (nI ev), .int (bI kn)])), (ga, .inl (E 0, 4096, .inl (aN TS))), (gb, .inl (E 0, 4096, .inl (aN M))), (gc, .inl (E 0, 924, .inl (aN P)))] (fun _ : Unit => True) (fun _ : Unit => [(g, .inr (4, [.ref ga, .ref gb, .ref gc, .int (nI ((tpS 16 2 M P ev (ev + 1)).2.2)), .int (nI ev), .int (bI kn)])), (ga, .inl (E 0, 4096, .inl (aN TS))), (gb, .inl (E 0, 4096, .inl (aN ((tpS 16 2 M P ev (ev + 1)).1)))), (gc, .inl (E 0, 924, .inl (aN ((tpS 16 2 M P ev (ev + 1)).2.1))))]) := by
  refine MV.of (by decide) (Nat.le_of_ble_eq_true rfl) ?_
  intro p e s m args below meth c A C hrt hlk hnm
  refine g_lv (lv' := [(0, .ref g)]) rfl ?_
  refine g_aload_n C d_Senses_markPreferred_0 rfl 0 rfl ?_
  refine g_iconst (v := nI 0) C d_Senses_markPreferred_1 (by decide) ?_
  refine g_put (ws' := [(g, .inr (4, [.ref ga, .ref gb, .ref gc, .int (nI 0), .int (nI ev), .int (bI kn)])), (ga, .inl (E 0, 4096, .inl (aN TS))), (gb, .inl (E 0, 4096, .inl (aN M))), (gc, .inl (E 0, 924, .inl (aN P)))]) C lay_Senses ty_Senses nm_Senses 0 rfl rfl 3 (by decide) m_81 rfl rfl rfl (Nat.le_of_ble_eq_true rfl) rfl d_Senses_markPreferred_2 ?_
  refine g_aload_n C d_Senses_markPreferred_5 rfl 0 rfl ?_
  refine g_get C lay_Senses 0 rfl rfl 4 (by decide) m_82 rfl d_Senses_markPreferred_6 ?_
  refine g_istore_n (lv' := [(1, .int (nI ev)), (0, .ref g)]) C d_Senses_markPreferred_9 rfl (by decide) rfl ?_
  have loop10 : ∀ (f : Nat) (i : Nat) (X : Nat → Nat) (Y : Nat → Nat) (z : Nat), (i ≤ ev + 1) → (TPS 16 2 M P ev i X Y z) → i < f → GG p l e ({ frames := 2, cells := 0, slots := 0, locals := 43 } : Room) s m args below meth c (MQ below (va_Qv (fun _ : Unit => True) (BC D A (fun _ : Unit => [(g, .inr (4, [.ref ga, .ref gb, .ref gc, .int (nI ((tpS 16 2 M P ev (ev + 1)).2.2)), .int (nI ev), .int (bI kn)])), (ga, .inl (E 0, 4096, .inl (aN TS))), (gb, .inl (E 0, 4096, .inl (aN ((tpS 16 2 M P ev (ev + 1)).1)))), (gc, .inl (E 0, 924, .inl (aN ((tpS 16 2 M P ev (ev + 1)).2.1))))])) A) args s (({ frames := 2, cells := 0, slots := 0, locals := 43 } : Room)).cells (({ frames := 2, cells := 0, slots := 0, locals := 43 } : Room)).slots A) D A 2 0 0 10 [(0, .ref g), (1, .int (pI i))] [] [(g, .inr (4, [.ref ga, .ref gb, .ref gc, .int (nI z), .int (nI ev), .int (bI kn)])), (ga, .inl (E 0, 4096, .inl (aN TS))), (gb, .inl (E 0, 4096, .inl (aN X))), (gc, .inl (E 0, 924, .inl (aN Y)))] := by
    intro f
    induction f with
    | zero => intro i X Y z hi hT hf; exact absurd hf (Nat.not_lt_zero _)
    | succ f ih =>
      intro i X Y z hi hT hf
      have ih10 := ih
      refine g_iload_n C d_Senses_markPreferred_10 rfl 1 rfl ?_
      refine g_if_ltP (tgt := 48) C (by omega) d_Senses_markPreferred_11 (by decide) (fun b0 => ?_) (fun z0 b0 => ?_)
      · skip
        exact g_vret C hrt hlk () (trivial) (by subst b0; obtain ⟨e1, e2, e3⟩ := TPS_e hT; rw [e1, e2, e3]) d_Senses_markPreferred_48
      · skip
        refine g_lv (lv' := [(0, .ref g), (1, .int (nI z0))]) (by rw [b0, pI_s]) ?_
        refine g_aload_n C d_Senses_markPreferred_14 rfl 0 rfl ?_
        refine g_iload_n C d_Senses_markPreferred_15 rfl 1 rfl ?_
        refine g_bipush (v := nI 16) C d_Senses_markPreferred_16 (by decide) ?_
        refine g_iV (rest := []) (wr := []) C (c_Se_hasMark l D E g ga gb gc TS X Y z ev kn z0 16 (by omega) (by decide)) rd_Senses_hasMark m_300 m_302 m_4 rfl rfl (Nat.le_of_ble_eq_true rfl) (Nat.le_of_ble_eq_true rfl) (Nat.le_of_ble_eq_true rfl) (Nat.le_of_ble_eq_true rfl) rfl rfl (Nat.le_of_ble_eq_true rfl) d_Senses_markPreferred_18 [0, 1, 2, 3] [] rfl (by decide) rfl (by decide) (by decide) (fun r18 _ (hr18 : r18 = bI (X z0 &&& 16 != 0)) => ?_)
        subst hr18
        refine g_cells (ws' := [(g, .inr (4, [.ref ga, .ref gb, .ref gc, .int (nI z), .int (nI ev), .int (bI kn)])), (ga, .inl (E 0, 4096, .inl (aN TS))), (gb, .inl (E 0, 4096, .inl (aN X))), (gc, .inl (E 0, 924, .inl (aN Y)))]) [0, 1, 2, 3] (by decide) rfl ?_
        refine g_if_eqB (tgt := 42) C d_Senses_markPreferred_21 (by decide) (fun b1 => ?_) (fun b1 => ?_)
        · skip
          refine g_iinc (lv' := [(1, .int (pI z0)), (0, .ref g)]) C d_Senses_markPreferred_42 1 rfl (pI_of _) (by decide) rfl ?_
          refine g_goto (tgt := 10) C d_Senses_markPreferred_45 (by decide) ?_
          refine g_perm [1, 0] rfl ?_
          exact ih10 z0 X Y z (by omega) (by subst b0; first | (have q := TPS_y hT hi b1 b2; simp only [b2, cond_true]; exact q) | (simp only [b2, cond_false]; exact TPS_n2 hT hi b2) | exact TPS_n1 hT hi b1) (by omega)
        · skip
          refine g_aload_n C d_Senses_markPreferred_24 rfl 0 rfl ?_
          refine g_iload_n C d_Senses_markPreferred_25 rfl 1 rfl ?_
          refine g_iV (rest := []) (wr := []) C (c_Se_isNewTop l D E g ga gb gc TS X Y z ev kn z0 (by omega) (TPS_cap hT hev) (fun q => by subst b0; exact TPS_room hT hev hi b1 q)) rd_Senses_isNewTop m_304 m_306 m_5 rfl rfl (Nat.le_of_ble_eq_true rfl) (Nat.le_of_ble_eq_true rfl) (Nat.le_of_ble_eq_true rfl) (Nat.le_of_ble_eq_true rfl) rfl rfl (Nat.le_of_ble_eq_true rfl) d_Senses_markPreferred_26 [0, 1, 2, 3] [] rfl (by decide) rfl (by decide) (by decide) (fun r26 _ (hr26 : r26 = bI (ntU Y z0 z)) => ?_)
          subst hr26
          refine g_cells (ws' := [(g, .inr (4, [.ref ga, .ref gb, .ref gc, .int (nI (bif ntU Y z0 z then z + 1 else z)), .int (nI ev), .int (bI kn)])), (ga, .inl (E 0, 4096, .inl (aN TS))), (gb, .inl (E 0, 4096, .inl (aN X))), (gc, .inl (E 0, 924, .inl (aN (bif ntU Y z0 z then va_up Y z z0 else Y))))]) [0, 1, 2, 3] (by decide) rfl ?_
          refine g_if_eqB (tgt := 42) C d_Senses_markPreferred_29 (by decide) (fun b2 => ?_) (fun b2 => ?_)
          · skip
            refine g_iinc (lv' := [(1, .int (pI z0)), (0, .ref g)]) C d_Senses_markPreferred_42 1 rfl (pI_of _) (by decide) rfl ?_
            refine g_goto (tgt := 10) C d_Senses_markPreferred_45 (by decide) ?_
            refine g_perm [1, 0] rfl ?_
            exact ih10 z0 X (bif ntU Y z0 z then va_up Y z z0 else Y) (bif ntU Y z0 z then z + 1 else z) (by omega) (by subst b0; first | (have q := TPS_y hT hi b1 b2; simp only [b2, cond_true]; exact q) | (simp only [b2, cond_false]; exact TPS_n2 hT hi b2) | exact TPS_n1 hT hi b1) (by omega)
          · skip
            refine g_aload_n C d_Senses_markPreferred_32 rfl 0 rfl ?_
            refine g_get C lay_Senses 0 rfl rfl 1 (by decide) m_79 rfl d_Senses_markPreferred_33 ?_
            refine g_iload_n C d_Senses_markPreferred_36 rfl 1 rfl ?_
            refine g_dup2 C d_Senses_markPreferred_37 rfl rfl ?_
            refine g_ialdN C 2 rfl (by omega) (by decide) d_Senses_markPreferred_38 ?_
            refine g_top (show (aN X) z0 = nI (X z0) from rfl) ?_
            refine g_iconst (v := nI 2) C d_Senses_markPreferred_39 (by decide) ?_
            refine g_iorN C d_Senses_markPreferred_40 ?_
            refine g_iastN (f' := aN (va_up X z0 ((X z0) ||| 2))) (ws' := [(g, .inr (4, [.ref ga, .ref gb, .ref gc, .int (nI (bif ntU Y z0 z then z + 1 else z)), .int (nI ev), .int (bI kn)])), (ga, .inl (E 0, 4096, .inl (aN TS))), (gb, .inl (E 0, 4096, .inl (aN (va_up X z0 ((X z0) ||| 2))))), (gc, .inl (E 0, 924, .inl (aN (bif ntU Y z0 z then va_up Y z z0 else Y))))]) C 2 rfl (by omega) (by decide) (aN_up _ _ _) rfl d_Senses_markPreferred_41 ?_
            refine g_iinc (lv' := [(1, .int (pI z0)), (0, .ref g)]) C d_Senses_markPreferred_42 1 rfl (pI_of _) (by decide) rfl ?_
            refine g_goto (tgt := 10) C d_Senses_markPreferred_45 (by decide) ?_
            refine g_perm [1, 0] rfl ?_
            exact ih10 z0 (va_up X z0 ((X z0) ||| 2)) (bif ntU Y z0 z then va_up Y z z0 else Y) (bif ntU Y z0 z then z + 1 else z) (by omega) (by subst b0; first | (have q := TPS_y hT hi b1 b2; simp only [b2, cond_true]; exact q) | (simp only [b2, cond_false]; exact TPS_n2 hT hi b2) | exact TPS_n1 hT hi b1) (by omega)
  refine g_lv (lv' := [(1, .int (pI (ev + 1))), (0, .ref g)]) (by rw [pI_s]) ?_
  refine g_perm [1, 0] rfl ?_
  exact loop10 ((ev + 1) + 1) (ev + 1) M P 0 (Nat.le_refl _) (TPS_0) (Nat.lt_succ_self _)

set_option maxHeartbeats 4000000 in
set_option maxRecDepth 100000 in
theorem c_Se_markRanges (l : Launch) (D : va_G) (E : Nat → ClassId) (g : Nat) (ga : Nat) (gb : Nat) (gc : Nat) (TS : Nat → Nat) (M : Nat → Nat) (P : Nat → Nat) (tc : Nat) (ev : Nat) (kn : Bool) (hev : ev < 4096) (hTS : ∀ a, TS a < 4096) : MV l D E y_Senses_markRanges (.code y_Senses_markRanges k_Senses_markRanges 2 none) ({ frames := 2, cells := 0, slots := 0, locals := 43 } : Room) [.ref g] [(g, .inr (4, [.ref ga, .ref gb, .ref gc, .int (nI tc), .int (nI ev), .int (bI kn)])), (ga, .inl (E 0, 4096, .inl (aN TS))), (gb, .inl (E 0, 4096, .inl (aN M))), (gc, .inl (E 0, 924, .inl (aN P)))] (fun _ : Unit => True) (fun _ : Unit => [(g, .inr (4, [.ref ga, .ref gb, .ref gc, .int (nI ((tpS 64 128 (rgS TS M (ev + 1)) P ev (ev + 1)).2.2)), .int (nI ev), .int (bI kn)])), (ga, .inl (E 0, 4096, .inl (aN TS))), (gb, .inl (E 0, 4096, .inl (aN ((tpS 64 128 (rgS TS M (ev + 1)) P ev (ev + 1)).1)))), (gc, .inl (E 0, 924, .inl (aN ((tpS 64 128 (rgS TS M (ev + 1)) P ev (ev + 1)).2.1))))]) := by
  refine MV.of (by decide) (Nat.le_of_ble_eq_true rfl) ?_
  intro p e s m args below meth c A C hrt hlk hnm
  refine g_lv (lv' := [(0, .ref g)]) rfl ?_
  refine g_iconst (v := nI 0) C d_Senses_markRanges_0 (by decide) ?_
  refine g_istore_n (lv' := [(1, .int (nI 0)), (0, .ref g)]) C d_Senses_markRanges_1 rfl (by decide) rfl ?_
  have loop2 : ∀ (f : Nat) (a : Nat) (V : Nat → Nat), (a ≤ ev + 1) → (V = rgS TS M a) → ev + 1 - a < f → GG p l e ({ frames := 2, cells := 0, slots := 0, locals := 43 } : Room) s m args below meth c (MQ below (va_Qv (fun _ : Unit => True) (BC D A (fun _ : Unit => [(g, .inr (4, [.ref ga, .ref gb, .ref gc, .int (nI ((tpS 64 128 (rgS TS M (ev + 1)) P ev (ev + 1)).2.2)), .int (nI ev), .int (bI kn)])), (ga, .inl (E 0, 4096, .inl (aN TS))), (gb, .inl (E 0, 4096, .inl (aN ((tpS 64 128 (rgS TS M (ev + 1)) P ev (ev + 1)).1)))), (gc, .inl (E 0, 924, .inl (aN ((tpS 64 128 (rgS TS M (ev + 1)) P ev (ev + 1)).2.1))))])) A) args s (({ frames := 2, cells := 0, slots := 0, locals := 43 } : Room)).cells (({ frames := 2, cells := 0, slots := 0, locals := 43 } : Room)).slots A) D A 2 0 0 2 [(0, .ref g), (1, .int (nI a))] [] [(g, .inr (4, [.ref ga, .ref gb, .ref gc, .int (nI tc), .int (nI ev), .int (bI kn)])), (ga, .inl (E 0, 4096, .inl (aN TS))), (gb, .inl (E 0, 4096, .inl (aN V))), (gc, .inl (E 0, 924, .inl (aN P)))] := by
    intro f
    induction f with
    | zero => intro a V ha hV hf; exact absurd hf (Nat.not_lt_zero _)
    | succ f ih =>
      intro a V ha hV hf
      have ih2 := ih
      refine g_iload_n C d_Senses_markRanges_2 rfl 1 rfl ?_
      refine g_aload_n C d_Senses_markRanges_3 rfl 0 rfl ?_
      refine g_get C lay_Senses 0 rfl rfl 4 (by decide) m_82 rfl d_Senses_markRanges_4 ?_
      refine g_icmp_gtN (tgt := 44) C (by omega) (by omega) d_Senses_markRanges_7 (by decide) (fun b0 => ?_) (fun b0 => ?_)
      · skip
        refine g_aload_n C d_Senses_markRanges_44 rfl 0 rfl ?_
        refine g_iconst (v := nI 0) C d_Senses_markRanges_45 (by decide) ?_
        refine g_put (ws' := [(g, .inr (4, [.ref ga, .ref gb, .ref gc, .int (nI 0), .int (nI ev), .int (bI kn)])), (ga, .inl (E 0, 4096, .inl (aN TS))), (gb, .inl (E 0, 4096, .inl (aN V))), (gc, .inl (E 0, 924, .inl (aN P)))]) C lay_Senses ty_Senses nm_Senses 0 rfl rfl 3 (by decide) m_81 rfl rfl rfl (Nat.le_of_ble_eq_true rfl) rfl d_Senses_markRanges_46 ?_
        refine g_aload_n C d_Senses_markRanges_49 rfl 0 rfl ?_
        refine g_get C lay_Senses 0 rfl rfl 4 (by decide) m_82 rfl d_Senses_markRanges_50 ?_
        refine g_istore_n (lv' := [(1, .int (nI ev)), (0, .ref g)]) C d_Senses_markRanges_53 rfl (by decide) rfl ?_
        have loop54 : ∀ (f : Nat) (i : Nat) (X : Nat → Nat) (Y : Nat → Nat) (z : Nat), (i ≤ ev + 1) → (TPS 64 128 (rgS TS M (ev + 1)) P ev i X Y z) → i < f → GG p l e ({ frames := 2, cells := 0, slots := 0, locals := 43 } : Room) s m args below meth c (MQ below (va_Qv (fun _ : Unit => True) (BC D A (fun _ : Unit => [(g, .inr (4, [.ref ga, .ref gb, .ref gc, .int (nI ((tpS 64 128 (rgS TS M (ev + 1)) P ev (ev + 1)).2.2)), .int (nI ev), .int (bI kn)])), (ga, .inl (E 0, 4096, .inl (aN TS))), (gb, .inl (E 0, 4096, .inl (aN ((tpS 64 128 (rgS TS M (ev + 1)) P ev (ev + 1)).1)))), (gc, .inl (E 0, 924, .inl (aN ((tpS 64 128 (rgS TS M (ev + 1)) P ev (ev + 1)).2.1))))])) A) args s (({ frames := 2, cells := 0, slots := 0, locals := 43 } : Room)).cells (({ frames := 2, cells := 0, slots := 0, locals := 43 } : Room)).slots A) D A 2 0 0 54 [(0, .ref g), (1, .int (pI i))] [] [(g, .inr (4, [.ref ga, .ref gb, .ref gc, .int (nI z), .int (nI ev), .int (bI kn)])), (ga, .inl (E 0, 4096, .inl (aN TS))), (gb, .inl (E 0, 4096, .inl (aN X))), (gc, .inl (E 0, 924, .inl (aN Y)))] := by
          intro f
          induction f with
          | zero => intro i X Y z hi hT hf; exact absurd hf (Nat.not_lt_zero _)
          | succ f ih =>
            intro i X Y z hi hT hf
            have ih54 := ih
            refine g_iload_n C d_Senses_markRanges_54 rfl 1 rfl ?_
            refine g_if_ltP (tgt := 94) C (by omega) d_Senses_markRanges_55 (by decide) (fun b2 => ?_) (fun z2 b2 => ?_)
            · skip
              exact g_vret C hrt hlk () (trivial) (by subst b2; obtain ⟨e1, e2, e3⟩ := TPS_e hT; rw [e1, e2, e3]) d_Senses_markRanges_94
            · skip
              refine g_lv (lv' := [(0, .ref g), (1, .int (nI z2))]) (by rw [b2, pI_s]) ?_
              refine g_aload_n C d_Senses_markRanges_58 rfl 0 rfl ?_
              refine g_iload_n C d_Senses_markRanges_59 rfl 1 rfl ?_
              refine g_bipush (v := nI 64) C d_Senses_markRanges_60 (by decide) ?_
              refine g_iV (rest := []) (wr := []) C (c_Se_hasMark l D E g ga gb gc TS X Y z ev kn z2 64 (by omega) (by decide)) rd_Senses_hasMark m_300 m_302 m_4 rfl rfl (Nat.le_of_ble_eq_true rfl) (Nat.le_of_ble_eq_true rfl) (Nat.le_of_ble_eq_true rfl) (Nat.le_of_ble_eq_true rfl) rfl rfl (Nat.le_of_ble_eq_true rfl) d_Senses_markRanges_62 [0, 1, 2, 3] [] rfl (by decide) rfl (by decide) (by decide) (fun r62 _ (hr62 : r62 = bI (X z2 &&& 64 != 0)) => ?_)
              subst hr62
              refine g_cells (ws' := [(g, .inr (4, [.ref ga, .ref gb, .ref gc, .int (nI z), .int (nI ev), .int (bI kn)])), (ga, .inl (E 0, 4096, .inl (aN TS))), (gb, .inl (E 0, 4096, .inl (aN X))), (gc, .inl (E 0, 924, .inl (aN Y)))]) [0, 1, 2, 3] (by decide) rfl ?_
              refine g_if_eqB (tgt := 88) C d_Senses_markRanges_65 (by decide) (fun b3 => ?_) (fun b3 => ?_)
              · skip
                refine g_iinc (lv' := [(1, .int (pI z2)), (0, .ref g)]) C d_Senses_markRanges_88 1 rfl (pI_of _) (by decide) rfl ?_
                refine g_goto (tgt := 54) C d_Senses_markRanges_91 (by decide) ?_
                refine g_perm [1, 0] rfl ?_
                exact ih54 z2 X Y z (by omega) (by subst b2; first | (have q := TPS_y hT hi b3 b4; simp only [b4, cond_true]; exact q) | (simp only [b4, cond_false]; exact TPS_n2 hT hi b4) | exact TPS_n1 hT hi b3) (by omega)
              · skip
                refine g_aload_n C d_Senses_markRanges_68 rfl 0 rfl ?_
                refine g_iload_n C d_Senses_markRanges_69 rfl 1 rfl ?_
                refine g_iV (rest := []) (wr := []) C (c_Se_isNewTop l D E g ga gb gc TS X Y z ev kn z2 (by omega) (TPS_cap hT hev) (fun q => by subst b2; exact TPS_room hT hev hi b3 q)) rd_Senses_isNewTop m_304 m_306 m_5 rfl rfl (Nat.le_of_ble_eq_true rfl) (Nat.le_of_ble_eq_true rfl) (Nat.le_of_ble_eq_true rfl) (Nat.le_of_ble_eq_true rfl) rfl rfl (Nat.le_of_ble_eq_true rfl) d_Senses_markRanges_70 [0, 1, 2, 3] [] rfl (by decide) rfl (by decide) (by decide) (fun r70 _ (hr70 : r70 = bI (ntU Y z2 z)) => ?_)
                subst hr70
                refine g_cells (ws' := [(g, .inr (4, [.ref ga, .ref gb, .ref gc, .int (nI (bif ntU Y z2 z then z + 1 else z)), .int (nI ev), .int (bI kn)])), (ga, .inl (E 0, 4096, .inl (aN TS))), (gb, .inl (E 0, 4096, .inl (aN X))), (gc, .inl (E 0, 924, .inl (aN (bif ntU Y z2 z then va_up Y z z2 else Y))))]) [0, 1, 2, 3] (by decide) rfl ?_
                refine g_if_eqB (tgt := 88) C d_Senses_markRanges_73 (by decide) (fun b4 => ?_) (fun b4 => ?_)
                · skip
                  refine g_iinc (lv' := [(1, .int (pI z2)), (0, .ref g)]) C d_Senses_markRanges_88 1 rfl (pI_of _) (by decide) rfl ?_
                  refine g_goto (tgt := 54) C d_Senses_markRanges_91 (by decide) ?_
                  refine g_perm [1, 0] rfl ?_
                  exact ih54 z2 X (bif ntU Y z2 z then va_up Y z z2 else Y) (bif ntU Y z2 z then z + 1 else z) (by omega) (by subst b2; first | (have q := TPS_y hT hi b3 b4; simp only [b4, cond_true]; exact q) | (simp only [b4, cond_false]; exact TPS_n2 hT hi b4) | exact TPS_n1 hT hi b3) (by omega)
                · skip
                  refine g_aload_n C d_Senses_markRanges_76 rfl 0 rfl ?_
                  refine g_get C lay_Senses 0 rfl rfl 1 (by decide) m_79 rfl d_Senses_markRanges_77 ?_
                  refine g_iload_n C d_Senses_markRanges_80 rfl 1 rfl ?_
                  refine g_dup2 C d_Senses_markRanges_81 rfl rfl ?_
                  refine g_ialdN C 2 rfl (by omega) (by decide) d_Senses_markRanges_82 ?_
                  refine g_top (show (aN X) z2 = nI (X z2) from rfl) ?_
                  refine g_sipush (v := nI 128) C d_Senses_markRanges_83 (by decide) ?_
                  refine g_iorN C d_Senses_markRanges_86 ?_
                  refine g_iastN (f' := aN (va_up X z2 ((X z2) ||| 128))) (ws' := [(g, .inr (4, [.ref ga, .ref gb, .ref gc, .int (nI (bif ntU Y z2 z then z + 1 else z)), .int (nI ev), .int (bI kn)])), (ga, .inl (E 0, 4096, .inl (aN TS))), (gb, .inl (E 0, 4096, .inl (aN (va_up X z2 ((X z2) ||| 128))))), (gc, .inl (E 0, 924, .inl (aN (bif ntU Y z2 z then va_up Y z z2 else Y))))]) C 2 rfl (by omega) (by decide) (aN_up _ _ _) rfl d_Senses_markRanges_87 ?_
                  refine g_iinc (lv' := [(1, .int (pI z2)), (0, .ref g)]) C d_Senses_markRanges_88 1 rfl (pI_of _) (by decide) rfl ?_
                  refine g_goto (tgt := 54) C d_Senses_markRanges_91 (by decide) ?_
                  refine g_perm [1, 0] rfl ?_
                  exact ih54 z2 (va_up X z2 ((X z2) ||| 128)) (bif ntU Y z2 z then va_up Y z z2 else Y) (bif ntU Y z2 z then z + 1 else z) (by omega) (by subst b2; first | (have q := TPS_y hT hi b3 b4; simp only [b4, cond_true]; exact q) | (simp only [b4, cond_false]; exact TPS_n2 hT hi b4) | exact TPS_n1 hT hi b3) (by omega)
        refine g_lv (lv' := [(1, .int (pI (ev + 1))), (0, .ref g)]) (by rw [pI_s]) ?_
        refine g_perm [1, 0] rfl ?_
        exact loop54 ((ev + 1) + 1) (ev + 1) V P 0 (Nat.le_refl _) (by rw [hV, show a = ev + 1 by omega]; exact TPS_0) (Nat.lt_succ_self _)
      · skip
        refine g_aload_n C d_Senses_markRanges_10 rfl 0 rfl ?_
        refine g_iload_n C d_Senses_markRanges_11 rfl 1 rfl ?_
        refine g_bipush (v := nI 32) C d_Senses_markRanges_12 (by decide) ?_
        refine g_iV (rest := []) (wr := []) C (c_Se_hasMark l D E g ga gb gc TS V P tc ev kn a 32 (by omega) (by decide)) rd_Senses_hasMark m_300 m_302 m_4 rfl rfl (Nat.le_of_ble_eq_true rfl) (Nat.le_of_ble_eq_true rfl) (Nat.le_of_ble_eq_true rfl) (Nat.le_of_ble_eq_true rfl) rfl rfl (Nat.le_of_ble_eq_true rfl) d_Senses_markRanges_14 [0, 1, 2, 3] [] rfl (by decide) rfl (by decide) (by decide) (fun r14 _ (hr14 : r14 = bI (V a &&& 32 != 0)) => ?_)
        subst hr14
        refine g_cells (ws' := [(g, .inr (4, [.ref ga, .ref gb, .ref gc, .int (nI tc), .int (nI ev), .int (bI kn)])), (ga, .inl (E 0, 4096, .inl (aN TS))), (gb, .inl (E 0, 4096, .inl (aN V))), (gc, .inl (E 0, 924, .inl (aN P)))]) [0, 1, 2, 3] (by decide) rfl ?_
        refine g_if_eqB (tgt := 38) C d_Senses_markRanges_17 (by decide) (fun b1 => ?_) (fun b1 => ?_)
        · skip
          refine g_iinc (lv' := [(1, .int (nI (a + 1))), (0, .ref g)]) C d_Senses_markRanges_38 1 rfl (nI_1 _) (by decide) rfl ?_
          refine g_goto (tgt := 2) C d_Senses_markRanges_41 (by decide) ?_
          refine g_perm [1, 0] rfl ?_
          exact ih2 (a + 1) V (by omega) (by simp only [rgS, ← hV, b1]; rfl) (by omega)
        · skip
          refine g_aload_n C d_Senses_markRanges_20 rfl 0 rfl ?_
          refine g_get C lay_Senses 0 rfl rfl 1 (by decide) m_79 rfl d_Senses_markRanges_21 ?_
          refine g_iload_n C d_Senses_markRanges_24 rfl 1 rfl ?_
          refine g_aload_n C d_Senses_markRanges_25 rfl 0 rfl ?_
          refine g_get C lay_Senses 0 rfl rfl 0 (by decide) m_78 rfl d_Senses_markRanges_26 ?_
          refine g_iload_n C d_Senses_markRanges_29 rfl 1 rfl ?_
          refine g_ialdN C 1 rfl (by omega) (by decide) d_Senses_markRanges_30 ?_
          refine g_top (show (aN TS) a = nI (TS a) from rfl) ?_
          refine g_iorN C d_Senses_markRanges_31 ?_
          refine g_dup2 C d_Senses_markRanges_32 rfl rfl ?_
          refine g_ialdN C 2 rfl (orl (by omega) (hTS _)) (by decide) d_Senses_markRanges_33 ?_
          refine g_top (show (aN V) (a ||| (TS a)) = nI (V (a ||| (TS a))) from rfl) ?_
          refine g_bipush (v := nI 64) C d_Senses_markRanges_34 (by decide) ?_
          refine g_iorN C d_Senses_markRanges_36 ?_
          refine g_iastN (f' := aN (va_up V (a ||| (TS a)) ((V (a ||| (TS a))) ||| 64))) (ws' := [(g, .inr (4, [.ref ga, .ref gb, .ref gc, .int (nI tc), .int (nI ev), .int (bI kn)])), (ga, .inl (E 0, 4096, .inl (aN TS))), (gb, .inl (E 0, 4096, .inl (aN (va_up V (a ||| (TS a)) ((V (a ||| (TS a))) ||| 64))))), (gc, .inl (E 0, 924, .inl (aN P)))]) C 2 rfl (orl (by omega) (hTS _)) (by decide) (aN_up _ _ _) rfl d_Senses_markRanges_37 ?_
          refine g_iinc (lv' := [(1, .int (nI (a + 1))), (0, .ref g)]) C d_Senses_markRanges_38 1 rfl (nI_1 _) (by decide) rfl ?_
          refine g_goto (tgt := 2) C d_Senses_markRanges_41 (by decide) ?_
          refine g_perm [1, 0] rfl ?_
          exact ih2 (a + 1) (va_up V (a ||| (TS a)) ((V (a ||| (TS a))) ||| 64)) (by omega) (by simp only [rgS, ← hV, b1]; rfl) (by omega)
  refine g_perm [1, 0] rfl ?_
  exact loop2 (ev + 1 - 0 + 1) 0 M (Nat.zero_le _) (rfl) (Nat.lt_succ_self _)

set_option maxHeartbeats 4000000 in
set_option maxRecDepth 100000 in
theorem c_Se_markStage (l : Launch) (D : va_G) (E : Nat → ClassId) (g : Nat) (ga : Nat) (gb : Nat) (gc : Nat) (TS : Nat → Nat) (M : Nat → Nat) (P : Nat → Nat) (tc : Nat) (ev : Nat) (kn : Bool) (hev : ev < 4096) (hTS : ∀ a, TS a < 4096) : MV l D E y_Senses_markStage (.code y_Senses_markStage k_Senses_markStage 2 none) ({ frames := 1, cells := 0, slots := 0, locals := 22 } : Room) [.ref g] [(g, .inr (4, [.ref ga, .ref gb, .ref gc, .int (nI tc), .int (nI ev), .int (bI kn)])), (ga, .inl (E 0, 4096, .inl (aN TS))), (gb, .inl (E 0, 4096, .inl (aN M))), (gc, .inl (E 0, 924, .inl (aN P)))] (fun _ : Unit => True) (fun _ : Unit => [(g, .inr (4, [.ref ga, .ref gb, .ref gc, .int (nI tc), .int (nI ev), .int (bI kn)])), (ga, .inl (E 0, 4096, .inl (aN TS))), (gb, .inl (E 0, 4096, .inl (aN (stS TS M (ev + 1))))), (gc, .inl (E 0, 924, .inl (aN P)))]) := by
  refine MV.of (by decide) (Nat.le_of_ble_eq_true rfl) ?_
  intro p e s m args below meth c A C hrt hlk hnm
  refine g_lv (lv' := [(0, .ref g)]) rfl ?_
  refine g_iconst (v := nI 0) C d_Senses_markStage_0 (by decide) ?_
  refine g_istore_n (lv' := [(1, .int (nI 0)), (0, .ref g)]) C d_Senses_markStage_1 rfl (by decide) rfl ?_
  have loop2 : ∀ (f : Nat) (a : Nat) (V : Nat → Nat), (a ≤ ev + 1) → (V = stS TS M a) → ev + 1 - a < f → GG p l e ({ frames := 1, cells := 0, slots := 0, locals := 22 } : Room) s m args below meth c (MQ below (va_Qv (fun _ : Unit => True) (BC D A (fun _ : Unit => [(g, .inr (4, [.ref ga, .ref gb, .ref gc, .int (nI tc), .int (nI ev), .int (bI kn)])), (ga, .inl (E 0, 4096, .inl (aN TS))), (gb, .inl (E 0, 4096, .inl (aN (stS TS M (ev + 1))))), (gc, .inl (E 0, 924, .inl (aN P)))])) A) args s (({ frames := 1, cells := 0, slots := 0, locals := 22 } : Room)).cells (({ frames := 1, cells := 0, slots := 0, locals := 22 } : Room)).slots A) D A 2 0 0 2 [(0, .ref g), (1, .int (nI a))] [] [(g, .inr (4, [.ref ga, .ref gb, .ref gc, .int (nI tc), .int (nI ev), .int (bI kn)])), (ga, .inl (E 0, 4096, .inl (aN TS))), (gb, .inl (E 0, 4096, .inl (aN V))), (gc, .inl (E 0, 924, .inl (aN P)))] := by
    intro f
    induction f with
    | zero => intro a V ha hV hf; exact absurd hf (Nat.not_lt_zero _)
    | succ f ih =>
      intro a V ha hV hf
      have ih2 := ih
      refine g_iload_n C d_Senses_markStage_2 rfl 1 rfl ?_
      refine g_aload_n C d_Senses_markStage_3 rfl 0 rfl ?_
      refine g_get C lay_Senses 0 rfl rfl 4 (by decide) m_82 rfl d_Senses_markStage_4 ?_
      refine g_icmp_gtN (tgt := 55) C (by omega) (by omega) d_Senses_markStage_7 (by decide) (fun b0 => ?_) (fun b0 => ?_)
      · skip
        exact g_vret C hrt hlk () (trivial) (by rw [hV, show a = ev + 1 by omega]) d_Senses_markStage_55
      · skip
        refine g_aload_n C d_Senses_markStage_10 rfl 0 rfl ?_
        refine g_iload_n C d_Senses_markStage_11 rfl 1 rfl ?_
        refine g_bipush (v := nI 32) C d_Senses_markStage_12 (by decide) ?_
        refine g_iV (rest := []) (wr := []) C (c_Se_hasMark l D E g ga gb gc TS V P tc ev kn a 32 (by omega) (by decide)) rd_Senses_hasMark m_300 m_302 m_4 rfl rfl (Nat.le_of_ble_eq_true rfl) (Nat.le_of_ble_eq_true rfl) (Nat.le_of_ble_eq_true rfl) (Nat.le_of_ble_eq_true rfl) rfl rfl (Nat.le_of_ble_eq_true rfl) d_Senses_markStage_14 [0, 1, 2, 3] [] rfl (by decide) rfl (by decide) (by decide) (fun r14 _ (hr14 : r14 = bI (V a &&& 32 != 0)) => ?_)
        subst hr14
        refine g_cells (ws' := [(g, .inr (4, [.ref ga, .ref gb, .ref gc, .int (nI tc), .int (nI ev), .int (bI kn)])), (ga, .inl (E 0, 4096, .inl (aN TS))), (gb, .inl (E 0, 4096, .inl (aN V))), (gc, .inl (E 0, 924, .inl (aN P)))]) [0, 1, 2, 3] (by decide) rfl ?_
        refine g_if_eqB (tgt := 49) C d_Senses_markStage_17 (by decide) (fun b1 => ?_) (fun b1 => ?_)
        · skip
          refine g_iinc (lv' := [(1, .int (nI (a + 1))), (0, .ref g)]) C d_Senses_markStage_49 1 rfl (nI_1 _) (by decide) rfl ?_
          refine g_goto (tgt := 2) C d_Senses_markStage_52 (by decide) ?_
          refine g_perm [1, 0] rfl ?_
          exact ih2 (a + 1) V (by omega) (by first | (simp only [stS, ← hV, b1, b2]; rfl) | (simp only [stS, ← hV, b1]; rfl)) (by omega)
        · skip
          refine g_aload_n C d_Senses_markStage_20 rfl 0 rfl ?_
          refine g_iload_n C d_Senses_markStage_21 rfl 1 rfl ?_
          refine g_aload_n C d_Senses_markStage_22 rfl 0 rfl ?_
          refine g_get C lay_Senses 0 rfl rfl 0 (by decide) m_78 rfl d_Senses_markStage_23 ?_
          refine g_iload_n C d_Senses_markStage_26 rfl 1 rfl ?_
          refine g_ialdN C 1 rfl (by omega) (by decide) d_Senses_markStage_27 ?_
          refine g_top (show (aN TS) a = nI (TS a) from rfl) ?_
          refine g_iorN C d_Senses_markStage_28 ?_
          refine g_sipush (v := nI 128) C d_Senses_markStage_29 (by decide) ?_
          refine g_iV (rest := []) (wr := []) C (c_Se_hasMark l D E g ga gb gc TS V P tc ev kn (a ||| (TS a)) 128 (orl (by omega) (hTS _)) (by decide)) rd_Senses_hasMark m_300 m_302 m_4 rfl rfl (Nat.le_of_ble_eq_true rfl) (Nat.le_of_ble_eq_true rfl) (Nat.le_of_ble_eq_true rfl) (Nat.le_of_ble_eq_true rfl) rfl rfl (Nat.le_of_ble_eq_true rfl) d_Senses_markStage_32 [0, 1, 2, 3] [] rfl (by decide) rfl (by decide) (by decide) (fun r32 _ (hr32 : r32 = bI (V (a ||| (TS a)) &&& 128 != 0)) => ?_)
          subst hr32
          refine g_cells (ws' := [(g, .inr (4, [.ref ga, .ref gb, .ref gc, .int (nI tc), .int (nI ev), .int (bI kn)])), (ga, .inl (E 0, 4096, .inl (aN TS))), (gb, .inl (E 0, 4096, .inl (aN V))), (gc, .inl (E 0, 924, .inl (aN P)))]) [0, 1, 2, 3] (by decide) rfl ?_
          refine g_if_eqB (tgt := 49) C d_Senses_markStage_35 (by decide) (fun b2 => ?_) (fun b2 => ?_)
          · skip
            refine g_iinc (lv' := [(1, .int (nI (a + 1))), (0, .ref g)]) C d_Senses_markStage_49 1 rfl (nI_1 _) (by decide) rfl ?_
            refine g_goto (tgt := 2) C d_Senses_markStage_52 (by decide) ?_
            refine g_perm [1, 0] rfl ?_
            exact ih2 (a + 1) V (by omega) (by first | (simp only [stS, ← hV, b1, b2]; rfl) | (simp only [stS, ← hV, b1]; rfl)) (by omega)
          · skip
            refine g_aload_n C d_Senses_markStage_38 rfl 0 rfl ?_
            refine g_get C lay_Senses 0 rfl rfl 1 (by decide) m_79 rfl d_Senses_markStage_39 ?_
            refine g_iload_n C d_Senses_markStage_42 rfl 1 rfl ?_
            refine g_dup2 C d_Senses_markStage_43 rfl rfl ?_
            refine g_ialdN C 2 rfl (by omega) (by decide) d_Senses_markStage_44 ?_
            refine g_top (show (aN V) a = nI (V a) from rfl) ?_
            refine g_bipush (v := nI 8) C d_Senses_markStage_45 (by decide) ?_
            refine g_iorN C d_Senses_markStage_47 ?_
            refine g_iastN (f' := aN (va_up V a ((V a) ||| 8))) (ws' := [(g, .inr (4, [.ref ga, .ref gb, .ref gc, .int (nI tc), .int (nI ev), .int (bI kn)])), (ga, .inl (E 0, 4096, .inl (aN TS))), (gb, .inl (E 0, 4096, .inl (aN (va_up V a ((V a) ||| 8))))), (gc, .inl (E 0, 924, .inl (aN P)))]) C 2 rfl (by omega) (by decide) (aN_up _ _ _) rfl d_Senses_markStage_48 ?_
            refine g_iinc (lv' := [(1, .int (nI (a + 1))), (0, .ref g)]) C d_Senses_markStage_49 1 rfl (nI_1 _) (by decide) rfl ?_
            refine g_goto (tgt := 2) C d_Senses_markStage_52 (by decide) ?_
            refine g_perm [1, 0] rfl ?_
            exact ih2 (a + 1) (va_up V a ((V a) ||| 8)) (by omega) (by first | (simp only [stS, ← hV, b1, b2]; rfl) | (simp only [stS, ← hV, b1]; rfl)) (by omega)
  refine g_perm [1, 0] rfl ?_
  exact loop2 (ev + 1 - 0 + 1) 0 M (Nat.zero_le _) (rfl) (Nat.lt_succ_self _)

set_option maxHeartbeats 4000000 in
set_option maxRecDepth 100000 in
theorem c_Se_learn (l : Launch) (D : va_G) (E : Nat → ClassId) (g : Nat) (ga : Nat) (gb : Nat) (gc : Nat) (TS : Nat → Nat) (M : Nat → Nat) (P : Nat → Nat) (tc : Nat) (ev : Nat) (kn : Bool) (h : Nat) (t : Nat) (u : Nat) (n : Nat) (T : Nat → Nat) (U : Nat → Nat) (hn : n ≤ 12) (hT : ∀ a, T a < 4096) (hTS : ∀ a, TS a < 4096) (hdu : n < 13) : MV l D E y_Senses_learn (.code y_Senses_learn k_Senses_learn 3 none) ({ frames := 3, cells := 0, slots := 0, locals := 67 } : Room) [.ref g, .ref h] [(g, .inr (4, [.ref ga, .ref gb, .ref gc, .int (nI tc), .int (nI ev), .int (bI kn)])), (ga, .inl (E 0, 4096, .inl (aN TS))), (gb, .inl (E 0, 4096, .inl (aN M))), (gc, .inl (E 0, 924, .inl (aN P))), (h, .inr (6, [.ref t, .ref u, .int (nI n)])), (t, .inl (E 0, 12, .inl (aN T))), (u, .inl (E 0, 12, .inl (aN U)))] (fun _ : Unit => True) (fun _ : Unit => [(g, .inr (4, [.ref ga, .ref gb, .ref gc, .int (nI (lnC kn T n TS M P tc)), .int (nI (lnEv kn n ev)), .int (bI true)])), (ga, .inl (E 0, 4096, .inl (aN (lnTS kn T n TS)))), (gb, .inl (E 0, 4096, .inl (aN (lnM kn T n TS M P)))), (gc, .inl (E 0, 924, .inl (aN (lnP kn T n TS M P)))), (h, .inr (6, [.ref t, .ref u, .int (nI n)])), (t, .inl (E 0, 12, .inl (aN T))), (u, .inl (E 0, 12, .inl (aN U)))]) := by
  refine MV.of (by decide) (Nat.le_of_ble_eq_true rfl) ?_
  intro p e s m args below meth c A C hrt hlk hnm
  refine g_lv (lv' := [(0, .ref g), (1, .ref h)]) rfl ?_
  refine g_aload_n C d_Senses_learn_0 rfl 0 rfl ?_
  refine g_get C lay_Senses 0 rfl rfl 5 (by decide) m_83 rfl d_Senses_learn_1 ?_
  refine g_if_eqB (tgt := 8) C d_Senses_learn_4 (by decide) (fun b0 => ?_) (fun b0 => ?_)
  · skip
    refine g_aload_n C d_Senses_learn_8 rfl 0 rfl ?_
    refine g_aload_n C d_Senses_learn_9 rfl 1 rfl ?_
    refine g_iV (rest := [.ref g]) (wr := [(g, .inr (4, [.ref ga, .ref gb, .ref gc, .int (nI tc), .int (nI ev), .int (bI kn)])), (ga, .inl (E 0, 4096, .inl (aN TS))), (gb, .inl (E 0, 4096, .inl (aN M))), (gc, .inl (E 0, 924, .inl (aN P)))]) C (c_Web_everything l D E h t u n T U (by omega)) rd_Web_everything m_281 m_260 m_261 rfl rfl (Nat.le_of_ble_eq_true rfl) (Nat.le_of_ble_eq_true rfl) (Nat.le_of_ble_eq_true rfl) (Nat.le_of_ble_eq_true rfl) rfl rfl (Nat.le_of_ble_eq_true rfl) d_Senses_learn_10 [4, 5, 6] [0, 1, 2, 3] rfl (by decide) rfl (by decide) (by decide) (fun r10 _ (hr10 : r10 = nI (2 ^ n - 1)) => ?_)
    subst hr10
    refine g_cells (ws' := [(g, .inr (4, [.ref ga, .ref gb, .ref gc, .int (nI tc), .int (nI ev), .int (bI kn)])), (ga, .inl (E 0, 4096, .inl (aN TS))), (gb, .inl (E 0, 4096, .inl (aN M))), (gc, .inl (E 0, 924, .inl (aN P))), (h, .inr (6, [.ref t, .ref u, .int (nI n)])), (t, .inl (E 0, 12, .inl (aN T))), (u, .inl (E 0, 12, .inl (aN U)))]) [0, 1, 2, 3, 4, 5, 6] (by decide) rfl ?_
    refine g_put (ws' := [(g, .inr (4, [.ref ga, .ref gb, .ref gc, .int (nI tc), .int (nI (2 ^ n - 1)), .int (bI kn)])), (ga, .inl (E 0, 4096, .inl (aN TS))), (gb, .inl (E 0, 4096, .inl (aN M))), (gc, .inl (E 0, 924, .inl (aN P))), (h, .inr (6, [.ref t, .ref u, .int (nI n)])), (t, .inl (E 0, 12, .inl (aN T))), (u, .inl (E 0, 12, .inl (aN U)))]) C lay_Senses ty_Senses nm_Senses 0 rfl rfl 4 (by decide) m_82 rfl rfl rfl (Nat.le_of_ble_eq_true rfl) rfl d_Senses_learn_13 ?_
    refine g_aload_n C d_Senses_learn_16 rfl 0 rfl ?_
    refine g_aload_n C d_Senses_learn_17 rfl 1 rfl ?_
    refine g_vV (rest := []) (wr := []) C (c_Se_fillTargets l D E g ga gb gc TS M P tc (2 ^ n - 1) kn h t u n T U (by omega) hT) rd_Senses_fillTargets m_282 m_284 m_1 rfl rfl (Nat.le_of_ble_eq_true rfl) (Nat.le_of_ble_eq_true rfl) (Nat.le_of_ble_eq_true rfl) (Nat.le_of_ble_eq_true rfl) rfl rfl (Nat.le_of_ble_eq_true rfl) d_Senses_learn_18 [0, 1, 2, 3, 4, 5, 6] [] rfl (by decide) rfl (by decide) (by decide) (fun _ _ => ?_)
    refine g_cells (ws' := [(g, .inr (4, [.ref ga, .ref gb, .ref gc, .int (nI tc), .int (nI (2 ^ n - 1)), .int (bI kn)])), (ga, .inl (E 0, 4096, .inl (aN (ovw TS (fun x => tgU T x n) (2 ^ n))))), (gb, .inl (E 0, 4096, .inl (aN M))), (gc, .inl (E 0, 924, .inl (aN P))), (h, .inr (6, [.ref t, .ref u, .int (nI n)])), (t, .inl (E 0, 12, .inl (aN T))), (u, .inl (E 0, 12, .inl (aN U)))]) [0, 1, 2, 3, 4, 5, 6] (by decide) rfl ?_
    refine g_iconst (v := nI 0) C d_Senses_learn_21 (by decide) ?_
    refine g_istore_n (lv' := [(2, .int (nI 0)), (0, .ref g), (1, .ref h)]) C d_Senses_learn_22 rfl (by decide) rfl ?_
    have loop23 : ∀ (f : Nat) (i : Nat) (X : Nat → Nat), (i ≤ 2 ^ n - 1 + 1) → (X = ovw M (ownM (ovw TS (fun x => tgU T x n) (2 ^ n)) (2 ^ n - 1)) i) → 2 ^ n - 1 + 1 - i < f → GG p l e ({ frames := 3, cells := 0, slots := 0, locals := 67 } : Room) s m args below meth c (MQ below (va_Qv (fun _ : Unit => True) (BC D A (fun _ : Unit => [(g, .inr (4, [.ref ga, .ref gb, .ref gc, .int (nI (lnC kn T n TS M P tc)), .int (nI (lnEv kn n ev)), .int (bI true)])), (ga, .inl (E 0, 4096, .inl (aN (lnTS kn T n TS)))), (gb, .inl (E 0, 4096, .inl (aN (lnM kn T n TS M P)))), (gc, .inl (E 0, 924, .inl (aN (lnP kn T n TS M P)))), (h, .inr (6, [.ref t, .ref u, .int (nI n)])), (t, .inl (E 0, 12, .inl (aN T))), (u, .inl (E 0, 12, .inl (aN U)))])) A) args s (({ frames := 3, cells := 0, slots := 0, locals := 67 } : Room)).cells (({ frames := 3, cells := 0, slots := 0, locals := 67 } : Room)).slots A) D A 3 0 0 23 [(0, .ref g), (1, .ref h), (2, .int (nI i))] [] [(g, .inr (4, [.ref ga, .ref gb, .ref gc, .int (nI tc), .int (nI (2 ^ n - 1)), .int (bI kn)])), (ga, .inl (E 0, 4096, .inl (aN (ovw TS (fun x => tgU T x n) (2 ^ n))))), (gb, .inl (E 0, 4096, .inl (aN X))), (gc, .inl (E 0, 924, .inl (aN P))), (h, .inr (6, [.ref t, .ref u, .int (nI n)])), (t, .inl (E 0, 12, .inl (aN T))), (u, .inl (E 0, 12, .inl (aN U)))] := by
      intro f
      induction f with
      | zero => intro i X hi hX hf; exact absurd hf (Nat.not_lt_zero _)
      | succ f ih =>
        intro i X hi hX hf
        have ih23 := ih
        refine g_iload_n C d_Senses_learn_23 rfl 2 rfl ?_
        refine g_aload_n C d_Senses_learn_24 rfl 0 rfl ?_
        refine g_get C lay_Senses 0 rfl rfl 4 (by decide) m_82 rfl d_Senses_learn_25 ?_
        refine g_icmp_gtN (tgt := 55) C (by have := p12_le hn; omega) (ev_lt hn) d_Senses_learn_28 (by decide) (fun b1 => ?_) (fun b1 => ?_)
        · skip
          refine g_aload_n C d_Senses_learn_55 rfl 0 rfl ?_
          refine g_vV (rest := []) (wr := [(h, .inr (6, [.ref t, .ref u, .int (nI n)])), (t, .inl (E 0, 12, .inl (aN T))), (u, .inl (E 0, 12, .inl (aN U)))]) C (c_Se_markPreferred l D E g ga gb gc (ovw TS (fun x => tgU T x n) (2 ^ n)) X P tc (2 ^ n - 1) kn (by have := p12_le hn; omega)) rd_Senses_markPreferred m_296 m_298 m_3 rfl rfl (Nat.le_of_ble_eq_true rfl) (Nat.le_of_ble_eq_true rfl) (Nat.le_of_ble_eq_true rfl) (Nat.le_of_ble_eq_true rfl) rfl rfl (Nat.le_of_ble_eq_true rfl) d_Senses_learn_56 [0, 1, 2, 3] [4, 5, 6] rfl (by decide) rfl (by decide) (by decide) (fun _ _ => ?_)
          refine g_cells (ws' := [(g, .inr (4, [.ref ga, .ref gb, .ref gc, .int (nI ((tpS 16 2 X P (2 ^ n - 1) ((2 ^ n - 1) + 1)).2.2)), .int (nI (2 ^ n - 1)), .int (bI kn)])), (ga, .inl (E 0, 4096, .inl (aN (ovw TS (fun x => tgU T x n) (2 ^ n))))), (gb, .inl (E 0, 4096, .inl (aN ((tpS 16 2 X P (2 ^ n - 1) ((2 ^ n - 1) + 1)).1)))), (gc, .inl (E 0, 924, .inl (aN ((tpS 16 2 X P (2 ^ n - 1) ((2 ^ n - 1) + 1)).2.1)))), (h, .inr (6, [.ref t, .ref u, .int (nI n)])), (t, .inl (E 0, 12, .inl (aN T))), (u, .inl (E 0, 12, .inl (aN U)))]) [3, 4, 5, 6, 0, 1, 2] (by decide) rfl ?_
          refine g_aload_n C d_Senses_learn_59 rfl 0 rfl ?_
          refine g_vV (rest := []) (wr := [(h, .inr (6, [.ref t, .ref u, .int (nI n)])), (t, .inl (E 0, 12, .inl (aN T))), (u, .inl (E 0, 12, .inl (aN U)))]) C (c_Se_markRanges l D E g ga gb gc (ovw TS (fun x => tgU T x n) (2 ^ n)) ((tpS 16 2 X P (2 ^ n - 1) ((2 ^ n - 1) + 1)).1) ((tpS 16 2 X P (2 ^ n - 1) ((2 ^ n - 1) + 1)).2.1) ((tpS 16 2 X P (2 ^ n - 1) ((2 ^ n - 1) + 1)).2.2) (2 ^ n - 1) kn (by have := p12_le hn; omega) (ovw_b hTS (fun x => tgU_lt hT _ _))) rd_Senses_markRanges m_308 m_310 m_6 rfl rfl (Nat.le_of_ble_eq_true rfl) (Nat.le_of_ble_eq_true rfl) (Nat.le_of_ble_eq_true rfl) (Nat.le_of_ble_eq_true rfl) rfl rfl (Nat.le_of_ble_eq_true rfl) d_Senses_learn_60 [0, 1, 2, 3] [4, 5, 6] rfl (by decide) rfl (by decide) (by decide) (fun _ _ => ?_)
          refine g_cells (ws' := [(g, .inr (4, [.ref ga, .ref gb, .ref gc, .int (nI ((tpS 64 128 (rgS (ovw TS (fun x => tgU T x n) (2 ^ n)) ((tpS 16 2 X P (2 ^ n - 1) ((2 ^ n - 1) + 1)).1) ((2 ^ n - 1) + 1)) ((tpS 16 2 X P (2 ^ n - 1) ((2 ^ n - 1) + 1)).2.1) (2 ^ n - 1) ((2 ^ n - 1) + 1)).2.2)), .int (nI (2 ^ n - 1)), .int (bI kn)])), (ga, .inl (E 0, 4096, .inl (aN (ovw TS (fun x => tgU T x n) (2 ^ n))))), (gb, .inl (E 0, 4096, .inl (aN ((tpS 64 128 (rgS (ovw TS (fun x => tgU T x n) (2 ^ n)) ((tpS 16 2 X P (2 ^ n - 1) ((2 ^ n - 1) + 1)).1) ((2 ^ n - 1) + 1)) ((tpS 16 2 X P (2 ^ n - 1) ((2 ^ n - 1) + 1)).2.1) (2 ^ n - 1) ((2 ^ n - 1) + 1)).1)))), (gc, .inl (E 0, 924, .inl (aN ((tpS 64 128 (rgS (ovw TS (fun x => tgU T x n) (2 ^ n)) ((tpS 16 2 X P (2 ^ n - 1) ((2 ^ n - 1) + 1)).1) ((2 ^ n - 1) + 1)) ((tpS 16 2 X P (2 ^ n - 1) ((2 ^ n - 1) + 1)).2.1) (2 ^ n - 1) ((2 ^ n - 1) + 1)).2.1)))), (h, .inr (6, [.ref t, .ref u, .int (nI n)])), (t, .inl (E 0, 12, .inl (aN T))), (u, .inl (E 0, 12, .inl (aN U)))]) [3, 4, 5, 6, 0, 1, 2] (by decide) rfl ?_
          refine g_aload_n C d_Senses_learn_63 rfl 0 rfl ?_
          refine g_vV (rest := []) (wr := [(h, .inr (6, [.ref t, .ref u, .int (nI n)])), (t, .inl (E 0, 12, .inl (aN T))), (u, .inl (E 0, 12, .inl (aN U)))]) C (c_Se_markStage l D E g ga gb gc (ovw TS (fun x => tgU T x n) (2 ^ n)) ((tpS 64 128 (rgS (ovw TS (fun x => tgU T x n) (2 ^ n)) ((tpS 16 2 X P (2 ^ n - 1) ((2 ^ n - 1) + 1)).1) ((2 ^ n - 1) + 1)) ((tpS 16 2 X P (2 ^ n - 1) ((2 ^ n - 1) + 1)).2.1) (2 ^ n - 1) ((2 ^ n - 1) + 1)).1) ((tpS 64 128 (rgS (ovw TS (fun x => tgU T x n) (2 ^ n)) ((tpS 16 2 X P (2 ^ n - 1) ((2 ^ n - 1) + 1)).1) ((2 ^ n - 1) + 1)) ((tpS 16 2 X P (2 ^ n - 1) ((2 ^ n - 1) + 1)).2.1) (2 ^ n - 1) ((2 ^ n - 1) + 1)).2.1) ((tpS 64 128 (rgS (ovw TS (fun x => tgU T x n) (2 ^ n)) ((tpS 16 2 X P (2 ^ n - 1) ((2 ^ n - 1) + 1)).1) ((2 ^ n - 1) + 1)) ((tpS 16 2 X P (2 ^ n - 1) ((2 ^ n - 1) + 1)).2.1) (2 ^ n - 1) ((2 ^ n - 1) + 1)).2.2) (2 ^ n - 1) kn (by have := p12_le hn; omega) (ovw_b hTS (fun x => tgU_lt hT _ _))) rd_Senses_markStage m_312 m_314 m_7 rfl rfl (Nat.le_of_ble_eq_true rfl) (Nat.le_of_ble_eq_true rfl) (Nat.le_of_ble_eq_true rfl) (Nat.le_of_ble_eq_true rfl) rfl rfl (Nat.le_of_ble_eq_true rfl) d_Senses_learn_64 [0, 1, 2, 3] [4, 5, 6] rfl (by decide) rfl (by decide) (by decide) (fun _ _ => ?_)
          refine g_cells (ws' := [(g, .inr (4, [.ref ga, .ref gb, .ref gc, .int (nI ((tpS 64 128 (rgS (ovw TS (fun x => tgU T x n) (2 ^ n)) ((tpS 16 2 X P (2 ^ n - 1) ((2 ^ n - 1) + 1)).1) ((2 ^ n - 1) + 1)) ((tpS 16 2 X P (2 ^ n - 1) ((2 ^ n - 1) + 1)).2.1) (2 ^ n - 1) ((2 ^ n - 1) + 1)).2.2)), .int (nI (2 ^ n - 1)), .int (bI kn)])), (ga, .inl (E 0, 4096, .inl (aN (ovw TS (fun x => tgU T x n) (2 ^ n))))), (gb, .inl (E 0, 4096, .inl (aN (stS (ovw TS (fun x => tgU T x n) (2 ^ n)) ((tpS 64 128 (rgS (ovw TS (fun x => tgU T x n) (2 ^ n)) ((tpS 16 2 X P (2 ^ n - 1) ((2 ^ n - 1) + 1)).1) ((2 ^ n - 1) + 1)) ((tpS 16 2 X P (2 ^ n - 1) ((2 ^ n - 1) + 1)).2.1) (2 ^ n - 1) ((2 ^ n - 1) + 1)).1) ((2 ^ n - 1) + 1))))), (gc, .inl (E 0, 924, .inl (aN ((tpS 64 128 (rgS (ovw TS (fun x => tgU T x n) (2 ^ n)) ((tpS 16 2 X P (2 ^ n - 1) ((2 ^ n - 1) + 1)).1) ((2 ^ n - 1) + 1)) ((tpS 16 2 X P (2 ^ n - 1) ((2 ^ n - 1) + 1)).2.1) (2 ^ n - 1) ((2 ^ n - 1) + 1)).2.1)))), (h, .inr (6, [.ref t, .ref u, .int (nI n)])), (t, .inl (E 0, 12, .inl (aN T))), (u, .inl (E 0, 12, .inl (aN U)))]) [3, 4, 5, 6, 0, 1, 2] (by decide) rfl ?_
          refine g_aload_n C d_Senses_learn_67 rfl 0 rfl ?_
          refine g_iconst (v := nI 1) C d_Senses_learn_68 (by decide) ?_
          refine g_top (show nI 1 = bI true from rfl) ?_
          refine g_put (ws' := [(g, .inr (4, [.ref ga, .ref gb, .ref gc, .int (nI ((tpS 64 128 (rgS (ovw TS (fun x => tgU T x n) (2 ^ n)) ((tpS 16 2 X P (2 ^ n - 1) ((2 ^ n - 1) + 1)).1) ((2 ^ n - 1) + 1)) ((tpS 16 2 X P (2 ^ n - 1) ((2 ^ n - 1) + 1)).2.1) (2 ^ n - 1) ((2 ^ n - 1) + 1)).2.2)), .int (nI (2 ^ n - 1)), .int (bI true)])), (ga, .inl (E 0, 4096, .inl (aN (ovw TS (fun x => tgU T x n) (2 ^ n))))), (gb, .inl (E 0, 4096, .inl (aN (stS (ovw TS (fun x => tgU T x n) (2 ^ n)) ((tpS 64 128 (rgS (ovw TS (fun x => tgU T x n) (2 ^ n)) ((tpS 16 2 X P (2 ^ n - 1) ((2 ^ n - 1) + 1)).1) ((2 ^ n - 1) + 1)) ((tpS 16 2 X P (2 ^ n - 1) ((2 ^ n - 1) + 1)).2.1) (2 ^ n - 1) ((2 ^ n - 1) + 1)).1) ((2 ^ n - 1) + 1))))), (gc, .inl (E 0, 924, .inl (aN ((tpS 64 128 (rgS (ovw TS (fun x => tgU T x n) (2 ^ n)) ((tpS 16 2 X P (2 ^ n - 1) ((2 ^ n - 1) + 1)).1) ((2 ^ n - 1) + 1)) ((tpS 16 2 X P (2 ^ n - 1) ((2 ^ n - 1) + 1)).2.1) (2 ^ n - 1) ((2 ^ n - 1) + 1)).2.1)))), (h, .inr (6, [.ref t, .ref u, .int (nI n)])), (t, .inl (E 0, 12, .inl (aN T))), (u, .inl (E 0, 12, .inl (aN U)))]) C lay_Senses ty_Senses nm_Senses 0 rfl rfl 5 (by decide) m_83 rfl (bI_nar _) (bI_fit _) (Nat.le_of_ble_eq_true rfl) rfl d_Senses_learn_69 ?_
          exact g_vret C hrt hlk () (trivial) (by have hp := p12_le hn; have h1 := Nat.one_le_two_pow (n := n); rw [show i = 2 ^ n - 1 + 1 by omega] at hX; subst b0; rw [hX]; rfl) d_Senses_learn_72
        · skip
          refine g_iload_n C d_Senses_learn_31 rfl 2 rfl ?_
          refine g_sipush (v := nI 4096) C d_Senses_learn_32 (by decide) ?_
          refine g_icmp_geN (tgt := 55) C (by have := p12_le hn; omega) (by decide) d_Senses_learn_35 (by decide) (fun b2 => ?_) (fun b2 => ?_)
          · skip
            refine g_aload_n C d_Senses_learn_55 rfl 0 rfl ?_
            refine g_vV (rest := []) (wr := [(h, .inr (6, [.ref t, .ref u, .int (nI n)])), (t, .inl (E 0, 12, .inl (aN T))), (u, .inl (E 0, 12, .inl (aN U)))]) C (c_Se_markPreferred l D E g ga gb gc (ovw TS (fun x => tgU T x n) (2 ^ n)) X P tc (2 ^ n - 1) kn (by have := p12_le hn; omega)) rd_Senses_markPreferred m_296 m_298 m_3 rfl rfl (Nat.le_of_ble_eq_true rfl) (Nat.le_of_ble_eq_true rfl) (Nat.le_of_ble_eq_true rfl) (Nat.le_of_ble_eq_true rfl) rfl rfl (Nat.le_of_ble_eq_true rfl) d_Senses_learn_56 [0, 1, 2, 3] [4, 5, 6] rfl (by decide) rfl (by decide) (by decide) (fun _ _ => ?_)
            refine g_cells (ws' := [(g, .inr (4, [.ref ga, .ref gb, .ref gc, .int (nI ((tpS 16 2 X P (2 ^ n - 1) ((2 ^ n - 1) + 1)).2.2)), .int (nI (2 ^ n - 1)), .int (bI kn)])), (ga, .inl (E 0, 4096, .inl (aN (ovw TS (fun x => tgU T x n) (2 ^ n))))), (gb, .inl (E 0, 4096, .inl (aN ((tpS 16 2 X P (2 ^ n - 1) ((2 ^ n - 1) + 1)).1)))), (gc, .inl (E 0, 924, .inl (aN ((tpS 16 2 X P (2 ^ n - 1) ((2 ^ n - 1) + 1)).2.1)))), (h, .inr (6, [.ref t, .ref u, .int (nI n)])), (t, .inl (E 0, 12, .inl (aN T))), (u, .inl (E 0, 12, .inl (aN U)))]) [3, 4, 5, 6, 0, 1, 2] (by decide) rfl ?_
            refine g_aload_n C d_Senses_learn_59 rfl 0 rfl ?_
            refine g_vV (rest := []) (wr := [(h, .inr (6, [.ref t, .ref u, .int (nI n)])), (t, .inl (E 0, 12, .inl (aN T))), (u, .inl (E 0, 12, .inl (aN U)))]) C (c_Se_markRanges l D E g ga gb gc (ovw TS (fun x => tgU T x n) (2 ^ n)) ((tpS 16 2 X P (2 ^ n - 1) ((2 ^ n - 1) + 1)).1) ((tpS 16 2 X P (2 ^ n - 1) ((2 ^ n - 1) + 1)).2.1) ((tpS 16 2 X P (2 ^ n - 1) ((2 ^ n - 1) + 1)).2.2) (2 ^ n - 1) kn (by have := p12_le hn; omega) (ovw_b hTS (fun x => tgU_lt hT _ _))) rd_Senses_markRanges m_308 m_310 m_6 rfl rfl (Nat.le_of_ble_eq_true rfl) (Nat.le_of_ble_eq_true rfl) (Nat.le_of_ble_eq_true rfl) (Nat.le_of_ble_eq_true rfl) rfl rfl (Nat.le_of_ble_eq_true rfl) d_Senses_learn_60 [0, 1, 2, 3] [4, 5, 6] rfl (by decide) rfl (by decide) (by decide) (fun _ _ => ?_)
            refine g_cells (ws' := [(g, .inr (4, [.ref ga, .ref gb, .ref gc, .int (nI ((tpS 64 128 (rgS (ovw TS (fun x => tgU T x n) (2 ^ n)) ((tpS 16 2 X P (2 ^ n - 1) ((2 ^ n - 1) + 1)).1) ((2 ^ n - 1) + 1)) ((tpS 16 2 X P (2 ^ n - 1) ((2 ^ n - 1) + 1)).2.1) (2 ^ n - 1) ((2 ^ n - 1) + 1)).2.2)), .int (nI (2 ^ n - 1)), .int (bI kn)])), (ga, .inl (E 0, 4096, .inl (aN (ovw TS (fun x => tgU T x n) (2 ^ n))))), (gb, .inl (E 0, 4096, .inl (aN ((tpS 64 128 (rgS (ovw TS (fun x => tgU T x n) (2 ^ n)) ((tpS 16 2 X P (2 ^ n - 1) ((2 ^ n - 1) + 1)).1) ((2 ^ n - 1) + 1)) ((tpS 16 2 X P (2 ^ n - 1) ((2 ^ n - 1) + 1)).2.1) (2 ^ n - 1) ((2 ^ n - 1) + 1)).1)))), (gc, .inl (E 0, 924, .inl (aN ((tpS 64 128 (rgS (ovw TS (fun x => tgU T x n) (2 ^ n)) ((tpS 16 2 X P (2 ^ n - 1) ((2 ^ n - 1) + 1)).1) ((2 ^ n - 1) + 1)) ((tpS 16 2 X P (2 ^ n - 1) ((2 ^ n - 1) + 1)).2.1) (2 ^ n - 1) ((2 ^ n - 1) + 1)).2.1)))), (h, .inr (6, [.ref t, .ref u, .int (nI n)])), (t, .inl (E 0, 12, .inl (aN T))), (u, .inl (E 0, 12, .inl (aN U)))]) [3, 4, 5, 6, 0, 1, 2] (by decide) rfl ?_
            refine g_aload_n C d_Senses_learn_63 rfl 0 rfl ?_
            refine g_vV (rest := []) (wr := [(h, .inr (6, [.ref t, .ref u, .int (nI n)])), (t, .inl (E 0, 12, .inl (aN T))), (u, .inl (E 0, 12, .inl (aN U)))]) C (c_Se_markStage l D E g ga gb gc (ovw TS (fun x => tgU T x n) (2 ^ n)) ((tpS 64 128 (rgS (ovw TS (fun x => tgU T x n) (2 ^ n)) ((tpS 16 2 X P (2 ^ n - 1) ((2 ^ n - 1) + 1)).1) ((2 ^ n - 1) + 1)) ((tpS 16 2 X P (2 ^ n - 1) ((2 ^ n - 1) + 1)).2.1) (2 ^ n - 1) ((2 ^ n - 1) + 1)).1) ((tpS 64 128 (rgS (ovw TS (fun x => tgU T x n) (2 ^ n)) ((tpS 16 2 X P (2 ^ n - 1) ((2 ^ n - 1) + 1)).1) ((2 ^ n - 1) + 1)) ((tpS 16 2 X P (2 ^ n - 1) ((2 ^ n - 1) + 1)).2.1) (2 ^ n - 1) ((2 ^ n - 1) + 1)).2.1) ((tpS 64 128 (rgS (ovw TS (fun x => tgU T x n) (2 ^ n)) ((tpS 16 2 X P (2 ^ n - 1) ((2 ^ n - 1) + 1)).1) ((2 ^ n - 1) + 1)) ((tpS 16 2 X P (2 ^ n - 1) ((2 ^ n - 1) + 1)).2.1) (2 ^ n - 1) ((2 ^ n - 1) + 1)).2.2) (2 ^ n - 1) kn (by have := p12_le hn; omega) (ovw_b hTS (fun x => tgU_lt hT _ _))) rd_Senses_markStage m_312 m_314 m_7 rfl rfl (Nat.le_of_ble_eq_true rfl) (Nat.le_of_ble_eq_true rfl) (Nat.le_of_ble_eq_true rfl) (Nat.le_of_ble_eq_true rfl) rfl rfl (Nat.le_of_ble_eq_true rfl) d_Senses_learn_64 [0, 1, 2, 3] [4, 5, 6] rfl (by decide) rfl (by decide) (by decide) (fun _ _ => ?_)
            refine g_cells (ws' := [(g, .inr (4, [.ref ga, .ref gb, .ref gc, .int (nI ((tpS 64 128 (rgS (ovw TS (fun x => tgU T x n) (2 ^ n)) ((tpS 16 2 X P (2 ^ n - 1) ((2 ^ n - 1) + 1)).1) ((2 ^ n - 1) + 1)) ((tpS 16 2 X P (2 ^ n - 1) ((2 ^ n - 1) + 1)).2.1) (2 ^ n - 1) ((2 ^ n - 1) + 1)).2.2)), .int (nI (2 ^ n - 1)), .int (bI kn)])), (ga, .inl (E 0, 4096, .inl (aN (ovw TS (fun x => tgU T x n) (2 ^ n))))), (gb, .inl (E 0, 4096, .inl (aN (stS (ovw TS (fun x => tgU T x n) (2 ^ n)) ((tpS 64 128 (rgS (ovw TS (fun x => tgU T x n) (2 ^ n)) ((tpS 16 2 X P (2 ^ n - 1) ((2 ^ n - 1) + 1)).1) ((2 ^ n - 1) + 1)) ((tpS 16 2 X P (2 ^ n - 1) ((2 ^ n - 1) + 1)).2.1) (2 ^ n - 1) ((2 ^ n - 1) + 1)).1) ((2 ^ n - 1) + 1))))), (gc, .inl (E 0, 924, .inl (aN ((tpS 64 128 (rgS (ovw TS (fun x => tgU T x n) (2 ^ n)) ((tpS 16 2 X P (2 ^ n - 1) ((2 ^ n - 1) + 1)).1) ((2 ^ n - 1) + 1)) ((tpS 16 2 X P (2 ^ n - 1) ((2 ^ n - 1) + 1)).2.1) (2 ^ n - 1) ((2 ^ n - 1) + 1)).2.1)))), (h, .inr (6, [.ref t, .ref u, .int (nI n)])), (t, .inl (E 0, 12, .inl (aN T))), (u, .inl (E 0, 12, .inl (aN U)))]) [3, 4, 5, 6, 0, 1, 2] (by decide) rfl ?_
            refine g_aload_n C d_Senses_learn_67 rfl 0 rfl ?_
            refine g_iconst (v := nI 1) C d_Senses_learn_68 (by decide) ?_
            refine g_top (show nI 1 = bI true from rfl) ?_
            refine g_put (ws' := [(g, .inr (4, [.ref ga, .ref gb, .ref gc, .int (nI ((tpS 64 128 (rgS (ovw TS (fun x => tgU T x n) (2 ^ n)) ((tpS 16 2 X P (2 ^ n - 1) ((2 ^ n - 1) + 1)).1) ((2 ^ n - 1) + 1)) ((tpS 16 2 X P (2 ^ n - 1) ((2 ^ n - 1) + 1)).2.1) (2 ^ n - 1) ((2 ^ n - 1) + 1)).2.2)), .int (nI (2 ^ n - 1)), .int (bI true)])), (ga, .inl (E 0, 4096, .inl (aN (ovw TS (fun x => tgU T x n) (2 ^ n))))), (gb, .inl (E 0, 4096, .inl (aN (stS (ovw TS (fun x => tgU T x n) (2 ^ n)) ((tpS 64 128 (rgS (ovw TS (fun x => tgU T x n) (2 ^ n)) ((tpS 16 2 X P (2 ^ n - 1) ((2 ^ n - 1) + 1)).1) ((2 ^ n - 1) + 1)) ((tpS 16 2 X P (2 ^ n - 1) ((2 ^ n - 1) + 1)).2.1) (2 ^ n - 1) ((2 ^ n - 1) + 1)).1) ((2 ^ n - 1) + 1))))), (gc, .inl (E 0, 924, .inl (aN ((tpS 64 128 (rgS (ovw TS (fun x => tgU T x n) (2 ^ n)) ((tpS 16 2 X P (2 ^ n - 1) ((2 ^ n - 1) + 1)).1) ((2 ^ n - 1) + 1)) ((tpS 16 2 X P (2 ^ n - 1) ((2 ^ n - 1) + 1)).2.1) (2 ^ n - 1) ((2 ^ n - 1) + 1)).2.1)))), (h, .inr (6, [.ref t, .ref u, .int (nI n)])), (t, .inl (E 0, 12, .inl (aN T))), (u, .inl (E 0, 12, .inl (aN U)))]) C lay_Senses ty_Senses nm_Senses 0 rfl rfl 5 (by decide) m_83 rfl (bI_nar _) (bI_fit _) (Nat.le_of_ble_eq_true rfl) rfl d_Senses_learn_69 ?_
            exact g_vret C hrt hlk () (trivial) (by have hp := p12_le hn; have h1 := Nat.one_le_two_pow (n := n); rw [show i = 2 ^ n - 1 + 1 by omega] at hX; subst b0; rw [hX]; rfl) d_Senses_learn_72
          · skip
            refine g_aload_n C d_Senses_learn_38 rfl 0 rfl ?_
            refine g_get C lay_Senses 0 rfl rfl 1 (by decide) m_79 rfl d_Senses_learn_39 ?_
            refine g_iload_n C d_Senses_learn_42 rfl 2 rfl ?_
            refine g_aload_n C d_Senses_learn_43 rfl 0 rfl ?_
            refine g_iload_n C d_Senses_learn_44 rfl 2 rfl ?_
            refine g_iV (rest := [.int (nI i), .ref gb]) (wr := [(h, .inr (6, [.ref t, .ref u, .int (nI n)])), (t, .inl (E 0, 12, .inl (aN T))), (u, .inl (E 0, 12, .inl (aN U)))]) C (c_Se_ownMarks l D E g ga gb gc (ovw TS (fun x => tgU T x n) (2 ^ n)) X P tc (2 ^ n - 1) kn i (by have := p12_le hn; omega) (ovw_b hTS (fun x => tgU_lt hT _ _)) (by omega)) rd_Senses_ownMarks m_291 m_293 m_2 rfl rfl (Nat.le_of_ble_eq_true rfl) (Nat.le_of_ble_eq_true rfl) (Nat.le_of_ble_eq_true rfl) (Nat.le_of_ble_eq_true rfl) rfl rfl (Nat.le_of_ble_eq_true rfl) d_Senses_learn_45 [0, 1, 2, 3] [4, 5, 6] rfl (by decide) rfl (by decide) (by decide) (fun r45 _ (hr45 : r45 = nI (ownM (ovw TS (fun x => tgU T x n) (2 ^ n)) (2 ^ n - 1) i)) => ?_)
            subst hr45
            refine g_cells (ws' := [(g, .inr (4, [.ref ga, .ref gb, .ref gc, .int (nI tc), .int (nI (2 ^ n - 1)), .int (bI kn)])), (ga, .inl (E 0, 4096, .inl (aN (ovw TS (fun x => tgU T x n) (2 ^ n))))), (gb, .inl (E 0, 4096, .inl (aN X))), (gc, .inl (E 0, 924, .inl (aN P))), (h, .inr (6, [.ref t, .ref u, .int (nI n)])), (t, .inl (E 0, 12, .inl (aN T))), (u, .inl (E 0, 12, .inl (aN U)))]) [3, 4, 5, 6, 0, 1, 2] (by decide) rfl ?_
            refine g_iastN (f' := aN (va_up X i (ownM (ovw TS (fun x => tgU T x n) (2 ^ n)) (2 ^ n - 1) i))) (ws' := [(g, .inr (4, [.ref ga, .ref gb, .ref gc, .int (nI tc), .int (nI (2 ^ n - 1)), .int (bI kn)])), (ga, .inl (E 0, 4096, .inl (aN (ovw TS (fun x => tgU T x n) (2 ^ n))))), (gb, .inl (E 0, 4096, .inl (aN (va_up X i (ownM (ovw TS (fun x => tgU T x n) (2 ^ n)) (2 ^ n - 1) i))))), (gc, .inl (E 0, 924, .inl (aN P))), (h, .inr (6, [.ref t, .ref u, .int (nI n)])), (t, .inl (E 0, 12, .inl (aN T))), (u, .inl (E 0, 12, .inl (aN U)))]) C 2 rfl (by omega) (by decide) (aN_up _ _ _) rfl d_Senses_learn_48 ?_
            refine g_iinc (lv' := [(2, .int (nI (i + 1))), (0, .ref g), (1, .ref h)]) C d_Senses_learn_49 2 rfl (nI_1 _) (by decide) rfl ?_
            refine g_goto (tgt := 23) C d_Senses_learn_52 (by decide) ?_
            refine g_perm [1, 2, 0] rfl ?_
            exact ih23 (i + 1) (va_up X i (ownM (ovw TS (fun x => tgU T x n) (2 ^ n)) (2 ^ n - 1) i)) (by omega) (by rw [hX, ovw_s]) (by omega)
    refine g_perm [1, 2, 0] rfl ?_
    exact loop23 (2 ^ n - 1 + 1 - 0 + 1) 0 M (Nat.zero_le _) ((ovw_0 _ _).symm) (Nat.lt_succ_self _)
  · skip
    exact g_vret C hrt hlk () (trivial) (by subst b0; rfl) d_Senses_learn_7
end
section
section Rows3
variable {p : Program} {l : Launch} {e : Env} {R : Room} {s : State} {m : MethodId} {args : Array Value} {below : List Frame} {meth : Method} {c : Code} {Q : State → Prop} {D : va_G} {E : Nat → ClassId} {A : Nat → Prop} {cc : ByteArray} {own : String} {nL cells slots pc : Nat} {lv lv' : List (Nat × Value)} {st : List Value} {ws ws' : va_W}
theorem nI_nm1 {j : Nat} (h : j < 2 ^ 31) : ¬ nI j = -1 := fun q => absurd (show nI j < 0 by rw [q]; decide) (nI_pos h)
theorem oI_no {o : Option Nat} (ho : ∀ j, o = some j → j < 2 ^ 31) (h : oI o = -1) : o = none := by
  cases o with
  | none => rfl
  | some j => exact absurd h (nI_nm1 (ho j rfl))
theorem oI_so {o : Option Nat} (h : ¬ oI o = -1) : ∃ j, o = some j := by
  cases o with
  | none => exact absurd rfl h
  | some j => exact ⟨j, rfl⟩
theorem g_icmp_eqO (C : CX p s m args c D E A cc nL own) {o : Option Nat} (ho : ∀ j, o = some j → j < 2 ^ 31) {off : Int} {tgt : Nat} (d : decode cc pc = .ok (.if_icmp .eq off, 3)) (ht : (pc : Int) + off = (tgt : Int)) (kt : o = none → GG p l e R s m args below meth c Q D A nL cells slots tgt lv st ws) (kf : ∀ j, o = some j → GG p l e R s m args below meth c Q D A nL cells slots (pc + 3) lv st ws) : GG p l e R s m args below meth c Q D A nL cells slots pc lv (.int (-1) :: .int (oI o) :: st) ws :=
  g_icmp_eq C d ht (fun h => kt (oI_no ho h)) (fun h => by obtain ⟨j, hj⟩ := oI_so h; exact kf j hj)
theorem g_icmp_neO (C : CX p s m args c D E A cc nL own) {o : Option Nat} (ho : ∀ j, o = some j → j < 2 ^ 31) {off : Int} {tgt : Nat} (d : decode cc pc = .ok (.if_icmp .ne off, 3)) (ht : (pc : Int) + off = (tgt : Int)) (kt : ∀ j, o = some j → GG p l e R s m args below meth c Q D A nL cells slots tgt lv st ws) (kf : o = none → GG p l e R s m args below meth c Q D A nL cells slots (pc + 3) lv st ws) : GG p l e R s m args below meth c Q D A nL cells slots pc lv (.int (-1) :: .int (oI o) :: st) ws :=
  g_icmp_ne C d ht (fun h => by obtain ⟨j, hj⟩ := oI_so h; exact kt j hj) (fun h => kf (oI_no ho h))
theorem g_tsIn (C : CX p s m args c D E A cc nL own) {dflt hi : Int} {offs : Array Int} {len : Nat} {x : Int32} {off : Int} {tgt : Nat} (j : Nat) (hj : j < 2 ^ 31) (hx : x = nI j) (d : decode cc pc = .ok (.tableswitch dflt 0 hi offs, len)) (h2 : (j : Int) ≤ hi) (ho : offs[j]? = some off) (ht : (pc : Int) + off = (tgt : Int)) (k : GG p l e R s m args below meth c Q D A nL cells slots tgt lv st ws) : GG p l e R s m args below meth c Q D A nL cells slots pc lv (.int x :: st) ws := by
  have e1 : x.toInt = (j : Int) := by rw [hx]; exact nI_toInt hj
  exact fun H locs ls hP hD hS hl => lv_tableIn C.1 C.2.1 d (by omega) (by omega) (by rw [e1]; simpa using ho) ht (k H locs ls hP hD hS hl)
theorem g_tsOut (C : CX p s m args c D E A cc nL own) {dflt hi : Int} {offs : Array Int} {len : Nat} {x : Int32} {tgt : Nat} (d : decode cc pc = .ok (.tableswitch dflt 0 hi offs, len)) (h : ∀ j : Nat, (j : Int) ≤ hi → x ≠ nI j) (ht : (pc : Int) + dflt = (tgt : Int)) (k : GG p l e R s m args below meth c Q D A nL cells slots tgt lv st ws) : GG p l e R s m args below meth c Q D A nL cells slots pc lv (.int x :: st) ws := by
  refine fun H locs ls hP hD hS hl => lv_tableOut C.1 C.2.1 d ?_ ht (k H locs ls hP hD hS hl)
  by_cases h0 : x < 0
  · exact Or.inl (by have := Int32.lt_iff_toInt_lt.mp h0; simpa using this)
  · right
    obtain ⟨j, hj, rfl⟩ := nI_of h0
    rw [nI_toInt hj]
    exact Int.not_le.mp fun q => h j q rfl
end Rows3
end
section
/-! Listing, Grounds, Talk, Rings: what their loops do, as functions -/
def fstM (M : Nat → Nat) (k : Nat) : Nat → Nat → Option Nat
  | 0, _ => none
  | f + 1, x => if (M x).testBit k then some x else fstM M k f (x + 1)
def oP : Option Nat → Nat → Nat
  | none, y => y
  | some x, _ => x + 1
theorem fst_y {M : Nat → Nat} {k ev i : Nat} {F : Option Nat} (h : fstM M k (ev + 1 - i) i = F) (hi : i ≤ ev) (hb : (M i).testBit k = true) : F = some i := by
  rw [← h, show ev + 1 - i = (ev - i) + 1 by omega]
  simp [fstM, hb]
theorem fst_n {M : Nat → Nat} {k ev i : Nat} {F : Option Nat} (h : fstM M k (ev + 1 - i) i = F) (hi : i ≤ ev) (hb : (M i).testBit k = false) : fstM M k (ev + 1 - (i + 1)) (i + 1) = F := by
  rw [← h, show ev + 1 - i = (ev + 1 - (i + 1)) + 1 by omega]
  simp [fstM, hb]
theorem fst_e {M : Nat → Nat} {k ev i : Nat} {F : Option Nat} (h : fstM M k (ev + 1 - i) i = F) (hi : ev < i) : F = none := by
  rw [← h, show ev + 1 - i = 0 by omega]
  rfl
/-- what a set defends -/
def dfd (T : Nat → Nat) (n k : Nat) : Nat := dif (2 ^ n - 1) (tgU T (dif (2 ^ n - 1) (tgU T k n)) n)
theorem dfd_le (T : Nat → Nat) (n k : Nat) : dfd T n k ≤ 2 ^ n - 1 := dif_le _ _
theorem dfd_lt {T : Nat → Nat} {n k : Nat} (hn : n ≤ 12) : dfd T n k < 4096 := by
  have := dfd_le T n k
  have := p12_le hn
  have := Nat.one_le_two_pow (n := n)
  omega
/-- the grounded set after r rounds -/
def gdA (T : Nat → Nat) (n : Nat) : Nat → Nat
  | 0 => 0
  | r + 1 => dfd T n (gdA T n r)
theorem gdA_lt {T : Nat → Nat} {n : Nat} (hn : n ≤ 12) (r : Nat) : gdA T n r < 4096 := by
  cases r with
  | zero => exact Nat.zero_lt_succ _
  | succ r => exact dfd_lt hn
def nrU (R : Nat → Nat) (k r i : Nat) : Nat → Nat := fun a => if a < i ∧ k.testBit a = true then r else R a
theorem nrU_0 (R : Nat → Nat) (k r : Nat) : nrU R k r 0 = R := by funext a; simp [nrU]
theorem nrU_y {R : Nat → Nat} {k r i : Nat} (h : k.testBit i = true) : va_up (nrU R k r i) i r = nrU R k r (i + 1) := by
  funext a
  simp only [va_up, nrU]
  by_cases e : a = i
  · subst e; simp [h]
  · simp only [e, if_false]
    by_cases h2 : a < i
    · simp [h2, Nat.lt_succ_of_lt h2]
    · simp [h2, show ¬ a < i + 1 by omega]
theorem nrU_n {R : Nat → Nat} {k r i : Nat} (h : k.testBit i = false) : nrU R k r i = nrU R k r (i + 1) := by
  funext a
  simp only [nrU]
  by_cases e : a = i
  · subst e; simp [h]
  · by_cases h2 : a < i
    · simp [h2, Nat.lt_succ_of_lt h2]
    · simp [h2, show ¬ a < i + 1 by omega]
def gdR (T : Nat → Nat) (n : Nat) (R0 : Nat → Nat) : Nat → Nat → Nat
  | 0 => R0
  | r + 1 => nrU (gdR T n R0 r) (dif (dfd T n (gdA T n r)) (gdA T n r)) (r + 1) 12
/-- the one of the least round, of those the least -/
def erl (R : Nat → Nat) (k : Nat) : Nat → Option Nat
  | 0 => none
  | i + 1 => if k.testBit i = true ∧ (∀ b, erl R k i = some b → R i < R b) then some i else erl R k i
theorem erl_lt {R : Nat → Nat} {k : Nat} : ∀ {i j : Nat}, erl R k i = some j → j < i ∧ k.testBit j = true := by
  intro i
  induction i with
  | zero => intro j h; cases h
  | succ i ih =>
    intro j h
    simp only [erl] at h
    split at h
    · rename_i hc
      cases h
      exact ⟨Nat.lt_succ_self _, hc.1⟩
    · exact ⟨Nat.lt_succ_of_lt (ih h).1, (ih h).2⟩
theorem erl_n1 {R : Nat → Nat} {k i : Nat} (h : k.testBit i = false) : erl R k (i + 1) = erl R k i := by simp [erl, h]
theorem erl_y0 {R : Nat → Nat} {k i : Nat} (h : k.testBit i = true) (e : erl R k i = none) : erl R k (i + 1) = some i := by
  simp only [erl, h, true_and, e]
  rw [if_pos]
  intro b q; cases q
theorem erl_y1 {R : Nat → Nat} {k i b : Nat} (h : k.testBit i = true) (e : erl R k i = some b) (hr : R i < R b) : erl R k (i + 1) = some i := by
  simp only [erl, h, true_and, e]
  rw [if_pos]
  intro b' q; cases q; exact hr
theorem erl_n2 {R : Nat → Nat} {k i b : Nat} (h : k.testBit i = true) (e : erl R k i = some b) (hr : R b ≤ R i) : erl R k (i + 1) = some b := by
  simp only [erl, h, true_and, e]
  rw [if_neg]
  intro q
  have := q b rfl
  omega
/-- a move of the dialogue, as it is asked for -/
def tellF (z : Nat) (Sa : Nat → Nat) (An : Nat → Int32) (Sd : Nat → Nat) (x y : Int32) : Int32 :=
  if inR x z then (if y = 0 then nI (Sa x.toNatClampNeg) else if y = 1 then An x.toNatClampNeg else if y = 2 then nI (Sd x.toNatClampNeg) else -1) else -1
/-- reach, one by one -/
def rcA (T : Nat → Nat) (n : Nat) : Nat → Nat := fun a => (if a < n then T a else 0) ||| 2 ^ a
def rcU (X : Nat → Nat) (by_ : Nat) : Nat → Nat → Nat
  | 0 => X
  | a + 1 => if (rcU X by_ a a).testBit by_ then va_up (rcU X by_ a) a (rcU X by_ a a ||| rcU X by_ a by_) else rcU X by_ a
def rcB (X : Nat → Nat) (n : Nat) : Nat → Nat → Nat
  | 0 => X
  | by_ + 1 => rcU (rcB X n by_) by_ n
/-- the circle around a -/
def arU (X : Nat → Nat) (a : Nat) : Nat → Nat
  | 0 => 0
  | b + 1 => if (X a).testBit b && (X b).testBit a then arU X a b ||| 2 ^ b else arU X a b
theorem arU_lt {X : Nat → Nat} {a b : Nat} (h : b ≤ 12) : arU X a b < 4096 := by
  induction b with
  | zero => exact Nat.zero_lt_succ _
  | succ b ih =>
    simp only [arU]; split
    · exact Nat.or_lt_two_pow (n := 12) (ih (by omega)) (Nat.pow_lt_pow_right (by decide) (by omega))
    · exact ih (by omega)
/-- the first circle that is ready, from a on -/
def frd (X U : Nat → Nat) (n dn : Nat) : Nat → Nat → Nat
  | 0, _ => 0
  | f + 1, a => if dn.testBit a = false ∧ dif (tgU U (arU X a n) n) (arU X a n ||| dn) = 0 then arU X a n else frd X U n dn f (a + 1)
theorem frd_lt {X U : Nat → Nat} {n dn : Nat} (hn : n ≤ 12) : ∀ (f a : Nat), frd X U n dn f a < 4096 := by
  intro f
  induction f with
  | zero => intro a; exact Nat.zero_lt_succ _
  | succ f ih =>
    intro a
    simp only [frd]; split
    · exact arU_lt hn
    · exact ih _
def nbU (Y : Nat → Nat) (k z : Nat) : Nat → Nat := nrU Y k z 12
/-- the numbering after k turns: the numbers, how many, which -/
def fnd (X U : Nat → Nat) (n : Nat) (Y : Nat → Nat) : Nat → (Nat → Nat) × Nat × Nat
  | 0 => (Y, 0, 0)
  | k + 1 => (if frd X U n (fnd X U n Y k).2.2 n 0 = 0 then (fnd X U n Y k).1 else nbU (fnd X U n Y k).1 (frd X U n (fnd X U n Y k).2.2 n 0) (fnd X U n Y k).2.1,
      if frd X U n (fnd X U n Y k).2.2 n 0 = 0 then (fnd X U n Y k).2.1 else (fnd X U n Y k).2.1 + 1,
      (fnd X U n Y k).2.2 ||| frd X U n (fnd X U n Y k).2.2 n 0)
end
section
set_option maxHeartbeats 4000000 in
set_option maxRecDepth 100000 in
theorem c_Li_begin (l : Launch) (D : va_G) (E : Nat → ClassId) (li : Nat) (op : Bool) (ki : Nat) (pl : Nat) (td : Option Nat) (k : Nat)  : MV l D E y_Listing_begin (.code y_Listing_begin k_Listing_begin 2 none) ({ frames := 0, cells := 0, slots := 0, locals := 0 } : Room) [.ref li, .int (nI k)] [(li, .inr (2, [.int (bI op), .int (nI ki), .int (nI pl), .int (oI td)]))] (fun _ : Unit => True) (fun _ : Unit => [(li, .inr (2, [.int (bI true), .int (nI k), .int (nI 0), .int (oI none)]))]) := by
  refine MV.of (by decide) (Nat.le_of_ble_eq_true rfl) ?_
  intro p e s m args below meth c A C hrt hlk hnm
  refine g_lv (lv' := [(0, .ref li), (1, .int (nI k))]) rfl ?_
  refine g_aload_n C d_Listing_begin_0 rfl 0 rfl ?_
  refine g_iconst (v := nI 1) C d_Listing_begin_1 (by decide) ?_
  refine g_top (show nI 1 = bI true from rfl) ?_
  refine g_put (ws' := [(li, .inr (2, [.int (bI true), .int (nI ki), .int (nI pl), .int (oI td)]))]) C lay_Listing ty_Listing nm_Listing 0 rfl rfl 0 (by decide) m_103 rfl (bI_nar _) (bI_fit _) (Nat.le_of_ble_eq_true rfl) rfl d_Listing_begin_2 ?_
  refine g_aload_n C d_Listing_begin_5 rfl 0 rfl ?_
  refine g_iload_n C d_Listing_begin_6 rfl 1 rfl ?_
  refine g_put (ws' := [(li, .inr (2, [.int (bI true), .int (nI k), .int (nI pl), .int (oI td)]))]) C lay_Listing ty_Listing nm_Listing 0 rfl rfl 1 (by decide) m_104 rfl rfl rfl (Nat.le_of_ble_eq_true rfl) rfl d_Listing_begin_7 ?_
  refine g_aload_n C d_Listing_begin_10 rfl 0 rfl ?_
  refine g_iconst (v := nI 0) C d_Listing_begin_11 (by decide) ?_
  refine g_put (ws' := [(li, .inr (2, [.int (bI true), .int (nI k), .int (nI 0), .int (oI td)]))]) C lay_Listing ty_Listing nm_Listing 0 rfl rfl 2 (by decide) m_105 rfl rfl rfl (Nat.le_of_ble_eq_true rfl) rfl d_Listing_begin_12 ?_
  refine g_aload_n C d_Listing_begin_15 rfl 0 rfl ?_
  refine g_iconst (v := (-1)) C d_Listing_begin_16 (by decide) ?_
  refine g_put (ws' := [(li, .inr (2, [.int (bI true), .int (nI k), .int (nI 0), .int (-1)]))]) C lay_Listing ty_Listing nm_Listing 0 rfl rfl 3 (by decide) m_106 rfl rfl rfl (Nat.le_of_ble_eq_true rfl) rfl d_Listing_begin_17 ?_
  exact g_vret C hrt hlk () (trivial) rfl d_Listing_begin_20

set_option maxHeartbeats 4000000 in
set_option maxRecDepth 100000 in
theorem c_Li_end (l : Launch) (D : va_G) (E : Nat → ClassId) (li : Nat) (op : Bool) (ki : Nat) (pl : Nat) (td : Option Nat)  : MV l D E y_Listing_end (.code y_Listing_end k_Listing_end 1 none) ({ frames := 0, cells := 0, slots := 0, locals := 0 } : Room) [.ref li] [(li, .inr (2, [.int (bI op), .int (nI ki), .int (nI pl), .int (oI td)]))] (fun _ : Unit => True) (fun _ : Unit => [(li, .inr (2, [.int (bI false), .int (nI ki), .int (nI pl), .int (oI none)]))]) := by
  refine MV.of (by decide) (Nat.le_of_ble_eq_true rfl) ?_
  intro p e s m args below meth c A C hrt hlk hnm
  refine g_lv (lv' := [(0, .ref li)]) rfl ?_
  refine g_aload_n C d_Listing_end_0 rfl 0 rfl ?_
  refine g_iconst (v := nI 0) C d_Listing_end_1 (by decide) ?_
  refine g_top (show nI 0 = bI false from rfl) ?_
  refine g_put (ws' := [(li, .inr (2, [.int (bI false), .int (nI ki), .int (nI pl), .int (oI td)]))]) C lay_Listing ty_Listing nm_Listing 0 rfl rfl 0 (by decide) m_103 rfl (bI_nar _) (bI_fit _) (Nat.le_of_ble_eq_true rfl) rfl d_Listing_end_2 ?_
  refine g_aload_n C d_Listing_end_5 rfl 0 rfl ?_
  refine g_iconst (v := (-1)) C d_Listing_end_6 (by decide) ?_
  refine g_put (ws' := [(li, .inr (2, [.int (bI false), .int (nI ki), .int (nI pl), .int (-1)]))]) C lay_Listing ty_Listing nm_Listing 0 rfl rfl 3 (by decide) m_106 rfl rfl rfl (Nat.le_of_ble_eq_true rfl) rfl d_Listing_end_7 ?_
  exact g_vret C hrt hlk () (trivial) rfl d_Listing_end_10

set_option maxHeartbeats 4000000 in
set_option maxRecDepth 100000 in
theorem c_Li_isOpen (l : Launch) (D : va_G) (E : Nat → ClassId) (li : Nat) (op : Bool) (ki : Nat) (pl : Nat) (td : Option Nat)  : MI l D E y_Listing_isOpen (.code y_Listing_isOpen k_Listing_isOpen 1 (some .boolean)) ({ frames := 0, cells := 0, slots := 0, locals := 0 } : Room) [.ref li] [(li, .inr (2, [.int (bI op), .int (nI ki), .int (nI pl), .int (oI td)]))] (fun (r : Int32) (_ : Unit) => r = bI op) (fun _ : Unit => [(li, .inr (2, [.int (bI op), .int (nI ki), .int (nI pl), .int (oI td)]))]) := by
  refine MI.of (by decide) (Nat.le_of_ble_eq_true rfl) ?_
  intro p e s m args below meth c A C hrt hlk hnm
  refine g_lv (lv' := [(0, .ref li)]) rfl ?_
  refine g_aload_n C d_Listing_isOpen_0 rfl 0 rfl ?_
  refine g_get C lay_Listing 0 rfl rfl 0 (by decide) m_103 rfl d_Listing_isOpen_1 ?_
  exact g_zret C hrt hlk () (rfl) rfl d_Listing_isOpen_4

set_option maxHeartbeats 4000000 in
set_option maxRecDepth 100000 in
theorem c_Li_told (l : Launch) (D : va_G) (E : Nat → ClassId) (li : Nat) (op : Bool) (ki : Nat) (pl : Nat) (td : Option Nat)  : MI l D E y_Listing_told (.code y_Listing_told k_Listing_told 1 (some .int)) ({ frames := 0, cells := 0, slots := 0, locals := 0 } : Room) [.ref li] [(li, .inr (2, [.int (bI op), .int (nI ki), .int (nI pl), .int (oI td)]))] (fun (r : Int32) (_ : Unit) => r = oI td) (fun _ : Unit => [(li, .inr (2, [.int (bI op), .int (nI ki), .int (nI pl), .int (oI td)]))]) := by
  refine MI.of (by decide) (Nat.le_of_ble_eq_true rfl) ?_
  intro p e s m args below meth c A C hrt hlk hnm
  refine g_lv (lv' := [(0, .ref li)]) rfl ?_
  refine g_aload_n C d_Listing_told_0 rfl 0 rfl ?_
  refine g_get C lay_Listing 0 rfl rfl 3 (by decide) m_106 rfl d_Listing_told_1 ?_
  exact g_iret C hrt hlk () (rfl) rfl d_Listing_told_4

set_option maxHeartbeats 4000000 in
set_option maxRecDepth 100000 in
theorem c_Li_tell (l : Launch) (D : va_G) (E : Nat → ClassId) (li : Nat) (op : Bool) (ki : Nat) (pl : Nat) (td : Option Nat) (g : Nat) (ga : Nat) (gb : Nat) (gc : Nat) (TS : Nat → Nat) (M : Nat → Nat) (P : Nat → Nat) (tc : Nat) (ev : Nat) (kn : Bool) (hki : ki < 31) (hev : ev < 4096) (hpl : pl ≤ 4096) : MI l D E y_Listing_tell (.code y_Listing_tell k_Listing_tell 3 (some .int)) ({ frames := 2, cells := 0, slots := 0, locals := 44 } : Room) [.ref li, .ref g] [(li, .inr (2, [.int (bI op), .int (nI ki), .int (nI pl), .int (oI td)])), (g, .inr (4, [.ref ga, .ref gb, .ref gc, .int (nI tc), .int (nI ev), .int (bI kn)])), (ga, .inl (E 0, 4096, .inl (aN TS))), (gb, .inl (E 0, 4096, .inl (aN M))), (gc, .inl (E 0, 924, .inl (aN P)))] (fun (r : Int32) (_ : Unit) => r = oI (fstM M ki (ev + 1 - pl) pl)) (fun _ : Unit => [(li, .inr (2, [.int (bI (op && (fstM M ki (ev + 1 - pl) pl).isSome)), .int (nI ki), .int (nI (oP (fstM M ki (ev + 1 - pl) pl) pl)), .int (oI (fstM M ki (ev + 1 - pl) pl))])), (g, .inr (4, [.ref ga, .ref gb, .ref gc, .int (nI tc), .int (nI ev), .int (bI kn)])), (ga, .inl (E 0, 4096, .inl (aN TS))), (gb, .inl (E 0, 4096, .inl (aN M))), (gc, .inl (E 0, 924, .inl (aN P)))]) := by
  refine MI.of (by decide) (Nat.le_of_ble_eq_true rfl) ?_
  intro p e s m args below meth c A C hrt hlk hnm
  refine g_lv (lv' := [(0, .ref li), (1, .ref g)]) rfl ?_
  refine g_aload_n C d_Listing_tell_0 rfl 0 rfl ?_
  refine g_get C lay_Listing 0 rfl rfl 2 (by decide) m_105 rfl d_Listing_tell_1 ?_
  refine g_istore_n (lv' := [(2, .int (nI pl)), (0, .ref li), (1, .ref g)]) C d_Listing_tell_4 rfl (by decide) rfl ?_
  have loop5 : ∀ (f : Nat) (i : Nat), (i ≤ 4096) → (fstM M ki (ev + 1 - i) i = fstM M ki (ev + 1 - pl) pl) → 4097 - i < f → GG p l e ({ frames := 2, cells := 0, slots := 0, locals := 44 } : Room) s m args below meth c (MQ below (va_Qi (fun (r : Int32) (_ : Unit) => r = oI (fstM M ki (ev + 1 - pl) pl)) (BC D A (fun _ : Unit => [(li, .inr (2, [.int (bI (op && (fstM M ki (ev + 1 - pl) pl).isSome)), .int (nI ki), .int (nI (oP (fstM M ki (ev + 1 - pl) pl) pl)), .int (oI (fstM M ki (ev + 1 - pl) pl))])), (g, .inr (4, [.ref ga, .ref gb, .ref gc, .int (nI tc), .int (nI ev), .int (bI kn)])), (ga, .inl (E 0, 4096, .inl (aN TS))), (gb, .inl (E 0, 4096, .inl (aN M))), (gc, .inl (E 0, 924, .inl (aN P)))])) A) args s (({ frames := 2, cells := 0, slots := 0, locals := 44 } : Room)).cells (({ frames := 2, cells := 0, slots := 0, locals := 44 } : Room)).slots A) D A 3 0 0 5 [(0, .ref li), (1, .ref g), (2, .int (nI i))] [] [(li, .inr (2, [.int (bI op), .int (nI ki), .int (nI pl), .int (oI td)])), (g, .inr (4, [.ref ga, .ref gb, .ref gc, .int (nI tc), .int (nI ev), .int (bI kn)])), (ga, .inl (E 0, 4096, .inl (aN TS))), (gb, .inl (E 0, 4096, .inl (aN M))), (gc, .inl (E 0, 924, .inl (aN P)))] := by
    intro f
    induction f with
    | zero => intro i hi hF hf; exact absurd hf (Nat.not_lt_zero _)
    | succ f ih =>
      intro i hi hF hf
      have ih5 := ih
      refine g_iload_n C d_Listing_tell_5 rfl 2 rfl ?_
      refine g_aload_n C d_Listing_tell_6 rfl 1 rfl ?_
      refine g_iV (rest := [.int (nI i)]) (wr := [(li, .inr (2, [.int (bI op), .int (nI ki), .int (nI pl), .int (oI td)]))]) C (c_Se_everything l D E g ga gb gc TS M P tc ev kn ) rd_Senses_everything m_535 m_536 m_537 rfl rfl (Nat.le_of_ble_eq_true rfl) (Nat.le_of_ble_eq_true rfl) (Nat.le_of_ble_eq_true rfl) (Nat.le_of_ble_eq_true rfl) rfl rfl (Nat.le_of_ble_eq_true rfl) d_Listing_tell_7 [1, 2, 3, 4] [0] rfl (by decide) rfl (by decide) (by decide) (fun r7 _ (hr7 : r7 = nI ev) => ?_)
      subst hr7
      refine g_cells (ws' := [(li, .inr (2, [.int (bI op), .int (nI ki), .int (nI pl), .int (oI td)])), (g, .inr (4, [.ref ga, .ref gb, .ref gc, .int (nI tc), .int (nI ev), .int (bI kn)])), (ga, .inl (E 0, 4096, .inl (aN TS))), (gb, .inl (E 0, 4096, .inl (aN M))), (gc, .inl (E 0, 924, .inl (aN P)))]) [0, 1, 2, 3, 4] (by decide) rfl ?_
      refine g_icmp_gtN (tgt := 45) C (by omega) (by omega) d_Listing_tell_10 (by decide) (fun b0 => ?_) (fun b0 => ?_)
      · skip
        refine g_aload_n C d_Listing_tell_45 rfl 0 rfl ?_
        refine g_vV (rest := []) (wr := [(g, .inr (4, [.ref ga, .ref gb, .ref gc, .int (nI tc), .int (nI ev), .int (bI kn)])), (ga, .inl (E 0, 4096, .inl (aN TS))), (gb, .inl (E 0, 4096, .inl (aN M))), (gc, .inl (E 0, 924, .inl (aN P)))]) C (c_Li_end l D E li op ki pl td ) rd_Listing_end m_540 m_204 m_205 rfl rfl (Nat.le_of_ble_eq_true rfl) (Nat.le_of_ble_eq_true rfl) (Nat.le_of_ble_eq_true rfl) (Nat.le_of_ble_eq_true rfl) rfl rfl (Nat.le_of_ble_eq_true rfl) d_Listing_tell_46 [0] [1, 2, 3, 4] rfl (by decide) rfl (by decide) (by decide) (fun _ _ => ?_)
        refine g_cells (ws' := [(li, .inr (2, [.int (bI false), .int (nI ki), .int (nI pl), .int (oI none)])), (g, .inr (4, [.ref ga, .ref gb, .ref gc, .int (nI tc), .int (nI ev), .int (bI kn)])), (ga, .inl (E 0, 4096, .inl (aN TS))), (gb, .inl (E 0, 4096, .inl (aN M))), (gc, .inl (E 0, 924, .inl (aN P)))]) [4, 0, 1, 2, 3] (by decide) rfl ?_
        refine g_iconst (v := (-1)) C d_Listing_tell_49 (by decide) ?_
        exact g_iret C hrt hlk () ((by rw [fst_e hF b0]; rfl)) (by rw [fst_e hF b0]; simp only [Option.isSome, Bool.and_false]; rfl) d_Listing_tell_50
      · skip
        refine g_aload_n C d_Listing_tell_13 rfl 1 rfl ?_
        refine g_aload_n C d_Listing_tell_14 rfl 0 rfl ?_
        refine g_get C lay_Listing 0 rfl rfl 1 (by decide) m_104 rfl d_Listing_tell_15 ?_
        refine g_iload_n C d_Listing_tell_18 rfl 2 rfl ?_
        refine g_iV (rest := []) (wr := [(li, .inr (2, [.int (bI op), .int (nI ki), .int (nI pl), .int (oI td)]))]) C (c_Se_isOf l D E g ga gb gc TS M P tc ev kn ki i hki (by omega)) rd_Senses_isOf m_539 m_317 m_318 rfl rfl (Nat.le_of_ble_eq_true rfl) (Nat.le_of_ble_eq_true rfl) (Nat.le_of_ble_eq_true rfl) (Nat.le_of_ble_eq_true rfl) rfl rfl (Nat.le_of_ble_eq_true rfl) d_Listing_tell_19 [1, 2, 3, 4] [0] rfl (by decide) rfl (by decide) (by decide) (fun r19 _ (hr19 : r19 = bI ((M i).testBit ki)) => ?_)
        subst hr19
        refine g_cells (ws' := [(li, .inr (2, [.int (bI op), .int (nI ki), .int (nI pl), .int (oI td)])), (g, .inr (4, [.ref ga, .ref gb, .ref gc, .int (nI tc), .int (nI ev), .int (bI kn)])), (ga, .inl (E 0, 4096, .inl (aN TS))), (gb, .inl (E 0, 4096, .inl (aN M))), (gc, .inl (E 0, 924, .inl (aN P)))]) [0, 1, 2, 3, 4] (by decide) rfl ?_
        refine g_if_eqB (tgt := 39) C d_Listing_tell_22 (by decide) (fun b1 => ?_) (fun b1 => ?_)
        · skip
          refine g_iinc (lv' := [(2, .int (nI (i + 1))), (0, .ref li), (1, .ref g)]) C d_Listing_tell_39 2 rfl (nI_1 _) (by decide) rfl ?_
          refine g_goto (tgt := 5) C d_Listing_tell_42 (by decide) ?_
          refine g_perm [1, 2, 0] rfl ?_
          exact ih5 (i + 1) (by omega) (fst_n hF b0 b1) (by omega)
        · skip
          refine g_aload_n C d_Listing_tell_25 rfl 0 rfl ?_
          refine g_iload_n C d_Listing_tell_26 rfl 2 rfl ?_
          refine g_iconst (v := nI 1) C d_Listing_tell_27 (by decide) ?_
          refine g_iaddN C d_Listing_tell_28 ?_
          refine g_put (ws' := [(li, .inr (2, [.int (bI op), .int (nI ki), .int (nI (i + 1)), .int (oI td)])), (g, .inr (4, [.ref ga, .ref gb, .ref gc, .int (nI tc), .int (nI ev), .int (bI kn)])), (ga, .inl (E 0, 4096, .inl (aN TS))), (gb, .inl (E 0, 4096, .inl (aN M))), (gc, .inl (E 0, 924, .inl (aN P)))]) C lay_Listing ty_Listing nm_Listing 0 rfl rfl 2 (by decide) m_105 rfl rfl rfl (Nat.le_of_ble_eq_true rfl) rfl d_Listing_tell_29 ?_
          refine g_aload_n C d_Listing_tell_32 rfl 0 rfl ?_
          refine g_iload_n C d_Listing_tell_33 rfl 2 rfl ?_
          refine g_put (ws' := [(li, .inr (2, [.int (bI op), .int (nI ki), .int (nI (i + 1)), .int (nI i)])), (g, .inr (4, [.ref ga, .ref gb, .ref gc, .int (nI tc), .int (nI ev), .int (bI kn)])), (ga, .inl (E 0, 4096, .inl (aN TS))), (gb, .inl (E 0, 4096, .inl (aN M))), (gc, .inl (E 0, 924, .inl (aN P)))]) C lay_Listing ty_Listing nm_Listing 0 rfl rfl 3 (by decide) m_106 rfl rfl rfl (Nat.le_of_ble_eq_true rfl) rfl d_Listing_tell_34 ?_
          refine g_iload_n C d_Listing_tell_37 rfl 2 rfl ?_
          exact g_iret C hrt hlk () ((by rw [fst_y hF b0 b1]; rfl)) (by rw [fst_y hF b0 b1]; simp only [Option.isSome, Bool.and_true]; rfl) d_Listing_tell_38
  refine g_perm [1, 2, 0] rfl ?_
  exact loop5 (4097 - pl + 1) pl (hpl) (rfl) (Nat.lt_succ_self _)

set_option maxHeartbeats 4000000 in
set_option maxRecDepth 100000 in
theorem c_Gr_all (l : Launch) (D : va_G) (E : Nat → ClassId) (q : Nat) (qa : Nat) (R : Nat → Nat) (al : Nat)  : MI l D E y_Grounds_all (.code y_Grounds_all k_Grounds_all 1 (some .int)) ({ frames := 0, cells := 0, slots := 0, locals := 0 } : Room) [.ref q] [(q, .inr (1, [.ref qa, .int (nI al)])), (qa, .inl (E 0, 12, .inl (aN R)))] (fun (r : Int32) (_ : Unit) => r = nI al) (fun _ : Unit => [(q, .inr (1, [.ref qa, .int (nI al)])), (qa, .inl (E 0, 12, .inl (aN R)))]) := by
  refine MI.of (by decide) (Nat.le_of_ble_eq_true rfl) ?_
  intro p e s m args below meth c A C hrt hlk hnm
  refine g_lv (lv' := [(0, .ref q)]) rfl ?_
  refine g_aload_n C d_Grounds_all_0 rfl 0 rfl ?_
  refine g_get C lay_Grounds 0 rfl rfl 1 (by decide) m_123 rfl d_Grounds_all_1 ?_
  exact g_iret C hrt hlk () (rfl) rfl d_Grounds_all_4

set_option maxHeartbeats 4000000 in
set_option maxRecDepth 100000 in
theorem c_Gr_roundOf (l : Launch) (D : va_G) (E : Nat → ClassId) (q : Nat) (qa : Nat) (R : Nat → Nat) (al : Nat) (i : Nat) (hi : i < 12) : MI l D E y_Grounds_roundOf (.code y_Grounds_roundOf k_Grounds_roundOf 2 (some .int)) ({ frames := 0, cells := 0, slots := 0, locals := 0 } : Room) [.ref q, .int (nI i)] [(q, .inr (1, [.ref qa, .int (nI al)])), (qa, .inl (E 0, 12, .inl (aN R)))] (fun (r : Int32) (_ : Unit) => r = nI (R i)) (fun _ : Unit => [(q, .inr (1, [.ref qa, .int (nI al)])), (qa, .inl (E 0, 12, .inl (aN R)))]) := by
  refine MI.of (by decide) (Nat.le_of_ble_eq_true rfl) ?_
  intro p e s m args below meth c A C hrt hlk hnm
  refine g_lv (lv' := [(0, .ref q), (1, .int (nI i))]) rfl ?_
  refine g_iload_n C d_Grounds_roundOf_0 rfl 1 rfl ?_
  refine g_if_ltN (tgt := 19) C (by omega) d_Grounds_roundOf_1 (by decide) ?_
  refine g_iload_n C d_Grounds_roundOf_4 rfl 1 rfl ?_
  refine g_bipush (v := nI 12) C d_Grounds_roundOf_5 (by decide) ?_
  refine g_icmp_geN (tgt := 19) C (by omega) (by decide) d_Grounds_roundOf_7 (by decide) (fun b1 => ?_) (fun b1 => ?_)
  · skip
    exact absurd b1 (by omega)
  · skip
    refine g_aload_n C d_Grounds_roundOf_10 rfl 0 rfl ?_
    refine g_get C lay_Grounds 0 rfl rfl 0 (by decide) m_122 rfl d_Grounds_roundOf_11 ?_
    refine g_iload_n C d_Grounds_roundOf_14 rfl 1 rfl ?_
    refine g_ialdN C 1 rfl (by omega) (by decide) d_Grounds_roundOf_15 ?_
    refine g_top (show (aN R) i = nI (R i) from rfl) ?_
    refine g_goto (tgt := 20) C d_Grounds_roundOf_16 (by decide) ?_
    exact g_iret C hrt hlk () (rfl) rfl d_Grounds_roundOf_20

set_option maxHeartbeats 4000000 in
set_option maxRecDepth 100000 in
theorem c_Gr_noteRound (l : Launch) (D : va_G) (E : Nat → ClassId) (q : Nat) (qa : Nat) (R : Nat → Nat) (al : Nat) (k : Nat) (r : Nat) (hk : k < 2 ^ 31) : MV l D E y_Grounds_noteRound (.code y_Grounds_noteRound k_Grounds_noteRound 4 none) ({ frames := 1, cells := 0, slots := 0, locals := 21 } : Room) [.ref q, .int (nI k), .int (nI r)] [(q, .inr (1, [.ref qa, .int (nI al)])), (qa, .inl (E 0, 12, .inl (aN R)))] (fun _ : Unit => True) (fun _ : Unit => [(q, .inr (1, [.ref qa, .int (nI al)])), (qa, .inl (E 0, 12, .inl (aN (nrU R k r 12))))]) := by
  refine MV.of (by decide) (Nat.le_of_ble_eq_true rfl) ?_
  intro p e s m args below meth c A C hrt hlk hnm
  refine g_lv (lv' := [(0, .ref q), (1, .int (nI k)), (2, .int (nI r))]) rfl ?_
  refine g_iconst (v := nI 0) C d_Grounds_noteRound_0 (by decide) ?_
  refine g_istore_n (lv' := [(3, .int (nI 0)), (0, .ref q), (1, .int (nI k)), (2, .int (nI r))]) C d_Grounds_noteRound_1 rfl (by decide) rfl ?_
  have loop2 : ∀ (f : Nat) (i : Nat) (V : Nat → Nat), (i ≤ 12) → (V = nrU R k r i) → 12 - i < f → GG p l e ({ frames := 1, cells := 0, slots := 0, locals := 21 } : Room) s m args below meth c (MQ below (va_Qv (fun _ : Unit => True) (BC D A (fun _ : Unit => [(q, .inr (1, [.ref qa, .int (nI al)])), (qa, .inl (E 0, 12, .inl (aN (nrU R k r 12))))])) A) args s (({ frames := 1, cells := 0, slots := 0, locals := 21 } : Room)).cells (({ frames := 1, cells := 0, slots := 0, locals := 21 } : Room)).slots A) D A 4 0 0 2 [(0, .ref q), (1, .int (nI k)), (2, .int (nI r)), (3, .int (nI i))] [] [(q, .inr (1, [.ref qa, .int (nI al)])), (qa, .inl (E 0, 12, .inl (aN V)))] := by
    intro f
    induction f with
    | zero => intro i V hi hV hf; exact absurd hf (Nat.not_lt_zero _)
    | succ f ih =>
      intro i V hi hV hf
      have ih2 := ih
      refine g_iload_n C d_Grounds_noteRound_2 rfl 3 rfl ?_
      refine g_bipush (v := nI 12) C d_Grounds_noteRound_3 (by decide) ?_
      refine g_icmp_geN (tgt := 29) C (by omega) (by decide) d_Grounds_noteRound_5 (by decide) (fun b0 => ?_) (fun b0 => ?_)
      · skip
        exact g_vret C hrt hlk () (trivial) (by rw [hV, show i = 12 by omega]) d_Grounds_noteRound_29
      · skip
        refine g_iload_n C d_Grounds_noteRound_8 rfl 3 rfl ?_
        refine g_iload_n C d_Grounds_noteRound_9 rfl 1 rfl ?_
        refine g_iSN (rest := []) (wr := [(q, .inr (1, [.ref qa, .int (nI al)])), (qa, .inl (E 0, 12, .inl (aN V)))]) C (c_isIn l D E i k (by omega) hk) rd_AB_isIn m_346 m_225 (Nat.le_of_ble_eq_true rfl) (Nat.le_of_ble_eq_true rfl) (Nat.le_of_ble_eq_true rfl) (Nat.le_of_ble_eq_true rfl) rfl rfl (Nat.le_of_ble_eq_true rfl) d_Grounds_noteRound_10 [] [0, 1] rfl (by decide) rfl (by decide) (by decide) (fun r10 _ (hr10 : r10 = bI (k.testBit i)) => ?_)
        subst hr10
        refine g_cells (ws' := [(q, .inr (1, [.ref qa, .int (nI al)])), (qa, .inl (E 0, 12, .inl (aN V)))]) [0, 1] (by decide) rfl ?_
        refine g_if_eqB (tgt := 23) C d_Grounds_noteRound_13 (by decide) (fun b1 => ?_) (fun b1 => ?_)
        · skip
          refine g_iinc (lv' := [(3, .int (nI (i + 1))), (0, .ref q), (1, .int (nI k)), (2, .int (nI r))]) C d_Grounds_noteRound_23 3 rfl (nI_1 _) (by decide) rfl ?_
          refine g_goto (tgt := 2) C d_Grounds_noteRound_26 (by decide) ?_
          refine g_perm [1, 2, 3, 0] rfl ?_
          exact ih2 (i + 1) V (by omega) (by first | (rw [hV]; exact nrU_y b1) | (rw [hV]; exact nrU_n b1)) (by omega)
        · skip
          refine g_aload_n C d_Grounds_noteRound_16 rfl 0 rfl ?_
          refine g_get C lay_Grounds 0 rfl rfl 0 (by decide) m_122 rfl d_Grounds_noteRound_17 ?_
          refine g_iload_n C d_Grounds_noteRound_20 rfl 3 rfl ?_
          refine g_iload_n C d_Grounds_noteRound_21 rfl 2 rfl ?_
          refine g_iastN (f' := aN (va_up V i r)) (ws' := [(q, .inr (1, [.ref qa, .int (nI al)])), (qa, .inl (E 0, 12, .inl (aN (va_up V i r))))]) C 1 rfl (by omega) (by decide) (aN_up _ _ _) rfl d_Grounds_noteRound_22 ?_
          refine g_iinc (lv' := [(3, .int (nI (i + 1))), (0, .ref q), (1, .int (nI k)), (2, .int (nI r))]) C d_Grounds_noteRound_23 3 rfl (nI_1 _) (by decide) rfl ?_
          refine g_goto (tgt := 2) C d_Grounds_noteRound_26 (by decide) ?_
          refine g_perm [1, 2, 3, 0] rfl ?_
          exact ih2 (i + 1) (va_up V i r) (by omega) (by first | (rw [hV]; exact nrU_y b1) | (rw [hV]; exact nrU_n b1)) (by omega)
  refine g_perm [1, 2, 3, 0] rfl ?_
  exact loop2 (12 - 0 + 1) 0 R (Nat.zero_le _) ((nrU_0 _ _ _).symm) (Nat.lt_succ_self _)

set_option maxHeartbeats 4000000 in
set_option maxRecDepth 100000 in
theorem c_Gr_settle (l : Launch) (D : va_G) (E : Nat → ClassId) (q : Nat) (qa : Nat) (R : Nat → Nat) (al : Nat) (h : Nat) (t : Nat) (u : Nat) (n : Nat) (T : Nat → Nat) (U : Nat → Nat) (hn : n ≤ 12) (hT : ∀ a, T a < 4096) : MV l D E y_Grounds_settle (.code y_Grounds_settle k_Grounds_settle 4 none) ({ frames := 3, cells := 0, slots := 0, locals := 66 } : Room) [.ref q, .ref h] [(q, .inr (1, [.ref qa, .int (nI al)])), (qa, .inl (E 0, 12, .inl (aN R))), (h, .inr (6, [.ref t, .ref u, .int (nI n)])), (t, .inl (E 0, 12, .inl (aN T))), (u, .inl (E 0, 12, .inl (aN U)))] (fun _ : Unit => True) (fun _ : Unit => [(q, .inr (1, [.ref qa, .int (nI (gdA T n 12))])), (qa, .inl (E 0, 12, .inl (aN (gdR T n (ovw R (fun _ => 0) 12) 12)))), (h, .inr (6, [.ref t, .ref u, .int (nI n)])), (t, .inl (E 0, 12, .inl (aN T))), (u, .inl (E 0, 12, .inl (aN U)))]) := by
  refine MV.of (by decide) (Nat.le_of_ble_eq_true rfl) ?_
  intro p e s m args below meth c A C hrt hlk hnm
  refine g_lv (lv' := [(0, .ref q), (1, .ref h)]) rfl ?_
  refine g_aload_n C d_Grounds_settle_0 rfl 0 rfl ?_
  refine g_iconst (v := nI 0) C d_Grounds_settle_1 (by decide) ?_
  refine g_put (ws' := [(q, .inr (1, [.ref qa, .int (nI 0)])), (qa, .inl (E 0, 12, .inl (aN R))), (h, .inr (6, [.ref t, .ref u, .int (nI n)])), (t, .inl (E 0, 12, .inl (aN T))), (u, .inl (E 0, 12, .inl (aN U)))]) C lay_Grounds ty_Grounds nm_Grounds 0 rfl rfl 1 (by decide) m_123 rfl rfl rfl (Nat.le_of_ble_eq_true rfl) rfl d_Grounds_settle_2 ?_
  refine g_iconst (v := nI 0) C d_Grounds_settle_5 (by decide) ?_
  refine g_istore_n (lv' := [(2, .int (nI 0)), (0, .ref q), (1, .ref h)]) C d_Grounds_settle_6 rfl (by decide) rfl ?_
  have loop7 : ∀ (f : Nat) (i : Nat) (V : Nat → Nat), (i ≤ 12) → (V = ovw R (fun _ => 0) i) → 12 - i < f → GG p l e ({ frames := 3, cells := 0, slots := 0, locals := 66 } : Room) s m args below meth c (MQ below (va_Qv (fun _ : Unit => True) (BC D A (fun _ : Unit => [(q, .inr (1, [.ref qa, .int (nI (gdA T n 12))])), (qa, .inl (E 0, 12, .inl (aN (gdR T n (ovw R (fun _ => 0) 12) 12)))), (h, .inr (6, [.ref t, .ref u, .int (nI n)])), (t, .inl (E 0, 12, .inl (aN T))), (u, .inl (E 0, 12, .inl (aN U)))])) A) args s (({ frames := 3, cells := 0, slots := 0, locals := 66 } : Room)).cells (({ frames := 3, cells := 0, slots := 0, locals := 66 } : Room)).slots A) D A 4 0 0 7 [(0, .ref q), (1, .ref h), (2, .int (nI i))] [] [(q, .inr (1, [.ref qa, .int (nI 0)])), (qa, .inl (E 0, 12, .inl (aN V))), (h, .inr (6, [.ref t, .ref u, .int (nI n)])), (t, .inl (E 0, 12, .inl (aN T))), (u, .inl (E 0, 12, .inl (aN U)))] := by
    intro f
    induction f with
    | zero => intro i V hi hV hf; exact absurd hf (Nat.not_lt_zero _)
    | succ f ih =>
      intro i V hi hV hf
      have ih7 := ih
      refine g_iload_n C d_Grounds_settle_7 rfl 2 rfl ?_
      refine g_bipush (v := nI 12) C d_Grounds_settle_8 (by decide) ?_
      refine g_icmp_geN (tgt := 26) C (by omega) (by decide) d_Grounds_settle_10 (by decide) (fun b0 => ?_) (fun b0 => ?_)
      · skip
        refine g_iconst (v := nI 1) C d_Grounds_settle_26 (by decide) ?_
        refine g_istore_n (lv' := [(2, .int (nI 1)), (0, .ref q), (1, .ref h)]) C d_Grounds_settle_27 rfl (by decide) rfl ?_
        have loop28 : ∀ (f : Nat) (r : Nat) (V2 : Nat → Nat) (w : Nat), (1 ≤ r ∧ r ≤ 13) → (w = gdA T n (r - 1)) → (V2 = gdR T n (ovw R (fun _ => 0) 12) (r - 1)) → 13 - r < f → GG p l e ({ frames := 3, cells := 0, slots := 0, locals := 66 } : Room) s m args below meth c (MQ below (va_Qv (fun _ : Unit => True) (BC D A (fun _ : Unit => [(q, .inr (1, [.ref qa, .int (nI (gdA T n 12))])), (qa, .inl (E 0, 12, .inl (aN (gdR T n (ovw R (fun _ => 0) 12) 12)))), (h, .inr (6, [.ref t, .ref u, .int (nI n)])), (t, .inl (E 0, 12, .inl (aN T))), (u, .inl (E 0, 12, .inl (aN U)))])) A) args s (({ frames := 3, cells := 0, slots := 0, locals := 66 } : Room)).cells (({ frames := 3, cells := 0, slots := 0, locals := 66 } : Room)).slots A) D A 4 0 0 28 [(0, .ref q), (1, .ref h), (2, .int (nI r))] [] [(q, .inr (1, [.ref qa, .int (nI w)])), (qa, .inl (E 0, 12, .inl (aN V2))), (h, .inr (6, [.ref t, .ref u, .int (nI n)])), (t, .inl (E 0, 12, .inl (aN T))), (u, .inl (E 0, 12, .inl (aN U)))] := by
          intro f
          induction f with
          | zero => intro r V2 w hr hw hV2 hf; exact absurd hf (Nat.not_lt_zero _)
          | succ f ih =>
            intro r V2 w hr hw hV2 hf
            have ih28 := ih
            refine g_iload_n C d_Grounds_settle_28 rfl 2 rfl ?_
            refine g_bipush (v := nI 12) C d_Grounds_settle_29 (by decide) ?_
            refine g_icmp_gtN (tgt := 67) C (by omega) (by decide) d_Grounds_settle_31 (by decide) (fun b1 => ?_) (fun b1 => ?_)
            · skip
              exact g_vret C hrt hlk () (trivial) (by rw [hw, hV2, show r - 1 = 12 by omega]) d_Grounds_settle_67
            · skip
              refine g_aload_n C d_Grounds_settle_34 rfl 1 rfl ?_
              refine g_aload_n C d_Grounds_settle_35 rfl 0 rfl ?_
              refine g_get C lay_Grounds 0 rfl rfl 1 (by decide) m_123 rfl d_Grounds_settle_36 ?_
              refine g_iV (rest := []) (wr := [(q, .inr (1, [.ref qa, .int (nI w)])), (qa, .inl (E 0, 12, .inl (aN V2)))]) C (c_Web_defendedOf l D E h t u n T U w hn (by rw [hw]; exact lt4 (gdA_lt hn _)) hT) rd_Web_defendedOf m_341 m_329 m_330 rfl rfl (Nat.le_of_ble_eq_true rfl) (Nat.le_of_ble_eq_true rfl) (Nat.le_of_ble_eq_true rfl) (Nat.le_of_ble_eq_true rfl) rfl rfl (Nat.le_of_ble_eq_true rfl) d_Grounds_settle_39 [2, 3, 4] [0, 1] rfl (by decide) rfl (by decide) (by decide) (fun r39 _ (hr39 : r39 = nI (dif (2 ^ n - 1) (tgU T (dif (2 ^ n - 1) (tgU T w n)) n))) => ?_)
              subst hr39
              refine g_cells (ws' := [(q, .inr (1, [.ref qa, .int (nI w)])), (qa, .inl (E 0, 12, .inl (aN V2))), (h, .inr (6, [.ref t, .ref u, .int (nI n)])), (t, .inl (E 0, 12, .inl (aN T))), (u, .inl (E 0, 12, .inl (aN U)))]) [0, 1, 2, 3, 4] (by decide) rfl ?_
              refine g_istore_n (lv' := [(3, .int (nI (dif (2 ^ n - 1) (tgU T (dif (2 ^ n - 1) (tgU T w n)) n)))), (0, .ref q), (1, .ref h), (2, .int (nI r))]) C d_Grounds_settle_42 rfl (by decide) rfl ?_
              refine g_aload_n C d_Grounds_settle_43 rfl 1 rfl ?_
              refine g_iload_n C d_Grounds_settle_44 rfl 0 rfl ?_
              refine g_aload_n C d_Grounds_settle_45 rfl 1 rfl ?_
              refine g_get C lay_Grounds 0 rfl rfl 1 (by decide) m_123 rfl d_Grounds_settle_46 ?_
              refine g_iconst (v := (-1)) C d_Grounds_settle_49 (by decide) ?_
              refine g_ixor C d_Grounds_settle_50 ?_
              refine g_iandD C d_Grounds_settle_51 ?_
              refine g_iload_n C d_Grounds_settle_52 rfl 3 rfl ?_
              refine g_vV (rest := []) (wr := [(h, .inr (6, [.ref t, .ref u, .int (nI n)])), (t, .inl (E 0, 12, .inl (aN T))), (u, .inl (E 0, 12, .inl (aN U)))]) C (c_Gr_noteRound l D E q qa V2 w (dif (dif (2 ^ n - 1) (tgU T (dif (2 ^ n - 1) (tgU T w n)) n)) w) r (dif_lt (lt4 (dfd_lt (T := T) hn)))) rd_Grounds_noteRound m_342 m_344 m_8 rfl rfl (Nat.le_of_ble_eq_true rfl) (Nat.le_of_ble_eq_true rfl) (Nat.le_of_ble_eq_true rfl) (Nat.le_of_ble_eq_true rfl) rfl rfl (Nat.le_of_ble_eq_true rfl) d_Grounds_settle_53 [0, 1] [2, 3, 4] rfl (by decide) rfl (by decide) (by decide) (fun _ _ => ?_)
              refine g_cells (ws' := [(q, .inr (1, [.ref qa, .int (nI w)])), (qa, .inl (E 0, 12, .inl (aN (nrU V2 (dif (dif (2 ^ n - 1) (tgU T (dif (2 ^ n - 1) (tgU T w n)) n)) w) r 12)))), (h, .inr (6, [.ref t, .ref u, .int (nI n)])), (t, .inl (E 0, 12, .inl (aN T))), (u, .inl (E 0, 12, .inl (aN U)))]) [3, 4, 0, 1, 2] (by decide) rfl ?_
              refine g_aload_n C d_Grounds_settle_56 rfl 1 rfl ?_
              refine g_iload_n C d_Grounds_settle_57 rfl 0 rfl ?_
              refine g_put (ws' := [(q, .inr (1, [.ref qa, .int (nI (dif (2 ^ n - 1) (tgU T (dif (2 ^ n - 1) (tgU T w n)) n)))])), (qa, .inl (E 0, 12, .inl (aN (nrU V2 (dif (dif (2 ^ n - 1) (tgU T (dif (2 ^ n - 1) (tgU T w n)) n)) w) r 12)))), (h, .inr (6, [.ref t, .ref u, .int (nI n)])), (t, .inl (E 0, 12, .inl (aN T))), (u, .inl (E 0, 12, .inl (aN U)))]) C lay_Grounds ty_Grounds nm_Grounds 0 rfl rfl 1 (by decide) m_123 rfl rfl rfl (Nat.le_of_ble_eq_true rfl) rfl d_Grounds_settle_58 ?_
              refine g_iinc (lv' := [(2, .int (nI (r + 1))), (3, .int (nI (dif (2 ^ n - 1) (tgU T (dif (2 ^ n - 1) (tgU T w n)) n)))), (0, .ref q), (1, .ref h)]) C d_Grounds_settle_61 3 rfl (nI_1 _) (by decide) rfl ?_
              refine g_goto (tgt := 28) C d_Grounds_settle_64 (by decide) ?_
              refine g_perm [2, 3, 0] rfl ?_
              exact ih28 (r + 1) (nrU V2 (dif (dif (2 ^ n - 1) (tgU T (dif (2 ^ n - 1) (tgU T w n)) n)) w) r 12) (dif (2 ^ n - 1) (tgU T (dif (2 ^ n - 1) (tgU T w n)) n)) (by omega) (by rw [show r + 1 - 1 = (r - 1) + 1 by omega]; simp only [gdA, ← hw]; rfl) (by rw [show r + 1 - 1 = (r - 1) + 1 by omega]; simp only [gdR, ← hw, ← hV2, show r - 1 + 1 = r by omega]; rfl) (by omega)
        refine g_perm [1, 2, 0] rfl ?_
        exact loop28 (13 - 1 + 1) 1 V 0 (by omega) (rfl) (by rw [hV, show i = 12 by omega]; rfl) (Nat.lt_succ_self _)
      · skip
        refine g_aload_n C d_Grounds_settle_13 rfl 0 rfl ?_
        refine g_get C lay_Grounds 0 rfl rfl 0 (by decide) m_122 rfl d_Grounds_settle_14 ?_
        refine g_iload_n C d_Grounds_settle_17 rfl 2 rfl ?_
        refine g_iconst (v := nI 0) C d_Grounds_settle_18 (by decide) ?_
        refine g_iastN (f' := aN (va_up V i 0)) (ws' := [(q, .inr (1, [.ref qa, .int (nI 0)])), (qa, .inl (E 0, 12, .inl (aN (va_up V i 0)))), (h, .inr (6, [.ref t, .ref u, .int (nI n)])), (t, .inl (E 0, 12, .inl (aN T))), (u, .inl (E 0, 12, .inl (aN U)))]) C 1 rfl (by omega) (by decide) (aN_up _ _ _) rfl d_Grounds_settle_19 ?_
        refine g_iinc (lv' := [(2, .int (nI (i + 1))), (0, .ref q), (1, .ref h)]) C d_Grounds_settle_20 2 rfl (nI_1 _) (by decide) rfl ?_
        refine g_goto (tgt := 7) C d_Grounds_settle_23 (by decide) ?_
        refine g_perm [1, 2, 0] rfl ?_
        exact ih7 (i + 1) (va_up V i 0) (by omega) (by rw [hV]; exact ovw_s R (fun _ => 0) i) (by omega)
  refine g_perm [1, 2, 0] rfl ?_
  exact loop7 (12 - 0 + 1) 0 R (Nat.zero_le _) ((ovw_0 _ _).symm) (Nat.lt_succ_self _)

set_option maxHeartbeats 4000000 in
set_option maxRecDepth 100000 in
theorem c_Gr_earliestIn (l : Launch) (D : va_G) (E : Nat → ClassId) (q : Nat) (qa : Nat) (R : Nat → Nat) (al : Nat) (k : Nat) (hk : k < 2 ^ 31) (hal : al < 2 ^ 31) (hR : ∀ a, R a < 4096) : MI l D E y_Grounds_earliestIn (.code y_Grounds_earliestIn k_Grounds_earliestIn 4 (some .int)) ({ frames := 1, cells := 0, slots := 0, locals := 21 } : Room) [.ref q, .int (nI k)] [(q, .inr (1, [.ref qa, .int (nI al)])), (qa, .inl (E 0, 12, .inl (aN R)))] (fun (r : Int32) (_ : Unit) => r = oI (erl R (k &&& al) 12)) (fun _ : Unit => [(q, .inr (1, [.ref qa, .int (nI al)])), (qa, .inl (E 0, 12, .inl (aN R)))]) := by
  refine MI.of (by decide) (Nat.le_of_ble_eq_true rfl) ?_
  intro p e s m args below meth c A C hrt hlk hnm
  refine g_lv (lv' := [(0, .ref q), (1, .int (nI k))]) rfl ?_
  refine g_iconst (v := (-1)) C d_Grounds_earliestIn_0 (by decide) ?_
  refine g_istore_n (lv' := [(2, .int (-1)), (0, .ref q), (1, .int (nI k))]) C d_Grounds_earliestIn_1 rfl (by decide) rfl ?_
  refine g_iconst (v := nI 0) C d_Grounds_earliestIn_2 (by decide) ?_
  refine g_istore_n (lv' := [(3, .int (nI 0)), (2, .int (-1)), (0, .ref q), (1, .int (nI k))]) C d_Grounds_earliestIn_3 rfl (by decide) rfl ?_
  have loop4 : ∀ (f : Nat) (i : Nat) (o : Option Nat), (i ≤ 12) → (o = erl R (k &&& al) i) → 12 - i < f → GG p l e ({ frames := 1, cells := 0, slots := 0, locals := 21 } : Room) s m args below meth c (MQ below (va_Qi (fun (r : Int32) (_ : Unit) => r = oI (erl R (k &&& al) 12)) (BC D A (fun _ : Unit => [(q, .inr (1, [.ref qa, .int (nI al)])), (qa, .inl (E 0, 12, .inl (aN R)))])) A) args s (({ frames := 1, cells := 0, slots := 0, locals := 21 } : Room)).cells (({ frames := 1, cells := 0, slots := 0, locals := 21 } : Room)).slots A) D A 4 0 0 4 [(0, .ref q), (1, .int (nI k)), (2, .int (oI o)), (3, .int (nI i))] [] [(q, .inr (1, [.ref qa, .int (nI al)])), (qa, .inl (E 0, 12, .inl (aN R)))] := by
    intro f
    induction f with
    | zero => intro i o hi ho hf; exact absurd hf (Nat.not_lt_zero _)
    | succ f ih =>
      intro i o hi ho hf
      have ih4 := ih
      refine g_iload_n C d_Grounds_earliestIn_4 rfl 3 rfl ?_
      refine g_bipush (v := nI 12) C d_Grounds_earliestIn_5 (by decide) ?_
      refine g_icmp_geN (tgt := 50) C (by omega) (by decide) d_Grounds_earliestIn_7 (by decide) (fun b0 => ?_) (fun b0 => ?_)
      · skip
        refine g_iload_n C d_Grounds_earliestIn_50 rfl 2 rfl ?_
        exact g_iret C hrt hlk () (by rw [ho, show i = 12 by omega]) rfl d_Grounds_earliestIn_51
      · skip
        refine g_iload_n C d_Grounds_earliestIn_10 rfl 3 rfl ?_
        refine g_iload_n C d_Grounds_earliestIn_11 rfl 1 rfl ?_
        refine g_aload_n C d_Grounds_earliestIn_12 rfl 0 rfl ?_
        refine g_get C lay_Grounds 0 rfl rfl 1 (by decide) m_123 rfl d_Grounds_earliestIn_13 ?_
        refine g_iandN C d_Grounds_earliestIn_16 ?_
        refine g_iSN (rest := []) (wr := [(q, .inr (1, [.ref qa, .int (nI al)])), (qa, .inl (E 0, 12, .inl (aN R)))]) C (c_isIn l D E i (k &&& al) (by omega) (and_lt hal)) rd_AB_isIn m_346 m_225 (Nat.le_of_ble_eq_true rfl) (Nat.le_of_ble_eq_true rfl) (Nat.le_of_ble_eq_true rfl) (Nat.le_of_ble_eq_true rfl) rfl rfl (Nat.le_of_ble_eq_true rfl) d_Grounds_earliestIn_17 [] [0, 1] rfl (by decide) rfl (by decide) (by decide) (fun r17 _ (hr17 : r17 = bI ((k &&& al).testBit i)) => ?_)
        subst hr17
        refine g_cells (ws' := [(q, .inr (1, [.ref qa, .int (nI al)])), (qa, .inl (E 0, 12, .inl (aN R)))]) [0, 1] (by decide) rfl ?_
        refine g_if_eqB (tgt := 44) C d_Grounds_earliestIn_20 (by decide) (fun b1 => ?_) (fun b1 => ?_)
        · skip
          refine g_iinc (lv' := [(3, .int (nI (i + 1))), (0, .ref q), (1, .int (nI k)), (2, .int (oI o))]) C d_Grounds_earliestIn_44 3 rfl (nI_1 _) (by decide) rfl ?_
          refine g_goto (tgt := 4) C d_Grounds_earliestIn_47 (by decide) ?_
          refine g_perm [1, 2, 3, 0] rfl ?_
          exact ih4 (i + 1) o (by omega) (by first | (rw [erl_n1 b1]; exact ho) | exact (erl_y0 b1 ho.symm).symm | exact (erl_y1 b1 ho.symm (by omega)).symm | exact (erl_n2 b1 ho.symm (by omega)).symm) (by omega)
        · skip
          refine g_iload_n C d_Grounds_earliestIn_23 rfl 2 rfl ?_
          refine g_iconst (v := (-1)) C d_Grounds_earliestIn_24 (by decide) ?_
          refine g_icmp_eqO (tgt := 42) C (fun j q => by subst q; have := (erl_lt ho.symm).1; omega) d_Grounds_earliestIn_25 (by decide) (fun b2 => ?_) (fun j2 b2 => ?_)
          · skip
            subst b2
            refine g_iload_n C d_Grounds_earliestIn_42 rfl 3 rfl ?_
            refine g_istore_n (lv' := [(2, .int (nI i)), (0, .ref q), (1, .int (nI k)), (3, .int (nI i))]) C d_Grounds_earliestIn_43 rfl (by decide) rfl ?_
            refine g_iinc (lv' := [(3, .int (nI (i + 1))), (2, .int (nI i)), (0, .ref q), (1, .int (nI k))]) C d_Grounds_earliestIn_44 3 rfl (nI_1 _) (by decide) rfl ?_
            refine g_goto (tgt := 4) C d_Grounds_earliestIn_47 (by decide) ?_
            refine g_lv (lv' := [(3, .int (nI (i + 1))), (2, .int (oI (some i))), (0, .ref q), (1, .int (nI k))]) rfl ?_
            refine g_perm [2, 3, 1, 0] rfl ?_
            exact ih4 (i + 1) (some i) (by omega) (by first | (rw [erl_n1 b1]; exact ho) | exact (erl_y0 b1 ho.symm).symm | exact (erl_y1 b1 ho.symm (by omega)).symm | exact (erl_n2 b1 ho.symm (by omega)).symm) (by omega)
          · skip
            subst b2
            refine g_aload_n C d_Grounds_earliestIn_28 rfl 0 rfl ?_
            refine g_get C lay_Grounds 0 rfl rfl 0 (by decide) m_122 rfl d_Grounds_earliestIn_29 ?_
            refine g_iload_n C d_Grounds_earliestIn_32 rfl 3 rfl ?_
            refine g_ialdN C 1 rfl (by omega) (by decide) d_Grounds_earliestIn_33 ?_
            refine g_top (show (aN R) i = nI (R i) from rfl) ?_
            refine g_aload_n C d_Grounds_earliestIn_34 rfl 0 rfl ?_
            refine g_iload_n C d_Grounds_earliestIn_35 rfl 2 rfl ?_
            refine g_iV (rest := [.int (nI (R i))]) (wr := []) C (c_Gr_roundOf l D E q qa R al j2 (by have := (erl_lt ho.symm).1; omega)) rd_Grounds_roundOf m_604 m_356 m_357 rfl rfl (Nat.le_of_ble_eq_true rfl) (Nat.le_of_ble_eq_true rfl) (Nat.le_of_ble_eq_true rfl) (Nat.le_of_ble_eq_true rfl) rfl rfl (Nat.le_of_ble_eq_true rfl) d_Grounds_earliestIn_36 [0, 1] [] rfl (by decide) rfl (by decide) (by decide) (fun r36 _ (hr36 : r36 = nI (R j2)) => ?_)
            subst hr36
            refine g_cells (ws' := [(q, .inr (1, [.ref qa, .int (nI al)])), (qa, .inl (E 0, 12, .inl (aN R)))]) [0, 1] (by decide) rfl ?_
            refine g_top (show nI (R j2) = nI (R j2) from rfl) ?_
            refine g_icmp_geN (tgt := 44) C (lt4 (hR _)) (lt4 (hR _)) d_Grounds_earliestIn_39 (by decide) (fun b3 => ?_) (fun b3 => ?_)
            · skip
              refine g_iinc (lv' := [(3, .int (nI (i + 1))), (0, .ref q), (1, .int (nI k)), (2, .int (nI j2))]) C d_Grounds_earliestIn_44 3 rfl (nI_1 _) (by decide) rfl ?_
              refine g_goto (tgt := 4) C d_Grounds_earliestIn_47 (by decide) ?_
              refine g_lv (lv' := [(3, .int (nI (i + 1))), (0, .ref q), (1, .int (nI k)), (2, .int (oI (some j2)))]) rfl ?_
              refine g_perm [1, 2, 3, 0] rfl ?_
              exact ih4 (i + 1) (some j2) (by omega) (by first | (rw [erl_n1 b1]; exact ho) | exact (erl_y0 b1 ho.symm).symm | exact (erl_y1 b1 ho.symm (by omega)).symm | exact (erl_n2 b1 ho.symm (by omega)).symm) (by omega)
            · skip
              refine g_iload_n C d_Grounds_earliestIn_42 rfl 3 rfl ?_
              refine g_istore_n (lv' := [(2, .int (nI i)), (0, .ref q), (1, .int (nI k)), (3, .int (nI i))]) C d_Grounds_earliestIn_43 rfl (by decide) rfl ?_
              refine g_iinc (lv' := [(3, .int (nI (i + 1))), (2, .int (nI i)), (0, .ref q), (1, .int (nI k))]) C d_Grounds_earliestIn_44 3 rfl (nI_1 _) (by decide) rfl ?_
              refine g_goto (tgt := 4) C d_Grounds_earliestIn_47 (by decide) ?_
              refine g_lv (lv' := [(3, .int (nI (i + 1))), (2, .int (oI (some i))), (0, .ref q), (1, .int (nI k))]) rfl ?_
              refine g_perm [2, 3, 1, 0] rfl ?_
              exact ih4 (i + 1) (some i) (by omega) (by first | (rw [erl_n1 b1]; exact ho) | exact (erl_y0 b1 ho.symm).symm | exact (erl_y1 b1 ho.symm (by omega)).symm | exact (erl_n2 b1 ho.symm (by omega)).symm) (by omega)
  refine g_lv (lv' := [(3, .int (nI 0)), (2, .int (oI none)), (0, .ref q), (1, .int (nI k))]) rfl ?_
  refine g_perm [2, 3, 1, 0] rfl ?_
  exact loop4 (12 - 0 + 1) 0 none (Nat.zero_le _) (rfl) (Nat.lt_succ_self _)

set_option maxHeartbeats 4000000 in
set_option maxRecDepth 100000 in
theorem c_Tk_say (l : Launch) (D : va_G) (E : Nat → ClassId) (v : Nat) (va : Nat) (vb : Nat) (vc : Nat) (Sa : Nat → Nat) (An : Nat → Int32) (Sd : Nat → Nat) (z : Nat) (tl : Bool) (x : Nat) (y : Int32) (sd : Nat) (hz : z < 500) : MI l D E y_Talk_say (.code y_Talk_say k_Talk_say 4 (some .int)) ({ frames := 0, cells := 0, slots := 0, locals := 0 } : Room) [.ref v, .int (nI x), .int y, .int (nI sd)] [(v, .inr (5, [.ref va, .ref vb, .ref vc, .int (nI z), .int (bI tl)])), (va, .inl (E 0, 500, .inl (aN Sa))), (vb, .inl (E 0, 500, .inl An)), (vc, .inl (E 0, 500, .inl (aN Sd)))] (fun (r : Int32) (_ : Unit) => r = nI z) (fun _ : Unit => [(v, .inr (5, [.ref va, .ref vb, .ref vc, .int (nI (z + 1)), .int (bI tl)])), (va, .inl (E 0, 500, .inl (aN (va_up Sa z x)))), (vb, .inl (E 0, 500, .inl (upd An z y))), (vc, .inl (E 0, 500, .inl (aN (va_up Sd z sd))))]) := by
  refine MI.of (by decide) (Nat.le_of_ble_eq_true rfl) ?_
  intro p e s m args below meth c A C hrt hlk hnm
  refine g_lv (lv' := [(0, .ref v), (1, .int (nI x)), (2, .int y), (3, .int (nI sd))]) rfl ?_
  refine g_aload_n C d_Talk_say_0 rfl 0 rfl ?_
  refine g_get C lay_Talk 0 rfl rfl 3 (by decide) m_138 rfl d_Talk_say_1 ?_
  refine g_sipush (v := nI 500) C d_Talk_say_4 (by decide) ?_
  refine g_icmp_ltN (tgt := 17) C (by omega) (by decide) d_Talk_say_7 (by decide) (fun b0 => ?_) (fun b0 => ?_)
  · skip
    refine g_aload_n C d_Talk_say_17 rfl 0 rfl ?_
    refine g_get C lay_Talk 0 rfl rfl 0 (by decide) m_135 rfl d_Talk_say_18 ?_
    refine g_aload_n C d_Talk_say_21 rfl 0 rfl ?_
    refine g_get C lay_Talk 0 rfl rfl 3 (by decide) m_138 rfl d_Talk_say_22 ?_
    refine g_iload_n C d_Talk_say_25 rfl 1 rfl ?_
    refine g_iastN (f' := aN (va_up Sa z x)) (ws' := [(v, .inr (5, [.ref va, .ref vb, .ref vc, .int (nI z), .int (bI tl)])), (va, .inl (E 0, 500, .inl (aN (va_up Sa z x)))), (vb, .inl (E 0, 500, .inl An)), (vc, .inl (E 0, 500, .inl (aN Sd)))]) C 1 rfl (by omega) (by decide) (aN_up _ _ _) rfl d_Talk_say_26 ?_
    refine g_aload_n C d_Talk_say_27 rfl 0 rfl ?_
    refine g_get C lay_Talk 0 rfl rfl 1 (by decide) m_136 rfl d_Talk_say_28 ?_
    refine g_aload_n C d_Talk_say_31 rfl 0 rfl ?_
    refine g_get C lay_Talk 0 rfl rfl 3 (by decide) m_138 rfl d_Talk_say_32 ?_
    refine g_iload_n C d_Talk_say_35 rfl 2 rfl ?_
    refine g_iastN (f' := upd An z y) (ws' := [(v, .inr (5, [.ref va, .ref vb, .ref vc, .int (nI z), .int (bI tl)])), (va, .inl (E 0, 500, .inl (aN (va_up Sa z x)))), (vb, .inl (E 0, 500, .inl (upd An z y))), (vc, .inl (E 0, 500, .inl (aN Sd)))]) C 2 rfl (by omega) (by decide) rfl rfl d_Talk_say_36 ?_
    refine g_aload_n C d_Talk_say_37 rfl 0 rfl ?_
    refine g_get C lay_Talk 0 rfl rfl 2 (by decide) m_137 rfl d_Talk_say_38 ?_
    refine g_aload_n C d_Talk_say_41 rfl 0 rfl ?_
    refine g_get C lay_Talk 0 rfl rfl 3 (by decide) m_138 rfl d_Talk_say_42 ?_
    refine g_iload_n C d_Talk_say_45 rfl 3 rfl ?_
    refine g_iastN (f' := aN (va_up Sd z sd)) (ws' := [(v, .inr (5, [.ref va, .ref vb, .ref vc, .int (nI z), .int (bI tl)])), (va, .inl (E 0, 500, .inl (aN (va_up Sa z x)))), (vb, .inl (E 0, 500, .inl (upd An z y))), (vc, .inl (E 0, 500, .inl (aN (va_up Sd z sd))))]) C 3 rfl (by omega) (by decide) (aN_up _ _ _) rfl d_Talk_say_46 ?_
    refine g_aload_n C d_Talk_say_47 rfl 0 rfl ?_
    refine g_dup C d_Talk_say_48 rfl ?_
    refine g_get C lay_Talk 0 rfl rfl 3 (by decide) m_138 rfl d_Talk_say_49 ?_
    refine g_iconst (v := nI 1) C d_Talk_say_52 (by decide) ?_
    refine g_iaddN C d_Talk_say_53 ?_
    refine g_put (ws' := [(v, .inr (5, [.ref va, .ref vb, .ref vc, .int (nI (z + 1)), .int (bI tl)])), (va, .inl (E 0, 500, .inl (aN (va_up Sa z x)))), (vb, .inl (E 0, 500, .inl (upd An z y))), (vc, .inl (E 0, 500, .inl (aN (va_up Sd z sd))))]) C lay_Talk ty_Talk nm_Talk 0 rfl rfl 3 (by decide) m_138 rfl rfl rfl (Nat.le_of_ble_eq_true rfl) rfl d_Talk_say_54 ?_
    refine g_aload_n C d_Talk_say_57 rfl 0 rfl ?_
    refine g_get C lay_Talk 0 rfl rfl 3 (by decide) m_138 rfl d_Talk_say_58 ?_
    refine g_iconst (v := nI 1) C d_Talk_say_61 (by decide) ?_
    refine g_isubN C (by omega) d_Talk_say_62 ?_
    exact g_iret C hrt hlk () (by rw [Nat.add_sub_cancel]) rfl d_Talk_say_63
  · skip
    exact absurd b0 (by omega)

set_option maxHeartbeats 4000000 in
set_option maxRecDepth 100000 in
theorem c_Tk_sayFull (l : Launch) (D : va_G) (E : Nat → ClassId) (v : Nat) (va : Nat) (vb : Nat) (vc : Nat) (Sa : Nat → Nat) (An : Nat → Int32) (Sd : Nat → Nat) (z : Nat) (tl : Bool) (x : Nat) (y : Int32) (sd : Nat) (hz : z = 500) : MI l D E y_Talk_say (.code y_Talk_say k_Talk_say 4 (some .int)) ({ frames := 0, cells := 0, slots := 0, locals := 0 } : Room) [.ref v, .int (nI x), .int y, .int (nI sd)] [(v, .inr (5, [.ref va, .ref vb, .ref vc, .int (nI z), .int (bI tl)])), (va, .inl (E 0, 500, .inl (aN Sa))), (vb, .inl (E 0, 500, .inl An)), (vc, .inl (E 0, 500, .inl (aN Sd)))] (fun (r : Int32) (_ : Unit) => r = (-1)) (fun _ : Unit => [(v, .inr (5, [.ref va, .ref vb, .ref vc, .int (nI z), .int (bI true)])), (va, .inl (E 0, 500, .inl (aN Sa))), (vb, .inl (E 0, 500, .inl An)), (vc, .inl (E 0, 500, .inl (aN Sd)))]) := by
  refine MI.of (by decide) (Nat.le_of_ble_eq_true rfl) ?_
  intro p e s m args below meth c A C hrt hlk hnm
  refine g_lv (lv' := [(0, .ref v), (1, .int (nI x)), (2, .int y), (3, .int (nI sd))]) rfl ?_
  refine g_aload_n C d_Talk_say_0 rfl 0 rfl ?_
  refine g_get C lay_Talk 0 rfl rfl 3 (by decide) m_138 rfl d_Talk_say_1 ?_
  refine g_sipush (v := nI 500) C d_Talk_say_4 (by decide) ?_
  refine g_icmp_ltN (tgt := 17) C (by omega) (by decide) d_Talk_say_7 (by decide) (fun b0 => ?_) (fun b0 => ?_)
  · skip
    exact absurd b0 (by omega)
  · skip
    refine g_aload_n C d_Talk_say_10 rfl 0 rfl ?_
    refine g_iconst (v := nI 1) C d_Talk_say_11 (by decide) ?_
    refine g_top (show nI 1 = bI true from rfl) ?_
    refine g_put (ws' := [(v, .inr (5, [.ref va, .ref vb, .ref vc, .int (nI z), .int (bI true)])), (va, .inl (E 0, 500, .inl (aN Sa))), (vb, .inl (E 0, 500, .inl An)), (vc, .inl (E 0, 500, .inl (aN Sd)))]) C lay_Talk ty_Talk nm_Talk 0 rfl rfl 4 (by decide) m_139 rfl (bI_nar _) (bI_fit _) (Nat.le_of_ble_eq_true rfl) rfl d_Talk_say_12 ?_
    refine g_iconst (v := (-1)) C d_Talk_say_15 (by decide) ?_
    exact g_iret C hrt hlk () (rfl) rfl d_Talk_say_16

set_option maxHeartbeats 4000000 in
set_option maxRecDepth 100000 in
theorem c_Ri_size (l : Launch) (D : va_G) (E : Nat → ClassId) (w : Nat) (wa : Nat) (wb : Nat) (X : Nat → Nat) (Y : Nat → Nat) (z : Nat)  : MI l D E y_Rings_size (.code y_Rings_size k_Rings_size 1 (some .int)) ({ frames := 0, cells := 0, slots := 0, locals := 0 } : Room) [.ref w] [(w, .inr (3, [.ref wa, .ref wb, .int (nI z)])), (wa, .inl (E 0, 12, .inl (aN X))), (wb, .inl (E 0, 12, .inl (aN Y)))] (fun (r : Int32) (_ : Unit) => r = nI z) (fun _ : Unit => [(w, .inr (3, [.ref wa, .ref wb, .int (nI z)])), (wa, .inl (E 0, 12, .inl (aN X))), (wb, .inl (E 0, 12, .inl (aN Y)))]) := by
  refine MI.of (by decide) (Nat.le_of_ble_eq_true rfl) ?_
  intro p e s m args below meth c A C hrt hlk hnm
  refine g_lv (lv' := [(0, .ref w)]) rfl ?_
  refine g_aload_n C d_Rings_size_0 rfl 0 rfl ?_
  refine g_get C lay_Rings 0 rfl rfl 2 (by decide) m_159 rfl d_Rings_size_1 ?_
  exact g_iret C hrt hlk () (rfl) rfl d_Rings_size_4

set_option maxHeartbeats 4000000 in
set_option maxRecDepth 100000 in
theorem c_Ri_ringOf (l : Launch) (D : va_G) (E : Nat → ClassId) (w : Nat) (wa : Nat) (wb : Nat) (X : Nat → Nat) (Y : Nat → Nat) (z : Nat) (i : Nat) (hi : i < 12) : MI l D E y_Rings_ringOf (.code y_Rings_ringOf k_Rings_ringOf 2 (some .int)) ({ frames := 0, cells := 0, slots := 0, locals := 0 } : Room) [.ref w, .int (nI i)] [(w, .inr (3, [.ref wa, .ref wb, .int (nI z)])), (wa, .inl (E 0, 12, .inl (aN X))), (wb, .inl (E 0, 12, .inl (aN Y)))] (fun (r : Int32) (_ : Unit) => r = nI (Y i)) (fun _ : Unit => [(w, .inr (3, [.ref wa, .ref wb, .int (nI z)])), (wa, .inl (E 0, 12, .inl (aN X))), (wb, .inl (E 0, 12, .inl (aN Y)))]) := by
  refine MI.of (by decide) (Nat.le_of_ble_eq_true rfl) ?_
  intro p e s m args below meth c A C hrt hlk hnm
  refine g_lv (lv' := [(0, .ref w), (1, .int (nI i))]) rfl ?_
  refine g_iload_n C d_Rings_ringOf_0 rfl 1 rfl ?_
  refine g_if_ltN (tgt := 19) C (by omega) d_Rings_ringOf_1 (by decide) ?_
  refine g_iload_n C d_Rings_ringOf_4 rfl 1 rfl ?_
  refine g_bipush (v := nI 12) C d_Rings_ringOf_5 (by decide) ?_
  refine g_icmp_geN (tgt := 19) C (by omega) (by decide) d_Rings_ringOf_7 (by decide) (fun b1 => ?_) (fun b1 => ?_)
  · skip
    exact absurd b1 (by omega)
  · skip
    refine g_aload_n C d_Rings_ringOf_10 rfl 0 rfl ?_
    refine g_get C lay_Rings 0 rfl rfl 1 (by decide) m_158 rfl d_Rings_ringOf_11 ?_
    refine g_iload_n C d_Rings_ringOf_14 rfl 1 rfl ?_
    refine g_ialdN C 2 rfl (by omega) (by decide) d_Rings_ringOf_15 ?_
    refine g_top (show (aN Y) i = nI (Y i) from rfl) ?_
    refine g_goto (tgt := 20) C d_Rings_ringOf_16 (by decide) ?_
    exact g_iret C hrt hlk () (rfl) rfl d_Rings_ringOf_20

set_option maxHeartbeats 4000000 in
set_option maxRecDepth 100000 in
theorem c_Ri_around (l : Launch) (D : va_G) (E : Nat → ClassId) (w : Nat) (wa : Nat) (wb : Nat) (X : Nat → Nat) (Y : Nat → Nat) (z : Nat) (a : Nat) (n : Nat) (hn : n ≤ 12) (ha : a < 12) (hX : ∀ a, X a < 4096) : MI l D E y_Rings_around (.code y_Rings_around k_Rings_around 5 (some .int)) ({ frames := 1, cells := 0, slots := 0, locals := 21 } : Room) [.ref w, .int (nI a), .int (nI n)] [(w, .inr (3, [.ref wa, .ref wb, .int (nI z)])), (wa, .inl (E 0, 12, .inl (aN X))), (wb, .inl (E 0, 12, .inl (aN Y)))] (fun (r : Int32) (_ : Unit) => r = nI (arU X a n)) (fun _ : Unit => [(w, .inr (3, [.ref wa, .ref wb, .int (nI z)])), (wa, .inl (E 0, 12, .inl (aN X))), (wb, .inl (E 0, 12, .inl (aN Y)))]) := by
  refine MI.of (by decide) (Nat.le_of_ble_eq_true rfl) ?_
  intro p e s m args below meth c A C hrt hlk hnm
  refine g_lv (lv' := [(0, .ref w), (1, .int (nI a)), (2, .int (nI n))]) rfl ?_
  refine g_iconst (v := nI 0) C d_Rings_around_0 (by decide) ?_
  refine g_istore_n (lv' := [(3, .int (nI 0)), (0, .ref w), (1, .int (nI a)), (2, .int (nI n))]) C d_Rings_around_1 rfl (by decide) rfl ?_
  refine g_iconst (v := nI 0) C d_Rings_around_2 (by decide) ?_
  refine g_istore (lv' := [(4, .int (nI 0)), (3, .int (nI 0)), (0, .ref w), (1, .int (nI a)), (2, .int (nI n))]) C d_Rings_around_3 (by decide) rfl ?_
  have loop5 : ∀ (f : Nat) (i : Nat) (acc : Nat), (i ≤ n) → (acc = arU X a i) → n - i < f → GG p l e ({ frames := 1, cells := 0, slots := 0, locals := 21 } : Room) s m args below meth c (MQ below (va_Qi (fun (r : Int32) (_ : Unit) => r = nI (arU X a n)) (BC D A (fun _ : Unit => [(w, .inr (3, [.ref wa, .ref wb, .int (nI z)])), (wa, .inl (E 0, 12, .inl (aN X))), (wb, .inl (E 0, 12, .inl (aN Y)))])) A) args s (({ frames := 1, cells := 0, slots := 0, locals := 21 } : Room)).cells (({ frames := 1, cells := 0, slots := 0, locals := 21 } : Room)).slots A) D A 5 0 0 5 [(0, .ref w), (1, .int (nI a)), (2, .int (nI n)), (3, .int (nI acc)), (4, .int (nI i))] [] [(w, .inr (3, [.ref wa, .ref wb, .int (nI z)])), (wa, .inl (E 0, 12, .inl (aN X))), (wb, .inl (E 0, 12, .inl (aN Y)))] := by
    intro f
    induction f with
    | zero => intro i acc hi hc hf; exact absurd hf (Nat.not_lt_zero _)
    | succ f ih =>
      intro i acc hi hc hf
      have ih5 := ih
      refine g_iload C d_Rings_around_5 4 rfl ?_
      refine g_iload_n C d_Rings_around_7 rfl 2 rfl ?_
      refine g_icmp_geN (tgt := 59) C (by omega) (by omega) d_Rings_around_8 (by decide) (fun b0 => ?_) (fun b0 => ?_)
      · skip
        refine g_iload_n C d_Rings_around_59 rfl 3 rfl ?_
        exact g_iret C hrt hlk () (by rw [hc, show i = n by omega]) rfl d_Rings_around_60
      · skip
        refine g_iload C d_Rings_around_11 4 rfl ?_
        refine g_bipush (v := nI 12) C d_Rings_around_13 (by decide) ?_
        refine g_icmp_geN (tgt := 59) C (by omega) (by decide) d_Rings_around_15 (by decide) (fun b1 => ?_) (fun b1 => ?_)
        · skip
          refine g_iload_n C d_Rings_around_59 rfl 3 rfl ?_
          exact g_iret C hrt hlk () (by rw [hc, show i = n by omega]) rfl d_Rings_around_60
        · skip
          refine g_iload C d_Rings_around_18 4 rfl ?_
          refine g_aload_n C d_Rings_around_20 rfl 0 rfl ?_
          refine g_get C lay_Rings 0 rfl rfl 0 (by decide) m_157 rfl d_Rings_around_21 ?_
          refine g_iload_n C d_Rings_around_24 rfl 1 rfl ?_
          refine g_ialdN C 1 rfl (by omega) (by decide) d_Rings_around_25 ?_
          refine g_top (show (aN X) a = nI (X a) from rfl) ?_
          refine g_iSN (rest := []) (wr := [(w, .inr (3, [.ref wa, .ref wb, .int (nI z)])), (wa, .inl (E 0, 12, .inl (aN X))), (wb, .inl (E 0, 12, .inl (aN Y)))]) C (c_isIn l D E i (X a) (by omega) (lt4 (hX _))) rd_AB_isIn m_393 m_225 (Nat.le_of_ble_eq_true rfl) (Nat.le_of_ble_eq_true rfl) (Nat.le_of_ble_eq_true rfl) (Nat.le_of_ble_eq_true rfl) rfl rfl (Nat.le_of_ble_eq_true rfl) d_Rings_around_26 [] [0, 1, 2] rfl (by decide) rfl (by decide) (by decide) (fun r26 _ (hr26 : r26 = bI ((X a).testBit i)) => ?_)
          subst hr26
          refine g_cells (ws' := [(w, .inr (3, [.ref wa, .ref wb, .int (nI z)])), (wa, .inl (E 0, 12, .inl (aN X))), (wb, .inl (E 0, 12, .inl (aN Y)))]) [0, 1, 2] (by decide) rfl ?_
          refine g_if_eqB (tgt := 53) C d_Rings_around_29 (by decide) (fun b2 => ?_) (fun b2 => ?_)
          · skip
            refine g_iinc (lv' := [(4, .int (nI (i + 1))), (0, .ref w), (1, .int (nI a)), (2, .int (nI n)), (3, .int (nI acc))]) C d_Rings_around_53 4 rfl (nI_1 _) (by decide) rfl ?_
            refine g_goto (tgt := 5) C d_Rings_around_56 (by decide) ?_
            refine g_perm [1, 2, 3, 4, 0] rfl ?_
            exact ih5 (i + 1) acc (by omega) (by simp [arU, *]) (by omega)
          · skip
            refine g_iload_n C d_Rings_around_32 rfl 1 rfl ?_
            refine g_aload_n C d_Rings_around_33 rfl 0 rfl ?_
            refine g_get C lay_Rings 0 rfl rfl 0 (by decide) m_157 rfl d_Rings_around_34 ?_
            refine g_iload C d_Rings_around_37 4 rfl ?_
            refine g_ialdN C 1 rfl (by omega) (by decide) d_Rings_around_39 ?_
            refine g_top (show (aN X) i = nI (X i) from rfl) ?_
            refine g_iSN (rest := []) (wr := [(w, .inr (3, [.ref wa, .ref wb, .int (nI z)])), (wa, .inl (E 0, 12, .inl (aN X))), (wb, .inl (E 0, 12, .inl (aN Y)))]) C (c_isIn l D E a (X i) (by omega) (lt4 (hX _))) rd_AB_isIn m_393 m_225 (Nat.le_of_ble_eq_true rfl) (Nat.le_of_ble_eq_true rfl) (Nat.le_of_ble_eq_true rfl) (Nat.le_of_ble_eq_true rfl) rfl rfl (Nat.le_of_ble_eq_true rfl) d_Rings_around_40 [] [0, 1, 2] rfl (by decide) rfl (by decide) (by decide) (fun r40 _ (hr40 : r40 = bI ((X i).testBit a)) => ?_)
            subst hr40
            refine g_cells (ws' := [(w, .inr (3, [.ref wa, .ref wb, .int (nI z)])), (wa, .inl (E 0, 12, .inl (aN X))), (wb, .inl (E 0, 12, .inl (aN Y)))]) [0, 1, 2] (by decide) rfl ?_
            refine g_if_eqB (tgt := 53) C d_Rings_around_43 (by decide) (fun b3 => ?_) (fun b3 => ?_)
            · skip
              refine g_iinc (lv' := [(4, .int (nI (i + 1))), (0, .ref w), (1, .int (nI a)), (2, .int (nI n)), (3, .int (nI acc))]) C d_Rings_around_53 4 rfl (nI_1 _) (by decide) rfl ?_
              refine g_goto (tgt := 5) C d_Rings_around_56 (by decide) ?_
              refine g_perm [1, 2, 3, 4, 0] rfl ?_
              exact ih5 (i + 1) acc (by omega) (by simp [arU, *]) (by omega)
            · skip
              refine g_iload_n C d_Rings_around_46 rfl 3 rfl ?_
              refine g_iconst (v := nI 1) C d_Rings_around_47 (by decide) ?_
              refine g_iload C d_Rings_around_48 4 rfl ?_
              refine g_ishl1N C (by omega) d_Rings_around_50 ?_
              refine g_iorN C d_Rings_around_51 ?_
              refine g_istore_n (lv' := [(3, .int (nI (acc ||| (2 ^ i)))), (0, .ref w), (1, .int (nI a)), (2, .int (nI n)), (4, .int (nI i))]) C d_Rings_around_52 rfl (by decide) rfl ?_
              refine g_iinc (lv' := [(4, .int (nI (i + 1))), (3, .int (nI (acc ||| (2 ^ i)))), (0, .ref w), (1, .int (nI a)), (2, .int (nI n))]) C d_Rings_around_53 4 rfl (nI_1 _) (by decide) rfl ?_
              refine g_goto (tgt := 5) C d_Rings_around_56 (by decide) ?_
              refine g_perm [2, 3, 4, 1, 0] rfl ?_
              exact ih5 (i + 1) (acc ||| (2 ^ i)) (by omega) (by simp [arU, *]) (by omega)
  refine g_perm [2, 3, 4, 1, 0] rfl ?_
  exact loop5 (n - 0 + 1) 0 0 (Nat.zero_le _) (rfl) (Nat.lt_succ_self _)

set_option maxHeartbeats 4000000 in
set_option maxRecDepth 100000 in
theorem c_Ri_around12 (l : Launch) (D : va_G) (E : Nat → ClassId) (w : Nat) (wa : Nat) (wb : Nat) (X : Nat → Nat) (Y : Nat → Nat) (z : Nat) (a : Nat) (n : Nat) (hn : n ≤ 12) (ha : a < 12) (hX : ∀ a, a < 12 → X a < 4096) : MI l D E y_Rings_around (.code y_Rings_around k_Rings_around 5 (some .int)) ({ frames := 1, cells := 0, slots := 0, locals := 21 } : Room) [.ref w, .int (nI a), .int (nI n)] [(w, .inr (3, [.ref wa, .ref wb, .int (nI z)])), (wa, .inl (E 0, 12, .inl (aN X))), (wb, .inl (E 0, 12, .inl (aN Y)))] (fun (r : Int32) (_ : Unit) => r = nI (arU X a n)) (fun _ : Unit => [(w, .inr (3, [.ref wa, .ref wb, .int (nI z)])), (wa, .inl (E 0, 12, .inl (aN X))), (wb, .inl (E 0, 12, .inl (aN Y)))]) := by
  refine MI.of (by decide) (Nat.le_of_ble_eq_true rfl) ?_
  intro p e s m args below meth c A C hrt hlk hnm
  refine g_lv (lv' := [(0, .ref w), (1, .int (nI a)), (2, .int (nI n))]) rfl ?_
  refine g_iconst (v := nI 0) C d_Rings_around_0 (by decide) ?_
  refine g_istore_n (lv' := [(3, .int (nI 0)), (0, .ref w), (1, .int (nI a)), (2, .int (nI n))]) C d_Rings_around_1 rfl (by decide) rfl ?_
  refine g_iconst (v := nI 0) C d_Rings_around_2 (by decide) ?_
  refine g_istore (lv' := [(4, .int (nI 0)), (3, .int (nI 0)), (0, .ref w), (1, .int (nI a)), (2, .int (nI n))]) C d_Rings_around_3 (by decide) rfl ?_
  have loop5 : ∀ (f : Nat) (i : Nat) (acc : Nat), (i ≤ n) → (acc = arU X a i) → n - i < f → GG p l e ({ frames := 1, cells := 0, slots := 0, locals := 21 } : Room) s m args below meth c (MQ below (va_Qi (fun (r : Int32) (_ : Unit) => r = nI (arU X a n)) (BC D A (fun _ : Unit => [(w, .inr (3, [.ref wa, .ref wb, .int (nI z)])), (wa, .inl (E 0, 12, .inl (aN X))), (wb, .inl (E 0, 12, .inl (aN Y)))])) A) args s (({ frames := 1, cells := 0, slots := 0, locals := 21 } : Room)).cells (({ frames := 1, cells := 0, slots := 0, locals := 21 } : Room)).slots A) D A 5 0 0 5 [(0, .ref w), (1, .int (nI a)), (2, .int (nI n)), (3, .int (nI acc)), (4, .int (nI i))] [] [(w, .inr (3, [.ref wa, .ref wb, .int (nI z)])), (wa, .inl (E 0, 12, .inl (aN X))), (wb, .inl (E 0, 12, .inl (aN Y)))] := by
    intro f
    induction f with
    | zero => intro i acc hi hc hf; exact absurd hf (Nat.not_lt_zero _)
    | succ f ih =>
      intro i acc hi hc hf
      have ih5 := ih
      refine g_iload C d_Rings_around_5 4 rfl ?_
      refine g_iload_n C d_Rings_around_7 rfl 2 rfl ?_
      refine g_icmp_geN (tgt := 59) C (by omega) (by omega) d_Rings_around_8 (by decide) (fun b0 => ?_) (fun b0 => ?_)
      · skip
        refine g_iload_n C d_Rings_around_59 rfl 3 rfl ?_
        exact g_iret C hrt hlk () (by rw [hc, show i = n by omega]) rfl d_Rings_around_60
      · skip
        refine g_iload C d_Rings_around_11 4 rfl ?_
        refine g_bipush (v := nI 12) C d_Rings_around_13 (by decide) ?_
        refine g_icmp_geN (tgt := 59) C (by omega) (by decide) d_Rings_around_15 (by decide) (fun b1 => ?_) (fun b1 => ?_)
        · skip
          refine g_iload_n C d_Rings_around_59 rfl 3 rfl ?_
          exact g_iret C hrt hlk () (by rw [hc, show i = n by omega]) rfl d_Rings_around_60
        · skip
          refine g_iload C d_Rings_around_18 4 rfl ?_
          refine g_aload_n C d_Rings_around_20 rfl 0 rfl ?_
          refine g_get C lay_Rings 0 rfl rfl 0 (by decide) m_157 rfl d_Rings_around_21 ?_
          refine g_iload_n C d_Rings_around_24 rfl 1 rfl ?_
          refine g_ialdN C 1 rfl (by omega) (by decide) d_Rings_around_25 ?_
          refine g_top (show (aN X) a = nI (X a) from rfl) ?_
          refine g_iSN (rest := []) (wr := [(w, .inr (3, [.ref wa, .ref wb, .int (nI z)])), (wa, .inl (E 0, 12, .inl (aN X))), (wb, .inl (E 0, 12, .inl (aN Y)))]) C (c_isIn l D E i (X a) (by omega) (lt4 (hX _ (by omega)))) rd_AB_isIn m_393 m_225 (Nat.le_of_ble_eq_true rfl) (Nat.le_of_ble_eq_true rfl) (Nat.le_of_ble_eq_true rfl) (Nat.le_of_ble_eq_true rfl) rfl rfl (Nat.le_of_ble_eq_true rfl) d_Rings_around_26 [] [0, 1, 2] rfl (by decide) rfl (by decide) (by decide) (fun r26 _ (hr26 : r26 = bI ((X a).testBit i)) => ?_)
          subst hr26
          refine g_cells (ws' := [(w, .inr (3, [.ref wa, .ref wb, .int (nI z)])), (wa, .inl (E 0, 12, .inl (aN X))), (wb, .inl (E 0, 12, .inl (aN Y)))]) [0, 1, 2] (by decide) rfl ?_
          refine g_if_eqB (tgt := 53) C d_Rings_around_29 (by decide) (fun b2 => ?_) (fun b2 => ?_)
          · skip
            refine g_iinc (lv' := [(4, .int (nI (i + 1))), (0, .ref w), (1, .int (nI a)), (2, .int (nI n)), (3, .int (nI acc))]) C d_Rings_around_53 4 rfl (nI_1 _) (by decide) rfl ?_
            refine g_goto (tgt := 5) C d_Rings_around_56 (by decide) ?_
            refine g_perm [1, 2, 3, 4, 0] rfl ?_
            exact ih5 (i + 1) acc (by omega) (by simp [arU, *]) (by omega)
          · skip
            refine g_iload_n C d_Rings_around_32 rfl 1 rfl ?_
            refine g_aload_n C d_Rings_around_33 rfl 0 rfl ?_
            refine g_get C lay_Rings 0 rfl rfl 0 (by decide) m_157 rfl d_Rings_around_34 ?_
            refine g_iload C d_Rings_around_37 4 rfl ?_
            refine g_ialdN C 1 rfl (by omega) (by decide) d_Rings_around_39 ?_
            refine g_top (show (aN X) i = nI (X i) from rfl) ?_
            refine g_iSN (rest := []) (wr := [(w, .inr (3, [.ref wa, .ref wb, .int (nI z)])), (wa, .inl (E 0, 12, .inl (aN X))), (wb, .inl (E 0, 12, .inl (aN Y)))]) C (c_isIn l D E a (X i) (by omega) (lt4 (hX _ (by omega)))) rd_AB_isIn m_393 m_225 (Nat.le_of_ble_eq_true rfl) (Nat.le_of_ble_eq_true rfl) (Nat.le_of_ble_eq_true rfl) (Nat.le_of_ble_eq_true rfl) rfl rfl (Nat.le_of_ble_eq_true rfl) d_Rings_around_40 [] [0, 1, 2] rfl (by decide) rfl (by decide) (by decide) (fun r40 _ (hr40 : r40 = bI ((X i).testBit a)) => ?_)
            subst hr40
            refine g_cells (ws' := [(w, .inr (3, [.ref wa, .ref wb, .int (nI z)])), (wa, .inl (E 0, 12, .inl (aN X))), (wb, .inl (E 0, 12, .inl (aN Y)))]) [0, 1, 2] (by decide) rfl ?_
            refine g_if_eqB (tgt := 53) C d_Rings_around_43 (by decide) (fun b3 => ?_) (fun b3 => ?_)
            · skip
              refine g_iinc (lv' := [(4, .int (nI (i + 1))), (0, .ref w), (1, .int (nI a)), (2, .int (nI n)), (3, .int (nI acc))]) C d_Rings_around_53 4 rfl (nI_1 _) (by decide) rfl ?_
              refine g_goto (tgt := 5) C d_Rings_around_56 (by decide) ?_
              refine g_perm [1, 2, 3, 4, 0] rfl ?_
              exact ih5 (i + 1) acc (by omega) (by simp [arU, *]) (by omega)
            · skip
              refine g_iload_n C d_Rings_around_46 rfl 3 rfl ?_
              refine g_iconst (v := nI 1) C d_Rings_around_47 (by decide) ?_
              refine g_iload C d_Rings_around_48 4 rfl ?_
              refine g_ishl1N C (by omega) d_Rings_around_50 ?_
              refine g_iorN C d_Rings_around_51 ?_
              refine g_istore_n (lv' := [(3, .int (nI (acc ||| (2 ^ i)))), (0, .ref w), (1, .int (nI a)), (2, .int (nI n)), (4, .int (nI i))]) C d_Rings_around_52 rfl (by decide) rfl ?_
              refine g_iinc (lv' := [(4, .int (nI (i + 1))), (3, .int (nI (acc ||| (2 ^ i)))), (0, .ref w), (1, .int (nI a)), (2, .int (nI n))]) C d_Rings_around_53 4 rfl (nI_1 _) (by decide) rfl ?_
              refine g_goto (tgt := 5) C d_Rings_around_56 (by decide) ?_
              refine g_perm [2, 3, 4, 1, 0] rfl ?_
              exact ih5 (i + 1) (acc ||| (2 ^ i)) (by omega) (by simp [arU, *]) (by omega)
  refine g_perm [2, 3, 4, 1, 0] rfl ?_
  exact loop5 (n - 0 + 1) 0 0 (Nat.zero_le _) (rfl) (Nat.lt_succ_self _)

set_option maxHeartbeats 4000000 in
set_option maxRecDepth 100000 in
theorem c_Ri_number (l : Launch) (D : va_G) (E : Nat → ClassId) (w : Nat) (wa : Nat) (wb : Nat) (X : Nat → Nat) (Y : Nat → Nat) (z : Nat) (k : Nat) (hk : k < 2 ^ 31) : MV l D E y_Rings_number (.code y_Rings_number k_Rings_number 3 none) ({ frames := 1, cells := 0, slots := 0, locals := 21 } : Room) [.ref w, .int (nI k)] [(w, .inr (3, [.ref wa, .ref wb, .int (nI z)])), (wa, .inl (E 0, 12, .inl (aN X))), (wb, .inl (E 0, 12, .inl (aN Y)))] (fun _ : Unit => True) (fun _ : Unit => [(w, .inr (3, [.ref wa, .ref wb, .int (nI (if k = 0 then z else z + 1))])), (wa, .inl (E 0, 12, .inl (aN X))), (wb, .inl (E 0, 12, .inl (aN (if k = 0 then Y else nbU Y k z))))]) := by
  refine MV.of (by decide) (Nat.le_of_ble_eq_true rfl) ?_
  intro p e s m args below meth c A C hrt hlk hnm
  refine g_lv (lv' := [(0, .ref w), (1, .int (nI k))]) rfl ?_
  refine g_iload_n C d_Rings_number_0 rfl 1 rfl ?_
  refine g_if_neN (tgt := 5) C hk d_Rings_number_1 (by decide) (fun b0 => ?_) (fun b0 => ?_)
  · skip
    refine g_iconst (v := nI 0) C d_Rings_number_5 (by decide) ?_
    refine g_istore_n (lv' := [(2, .int (nI 0)), (0, .ref w), (1, .int (nI k))]) C d_Rings_number_6 rfl (by decide) rfl ?_
    have loop7 : ∀ (f : Nat) (i : Nat) (V : Nat → Nat), (i ≤ 12) → (V = nrU Y k z i) → 12 - i < f → GG p l e ({ frames := 1, cells := 0, slots := 0, locals := 21 } : Room) s m args below meth c (MQ below (va_Qv (fun _ : Unit => True) (BC D A (fun _ : Unit => [(w, .inr (3, [.ref wa, .ref wb, .int (nI (if k = 0 then z else z + 1))])), (wa, .inl (E 0, 12, .inl (aN X))), (wb, .inl (E 0, 12, .inl (aN (if k = 0 then Y else nbU Y k z))))])) A) args s (({ frames := 1, cells := 0, slots := 0, locals := 21 } : Room)).cells (({ frames := 1, cells := 0, slots := 0, locals := 21 } : Room)).slots A) D A 3 0 0 7 [(0, .ref w), (1, .int (nI k)), (2, .int (nI i))] [] [(w, .inr (3, [.ref wa, .ref wb, .int (nI z)])), (wa, .inl (E 0, 12, .inl (aN X))), (wb, .inl (E 0, 12, .inl (aN V)))] := by
      intro f
      induction f with
      | zero => intro i V hi hV hf; exact absurd hf (Nat.not_lt_zero _)
      | succ f ih =>
        intro i V hi hV hf
        have ih7 := ih
        refine g_iload_n C d_Rings_number_7 rfl 2 rfl ?_
        refine g_bipush (v := nI 12) C d_Rings_number_8 (by decide) ?_
        refine g_icmp_geN (tgt := 37) C (by omega) (by decide) d_Rings_number_10 (by decide) (fun b1 => ?_) (fun b1 => ?_)
        · skip
          refine g_aload_n C d_Rings_number_37 rfl 0 rfl ?_
          refine g_dup C d_Rings_number_38 rfl ?_
          refine g_get C lay_Rings 0 rfl rfl 2 (by decide) m_159 rfl d_Rings_number_39 ?_
          refine g_iconst (v := nI 1) C d_Rings_number_42 (by decide) ?_
          refine g_iaddN C d_Rings_number_43 ?_
          refine g_put (ws' := [(w, .inr (3, [.ref wa, .ref wb, .int (nI (z + 1))])), (wa, .inl (E 0, 12, .inl (aN X))), (wb, .inl (E 0, 12, .inl (aN V)))]) C lay_Rings ty_Rings nm_Rings 0 rfl rfl 2 (by decide) m_159 rfl rfl rfl (Nat.le_of_ble_eq_true rfl) rfl d_Rings_number_44 ?_
          exact g_vret C hrt hlk () (trivial) (by rw [if_neg b0, if_neg b0, hV, show i = 12 by omega]; rfl) d_Rings_number_47
        · skip
          refine g_iload_n C d_Rings_number_13 rfl 2 rfl ?_
          refine g_iload_n C d_Rings_number_14 rfl 1 rfl ?_
          refine g_iSN (rest := []) (wr := [(w, .inr (3, [.ref wa, .ref wb, .int (nI z)])), (wa, .inl (E 0, 12, .inl (aN X))), (wb, .inl (E 0, 12, .inl (aN V)))]) C (c_isIn l D E i k (by omega) hk) rd_AB_isIn m_393 m_225 (Nat.le_of_ble_eq_true rfl) (Nat.le_of_ble_eq_true rfl) (Nat.le_of_ble_eq_true rfl) (Nat.le_of_ble_eq_true rfl) rfl rfl (Nat.le_of_ble_eq_true rfl) d_Rings_number_15 [] [0, 1, 2] rfl (by decide) rfl (by decide) (by decide) (fun r15 _ (hr15 : r15 = bI (k.testBit i)) => ?_)
          subst hr15
          refine g_cells (ws' := [(w, .inr (3, [.ref wa, .ref wb, .int (nI z)])), (wa, .inl (E 0, 12, .inl (aN X))), (wb, .inl (E 0, 12, .inl (aN V)))]) [0, 1, 2] (by decide) rfl ?_
          refine g_if_eqB (tgt := 31) C d_Rings_number_18 (by decide) (fun b2 => ?_) (fun b2 => ?_)
          · skip
            refine g_iinc (lv' := [(2, .int (nI (i + 1))), (0, .ref w), (1, .int (nI k))]) C d_Rings_number_31 2 rfl (nI_1 _) (by decide) rfl ?_
            refine g_goto (tgt := 7) C d_Rings_number_34 (by decide) ?_
            refine g_perm [1, 2, 0] rfl ?_
            exact ih7 (i + 1) V (by omega) (by first | (rw [hV]; exact nrU_y b2) | (rw [hV]; exact nrU_n b2)) (by omega)
          · skip
            refine g_aload_n C d_Rings_number_21 rfl 0 rfl ?_
            refine g_get C lay_Rings 0 rfl rfl 1 (by decide) m_158 rfl d_Rings_number_22 ?_
            refine g_iload_n C d_Rings_number_25 rfl 2 rfl ?_
            refine g_aload_n C d_Rings_number_26 rfl 0 rfl ?_
            refine g_get C lay_Rings 0 rfl rfl 2 (by decide) m_159 rfl d_Rings_number_27 ?_
            refine g_iastN (f' := aN (va_up V i z)) (ws' := [(w, .inr (3, [.ref wa, .ref wb, .int (nI z)])), (wa, .inl (E 0, 12, .inl (aN X))), (wb, .inl (E 0, 12, .inl (aN (va_up V i z))))]) C 2 rfl (by omega) (by decide) (aN_up _ _ _) rfl d_Rings_number_30 ?_
            refine g_iinc (lv' := [(2, .int (nI (i + 1))), (0, .ref w), (1, .int (nI k))]) C d_Rings_number_31 2 rfl (nI_1 _) (by decide) rfl ?_
            refine g_goto (tgt := 7) C d_Rings_number_34 (by decide) ?_
            refine g_perm [1, 2, 0] rfl ?_
            exact ih7 (i + 1) (va_up V i z) (by omega) (by first | (rw [hV]; exact nrU_y b2) | (rw [hV]; exact nrU_n b2)) (by omega)
    refine g_perm [1, 2, 0] rfl ?_
    exact loop7 (12 - 0 + 1) 0 Y (Nat.zero_le _) ((nrU_0 _ _ _).symm) (Nat.lt_succ_self _)
  · skip
    exact g_vret C hrt hlk () (trivial) (by rw [if_pos b0, if_pos b0]) d_Rings_number_4
end
section
/-! Rings, Talk.tell: what the walks need -/
theorem rcA_lt {T : Nat → Nat} {n a : Nat} (hT : ∀ a, T a < 4096) (ha : a < 12) : rcA T n a < 4096 := by
  unfold rcA
  refine Nat.or_lt_two_pow (n := 12) ?_ (Nat.pow_lt_pow_right (by decide) ha)
  split
  · exact hT a
  · decide
theorem rcU_lt {X : Nat → Nat} {by_ : Nat} (hb : by_ < 12) (hX : ∀ a, a < 12 → X a < 4096) : ∀ i a, a < 12 → rcU X by_ i a < 4096 := by
  intro i
  induction i with
  | zero => exact hX
  | succ i ih =>
    intro a ha
    simp only [rcU]
    split
    · simp only [va_up]
      split
      · rename_i e; subst e; exact Nat.or_lt_two_pow (n := 12) (ih _ ha) (ih _ hb)
      · exact ih a ha
    · exact ih a ha
theorem rcB_lt {X : Nat → Nat} {n : Nat} (hX : ∀ a, a < 12 → X a < 4096) : ∀ b, b ≤ 12 → ∀ a, a < 12 → rcB X n b a < 4096 := by
  intro b
  induction b with
  | zero => intro _; exact hX
  | succ b ih => intro hb; exact rcU_lt (by omega) (ih (by omega)) n
theorem frd_y {X U : Nat → Nat} {n dn a F : Nat} (h : frd X U n dn (n - a) a = F) (ha : a < n) (h1 : dn.testBit a = false) (h2 : (dif (tgU U (arU X a n) n) (arU X a n ||| dn) == 0) = true) : F = arU X a n := by
  rw [← h, show n - a = (n - a - 1) + 1 by omega]
  simp only [frd]
  rw [if_pos ⟨h1, beq_iff_eq.mp h2⟩]
theorem frd_n1 {X U : Nat → Nat} {n dn a F : Nat} (h : frd X U n dn (n - a) a = F) (ha : a < n) (h1 : dn.testBit a = true) : frd X U n dn (n - (a + 1)) (a + 1) = F := by
  rw [← h, show n - a = (n - (a + 1)) + 1 by omega]
  simp only [frd]
  rw [if_neg (fun q => by rw [h1] at q; cases q.1)]
theorem frd_n2 {X U : Nat → Nat} {n dn a F : Nat} (h : frd X U n dn (n - a) a = F) (ha : a < n) (h2 : (dif (tgU U (arU X a n) n) (arU X a n ||| dn) == 0) = false) : frd X U n dn (n - (a + 1)) (a + 1) = F := by
  rw [← h, show n - a = (n - (a + 1)) + 1 by omega]
  simp only [frd]
  rw [if_neg (fun q => beq_eq_false_iff_ne.mp h2 q.2)]
theorem frd_e {X U : Nat → Nat} {n dn a F : Nat} (h : frd X U n dn (n - a) a = F) (ha : n ≤ a) : F = 0 := by
  rw [← h, show n - a = 0 by omega]
  rfl
theorem sw_no {x : Int32} (j : Nat) (hj : j ≤ 2) (q : x = nI j) (h0 : ¬ x = 0) (h1 : ¬ x = 1) (h2 : ¬ x = 2) : False := by
  match j, hj with
  | 0, _ => exact h0 (q.trans (by decide))
  | 1, _ => exact h1 (q.trans (by decide))
  | 2, _ => exact h2 (q.trans (by decide))
theorem fnd_dn {X U : Nat → Nat} {n : Nat} {Y : Nat → Nat} (hn : n ≤ 12) : ∀ k, (fnd X U n Y k).2.2 < 4096 := by
  intro k
  induction k with
  | zero => exact Nat.zero_lt_succ _
  | succ k ih => exact Nat.or_lt_two_pow (n := 12) ih (frd_lt hn _ _)
theorem fnd_z {X U : Nat → Nat} {n : Nat} {Y : Nat → Nat} : ∀ k, (fnd X U n Y k).2.1 ≤ k := by
  intro k
  induction k with
  | zero => exact Nat.le_refl _
  | succ k ih =>
    simp only [fnd]
    split <;> omega
def rcX (T : Nat → Nat) (n : Nat) (X : Nat → Nat) : Nat → Nat := rcB (ovw X (rcA T n) 12) 12 12
theorem rcX_lt {T : Nat → Nat} {n : Nat} {X : Nat → Nat} (hT : ∀ a, T a < 4096) : ∀ a, a < 12 → rcX T n X a < 4096 :=
  rcB_lt (fun a ha => by rw [ovw_lt ha]; exact rcA_lt hT ha) 12 (Nat.le_refl _)
/-- a number is a set -/
theorem set_of {x : Int32} {n : Nat} (hn : n ≤ 12) (h : x &&& (nI (2 ^ n - 1) ^^^ -1) = 0) : ∃ k, k < 2 ^ n ∧ x = nI k := by
  obtain ⟨m, hm, rfl⟩ : ∃ m, m < 2 ^ 32 ∧ x = nI m := ⟨x.toBitVec.toNat, x.toBitVec.isLt, by
    apply Int32.toBitVec_inj.mp
    show x.toBitVec = BitVec.ofNat 32 _
    simp⟩
  refine ⟨m, ?_, rfl⟩
  rw [nx_dif] at h
  have hd : dif m (2 ^ n - 1) = 0 := by
    have h1 := congrArg (fun z => z.toBitVec.toNat) h
    simp only [pk_tn (Nat.lt_of_le_of_lt (dif_le _ _) hm)] at h1
    simpa using h1
  have hi := inn_dif.mp hd
  have := inn_le hi
  have := Nat.one_le_two_pow (n := n)
  omega
theorem set_is {k n : Nat} (h : k < 2 ^ n) : nI k &&& (nI (2 ^ n - 1) ^^^ -1) = 0 := by
  rw [nx_dif, inn_dif.mpr, nI_0]
  intro i hi
  rw [Nat.testBit_two_pow_sub_one]
  rcases Nat.lt_or_ge i n with q | q
  · simp [q]
  · rw [Nat.testBit_lt_two_pow (Nat.lt_of_lt_of_le h (Nat.pow_le_pow_right (by decide) q))] at hi
    cases hi
theorem tellF_no {z : Nat} {Sa : Nat → Nat} {An : Nat → Int32} {Sd : Nat → Nat} {x y : Int32} (q : inR x z = false) : tellF z Sa An Sd x y = -1 := by simp only [tellF, q, Bool.false_eq_true, if_false]
end
section
set_option maxHeartbeats 4000000 in
set_option maxRecDepth 100000 in
theorem c_Ri_fillReach (l : Launch) (D : va_G) (E : Nat → ClassId) (w : Nat) (wa : Nat) (wb : Nat) (X : Nat → Nat) (Y : Nat → Nat) (z : Nat) (h : Nat) (t : Nat) (u : Nat) (n : Nat) (T : Nat → Nat) (U : Nat → Nat) (hn : n ≤ 12) (hT : ∀ a, T a < 4096) : MV l D E y_Rings_fillReach (.code y_Rings_fillReach k_Rings_fillReach 4 none) ({ frames := 2, cells := 0, slots := 0, locals := 42 } : Room) [.ref w, .ref h] [(w, .inr (3, [.ref wa, .ref wb, .int (nI z)])), (wa, .inl (E 0, 12, .inl (aN X))), (wb, .inl (E 0, 12, .inl (aN Y))), (h, .inr (6, [.ref t, .ref u, .int (nI n)])), (t, .inl (E 0, 12, .inl (aN T))), (u, .inl (E 0, 12, .inl (aN U)))] (fun _ : Unit => True) (fun _ : Unit => [(w, .inr (3, [.ref wa, .ref wb, .int (nI z)])), (wa, .inl (E 0, 12, .inl (aN (rcX T n X)))), (wb, .inl (E 0, 12, .inl (aN Y))), (h, .inr (6, [.ref t, .ref u, .int (nI n)])), (t, .inl (E 0, 12, .inl (aN T))), (u, .inl (E 0, 12, .inl (aN U)))]) := by
  refine MV.of (by decide) (Nat.le_of_ble_eq_true rfl) ?_
  intro p e s m args below meth c A C hrt hlk hnm
  refine g_lv (lv' := [(0, .ref w), (1, .ref h)]) rfl ?_
  refine g_iconst (v := nI 0) C d_Rings_fillReach_0 (by decide) ?_
  refine g_istore_n (lv' := [(2, .int (nI 0)), (0, .ref w), (1, .ref h)]) C d_Rings_fillReach_1 rfl (by decide) rfl ?_
  have loop2 : ∀ (f : Nat) (i : Nat) (V : Nat → Nat), (i ≤ 12) → (V = ovw X (rcA T n) i) → 12 - i < f → GG p l e ({ frames := 2, cells := 0, slots := 0, locals := 42 } : Room) s m args below meth c (MQ below (va_Qv (fun _ : Unit => True) (BC D A (fun _ : Unit => [(w, .inr (3, [.ref wa, .ref wb, .int (nI z)])), (wa, .inl (E 0, 12, .inl (aN (rcX T n X)))), (wb, .inl (E 0, 12, .inl (aN Y))), (h, .inr (6, [.ref t, .ref u, .int (nI n)])), (t, .inl (E 0, 12, .inl (aN T))), (u, .inl (E 0, 12, .inl (aN U)))])) A) args s (({ frames := 2, cells := 0, slots := 0, locals := 42 } : Room)).cells (({ frames := 2, cells := 0, slots := 0, locals := 42 } : Room)).slots A) D A 4 0 0 2 [(0, .ref w), (1, .ref h), (2, .int (nI i))] [] [(w, .inr (3, [.ref wa, .ref wb, .int (nI z)])), (wa, .inl (E 0, 12, .inl (aN V))), (wb, .inl (E 0, 12, .inl (aN Y))), (h, .inr (6, [.ref t, .ref u, .int (nI n)])), (t, .inl (E 0, 12, .inl (aN T))), (u, .inl (E 0, 12, .inl (aN U)))] := by
    intro f
    induction f with
    | zero => intro i V hi hV hf; exact absurd hf (Nat.not_lt_zero _)
    | succ f ih =>
      intro i V hi hV hf
      have ih2 := ih
      refine g_iload_n C d_Rings_fillReach_2 rfl 2 rfl ?_
      refine g_bipush (v := nI 12) C d_Rings_fillReach_3 (by decide) ?_
      refine g_icmp_geN (tgt := 29) C (by omega) (by decide) d_Rings_fillReach_5 (by decide) (fun b0 => ?_) (fun b0 => ?_)
      · skip
        refine g_iconst (v := nI 0) C d_Rings_fillReach_29 (by decide) ?_
        refine g_istore_n (lv' := [(2, .int (nI 0)), (0, .ref w), (1, .ref h)]) C d_Rings_fillReach_30 rfl (by decide) rfl ?_
        have loop31 : ∀ (f : Nat) (b : Nat) (V2 : Nat → Nat), (b ≤ 12) → (V2 = rcB (ovw X (rcA T n) 12) 12 b) → 12 - b < f → GG p l e ({ frames := 2, cells := 0, slots := 0, locals := 42 } : Room) s m args below meth c (MQ below (va_Qv (fun _ : Unit => True) (BC D A (fun _ : Unit => [(w, .inr (3, [.ref wa, .ref wb, .int (nI z)])), (wa, .inl (E 0, 12, .inl (aN (rcX T n X)))), (wb, .inl (E 0, 12, .inl (aN Y))), (h, .inr (6, [.ref t, .ref u, .int (nI n)])), (t, .inl (E 0, 12, .inl (aN T))), (u, .inl (E 0, 12, .inl (aN U)))])) A) args s (({ frames := 2, cells := 0, slots := 0, locals := 42 } : Room)).cells (({ frames := 2, cells := 0, slots := 0, locals := 42 } : Room)).slots A) D A 4 0 0 31 [(0, .ref w), (1, .ref h), (2, .int (nI b))] [] [(w, .inr (3, [.ref wa, .ref wb, .int (nI z)])), (wa, .inl (E 0, 12, .inl (aN V2))), (wb, .inl (E 0, 12, .inl (aN Y))), (h, .inr (6, [.ref t, .ref u, .int (nI n)])), (t, .inl (E 0, 12, .inl (aN T))), (u, .inl (E 0, 12, .inl (aN U)))] := by
          intro f
          induction f with
          | zero => intro b V2 hb hV2 hf; exact absurd hf (Nat.not_lt_zero _)
          | succ f ih =>
            intro b V2 hb hV2 hf
            have ih31 := ih
            refine g_iload_n C d_Rings_fillReach_31 rfl 2 rfl ?_
            refine g_bipush (v := nI 12) C d_Rings_fillReach_32 (by decide) ?_
            refine g_icmp_geN (tgt := 85) C (by omega) (by decide) d_Rings_fillReach_34 (by decide) (fun b1 => ?_) (fun b1 => ?_)
            · skip
              exact g_vret C hrt hlk () (trivial) (by rw [hV2, show b = 12 by omega]; rfl) d_Rings_fillReach_85
            · skip
              refine g_iconst (v := nI 0) C d_Rings_fillReach_37 (by decide) ?_
              refine g_istore_n (lv' := [(3, .int (nI 0)), (0, .ref w), (1, .ref h), (2, .int (nI b))]) C d_Rings_fillReach_38 rfl (by decide) rfl ?_
              have loop39 : ∀ (f : Nat) (a : Nat) (V3 : Nat → Nat), (a ≤ 12) → (V3 = rcU (rcB (ovw X (rcA T n) 12) 12 b) b a) → 12 - a < f → GG p l e ({ frames := 2, cells := 0, slots := 0, locals := 42 } : Room) s m args below meth c (MQ below (va_Qv (fun _ : Unit => True) (BC D A (fun _ : Unit => [(w, .inr (3, [.ref wa, .ref wb, .int (nI z)])), (wa, .inl (E 0, 12, .inl (aN (rcX T n X)))), (wb, .inl (E 0, 12, .inl (aN Y))), (h, .inr (6, [.ref t, .ref u, .int (nI n)])), (t, .inl (E 0, 12, .inl (aN T))), (u, .inl (E 0, 12, .inl (aN U)))])) A) args s (({ frames := 2, cells := 0, slots := 0, locals := 42 } : Room)).cells (({ frames := 2, cells := 0, slots := 0, locals := 42 } : Room)).slots A) D A 4 0 0 39 [(0, .ref w), (1, .ref h), (2, .int (nI b)), (3, .int (nI a))] [] [(w, .inr (3, [.ref wa, .ref wb, .int (nI z)])), (wa, .inl (E 0, 12, .inl (aN V3))), (wb, .inl (E 0, 12, .inl (aN Y))), (h, .inr (6, [.ref t, .ref u, .int (nI n)])), (t, .inl (E 0, 12, .inl (aN T))), (u, .inl (E 0, 12, .inl (aN U)))] := by
                intro f
                induction f with
                | zero => intro a V3 ha hV3 hf; exact absurd hf (Nat.not_lt_zero _)
                | succ f ih =>
                  intro a V3 ha hV3 hf
                  have ih39 := ih
                  refine g_iload_n C d_Rings_fillReach_39 rfl 3 rfl ?_
                  refine g_bipush (v := nI 12) C d_Rings_fillReach_40 (by decide) ?_
                  refine g_icmp_geN (tgt := 79) C (by omega) (by decide) d_Rings_fillReach_42 (by decide) (fun b2 => ?_) (fun b2 => ?_)
                  · skip
                    refine g_iinc (lv' := [(2, .int (nI (b + 1))), (0, .ref w), (1, .ref h), (3, .int (nI a))]) C d_Rings_fillReach_79 2 rfl (nI_1 _) (by decide) rfl ?_
                    refine g_goto (tgt := 31) C d_Rings_fillReach_82 (by decide) ?_
                    refine g_perm [1, 2, 0] rfl ?_
                    exact ih31 (b + 1) V3 (by omega) (by rw [hV3, show a = 12 by omega]; rfl) (by omega)
                  · skip
                    refine g_iload_n C d_Rings_fillReach_45 rfl 2 rfl ?_
                    refine g_aload_n C d_Rings_fillReach_46 rfl 0 rfl ?_
                    refine g_get C lay_Rings 0 rfl rfl 0 (by decide) m_157 rfl d_Rings_fillReach_47 ?_
                    refine g_iload_n C d_Rings_fillReach_50 rfl 3 rfl ?_
                    refine g_ialdN C 1 rfl (by omega) (by decide) d_Rings_fillReach_51 ?_
                    refine g_top (show (aN V3) a = nI (V3 a) from rfl) ?_
                    refine g_iSN (rest := []) (wr := [(w, .inr (3, [.ref wa, .ref wb, .int (nI z)])), (wa, .inl (E 0, 12, .inl (aN V3))), (wb, .inl (E 0, 12, .inl (aN Y))), (h, .inr (6, [.ref t, .ref u, .int (nI n)])), (t, .inl (E 0, 12, .inl (aN T))), (u, .inl (E 0, 12, .inl (aN U)))]) C (c_isIn l D E b (V3 a) (by omega) (by rw [hV3]; exact lt4 (rcU_lt (by omega) (rcB_lt (fun a ha => by rw [ovw_lt ha]; exact rcA_lt hT ha) _ (by omega)) _ _ (by omega)))) rd_AB_isIn m_393 m_225 (Nat.le_of_ble_eq_true rfl) (Nat.le_of_ble_eq_true rfl) (Nat.le_of_ble_eq_true rfl) (Nat.le_of_ble_eq_true rfl) rfl rfl (Nat.le_of_ble_eq_true rfl) d_Rings_fillReach_52 [] [0, 1, 2, 3, 4, 5] rfl (by decide) rfl (by decide) (by decide) (fun r52 _ (hr52 : r52 = bI ((V3 a).testBit b)) => ?_)
                    subst hr52
                    refine g_cells (ws' := [(w, .inr (3, [.ref wa, .ref wb, .int (nI z)])), (wa, .inl (E 0, 12, .inl (aN V3))), (wb, .inl (E 0, 12, .inl (aN Y))), (h, .inr (6, [.ref t, .ref u, .int (nI n)])), (t, .inl (E 0, 12, .inl (aN T))), (u, .inl (E 0, 12, .inl (aN U)))]) [0, 1, 2, 3, 4, 5] (by decide) rfl ?_
                    refine g_if_eqB (tgt := 73) C d_Rings_fillReach_55 (by decide) (fun b3 => ?_) (fun b3 => ?_)
                    · skip
                      refine g_iinc (lv' := [(3, .int (nI (a + 1))), (0, .ref w), (1, .ref h), (2, .int (nI b))]) C d_Rings_fillReach_73 3 rfl (nI_1 _) (by decide) rfl ?_
                      refine g_goto (tgt := 39) C d_Rings_fillReach_76 (by decide) ?_
                      refine g_perm [1, 2, 3, 0] rfl ?_
                      exact ih39 (a + 1) V3 (by omega) (by simp only [rcU, ← hV3, b3]; rfl) (by omega)
                    · skip
                      refine g_aload_n C d_Rings_fillReach_58 rfl 0 rfl ?_
                      refine g_get C lay_Rings 0 rfl rfl 0 (by decide) m_157 rfl d_Rings_fillReach_59 ?_
                      refine g_iload_n C d_Rings_fillReach_62 rfl 3 rfl ?_
                      refine g_dup2 C d_Rings_fillReach_63 rfl rfl ?_
                      refine g_ialdN C 1 rfl (by omega) (by decide) d_Rings_fillReach_64 ?_
                      refine g_top (show (aN V3) a = nI (V3 a) from rfl) ?_
                      refine g_aload_n C d_Rings_fillReach_65 rfl 0 rfl ?_
                      refine g_get C lay_Rings 0 rfl rfl 0 (by decide) m_157 rfl d_Rings_fillReach_66 ?_
                      refine g_iload_n C d_Rings_fillReach_69 rfl 2 rfl ?_
                      refine g_ialdN C 1 rfl (by omega) (by decide) d_Rings_fillReach_70 ?_
                      refine g_top (show (aN V3) b = nI (V3 b) from rfl) ?_
                      refine g_iorN C d_Rings_fillReach_71 ?_
                      refine g_iastN (f' := aN (va_up V3 a ((V3 a) ||| (V3 b)))) (ws' := [(w, .inr (3, [.ref wa, .ref wb, .int (nI z)])), (wa, .inl (E 0, 12, .inl (aN (va_up V3 a ((V3 a) ||| (V3 b)))))), (wb, .inl (E 0, 12, .inl (aN Y))), (h, .inr (6, [.ref t, .ref u, .int (nI n)])), (t, .inl (E 0, 12, .inl (aN T))), (u, .inl (E 0, 12, .inl (aN U)))]) C 1 rfl (by omega) (by decide) (aN_up _ _ _) rfl d_Rings_fillReach_72 ?_
                      refine g_iinc (lv' := [(3, .int (nI (a + 1))), (0, .ref w), (1, .ref h), (2, .int (nI b))]) C d_Rings_fillReach_73 3 rfl (nI_1 _) (by decide) rfl ?_
                      refine g_goto (tgt := 39) C d_Rings_fillReach_76 (by decide) ?_
                      refine g_perm [1, 2, 3, 0] rfl ?_
                      exact ih39 (a + 1) (va_up V3 a ((V3 a) ||| (V3 b))) (by omega) (by simp only [rcU, ← hV3, b3]; rfl) (by omega)
              refine g_perm [1, 2, 3, 0] rfl ?_
              exact loop39 (12 - 0 + 1) 0 V2 (Nat.zero_le _) (hV2) (Nat.lt_succ_self _)
        refine g_perm [1, 2, 0] rfl ?_
        exact loop31 (12 - 0 + 1) 0 V (Nat.zero_le _) (by rw [hV, show i = 12 by omega]; rfl) (Nat.lt_succ_self _)
      · skip
        refine g_aload_n C d_Rings_fillReach_8 rfl 0 rfl ?_
        refine g_get C lay_Rings 0 rfl rfl 0 (by decide) m_157 rfl d_Rings_fillReach_9 ?_
        refine g_iload_n C d_Rings_fillReach_12 rfl 2 rfl ?_
        refine g_aload_n C d_Rings_fillReach_13 rfl 1 rfl ?_
        refine g_iload_n C d_Rings_fillReach_14 rfl 2 rfl ?_
        refine g_iV (rest := [.int (nI i), .ref wa]) (wr := [(w, .inr (3, [.ref wa, .ref wb, .int (nI z)])), (wa, .inl (E 0, 12, .inl (aN V))), (wb, .inl (E 0, 12, .inl (aN Y)))]) C (c_Web_targetsOfOne l D E h t u n T U i (by omega) (by omega)) rd_Web_targetsOfOne m_392 m_288 m_289 rfl rfl (Nat.le_of_ble_eq_true rfl) (Nat.le_of_ble_eq_true rfl) (Nat.le_of_ble_eq_true rfl) (Nat.le_of_ble_eq_true rfl) rfl rfl (Nat.le_of_ble_eq_true rfl) d_Rings_fillReach_15 [3, 4, 5] [0, 1, 2] rfl (by decide) rfl (by decide) (by decide) (fun r15 _ (hr15 : r15 = nI (if i < n then T i else 0)) => ?_)
        subst hr15
        refine g_cells (ws' := [(w, .inr (3, [.ref wa, .ref wb, .int (nI z)])), (wa, .inl (E 0, 12, .inl (aN V))), (wb, .inl (E 0, 12, .inl (aN Y))), (h, .inr (6, [.ref t, .ref u, .int (nI n)])), (t, .inl (E 0, 12, .inl (aN T))), (u, .inl (E 0, 12, .inl (aN U)))]) [0, 1, 2, 3, 4, 5] (by decide) rfl ?_
        refine g_iconst (v := nI 1) C d_Rings_fillReach_18 (by decide) ?_
        refine g_iload_n C d_Rings_fillReach_19 rfl 2 rfl ?_
        refine g_ishl1N C (by omega) d_Rings_fillReach_20 ?_
        refine g_iorN C d_Rings_fillReach_21 ?_
        refine g_iastN (f' := aN (va_up V i ((if i < n then T i else 0) ||| (2 ^ i)))) (ws' := [(w, .inr (3, [.ref wa, .ref wb, .int (nI z)])), (wa, .inl (E 0, 12, .inl (aN (va_up V i ((if i < n then T i else 0) ||| (2 ^ i)))))), (wb, .inl (E 0, 12, .inl (aN Y))), (h, .inr (6, [.ref t, .ref u, .int (nI n)])), (t, .inl (E 0, 12, .inl (aN T))), (u, .inl (E 0, 12, .inl (aN U)))]) C 1 rfl (by omega) (by decide) (aN_up _ _ _) rfl d_Rings_fillReach_22 ?_
        refine g_iinc (lv' := [(2, .int (nI (i + 1))), (0, .ref w), (1, .ref h)]) C d_Rings_fillReach_23 2 rfl (nI_1 _) (by decide) rfl ?_
        refine g_goto (tgt := 2) C d_Rings_fillReach_26 (by decide) ?_
        refine g_perm [1, 2, 0] rfl ?_
        exact ih2 (i + 1) (va_up V i ((if i < n then T i else 0) ||| (2 ^ i))) (by omega) (by rw [hV]; exact ovw_s X (rcA T n) i) (by omega)
  refine g_perm [1, 2, 0] rfl ?_
  exact loop2 (12 - 0 + 1) 0 X (Nat.zero_le _) ((ovw_0 _ _).symm) (Nat.lt_succ_self _)

set_option maxHeartbeats 4000000 in
set_option maxRecDepth 100000 in
theorem c_Ri_firstReady (l : Launch) (D : va_G) (E : Nat → ClassId) (w : Nat) (wa : Nat) (wb : Nat) (X : Nat → Nat) (Y : Nat → Nat) (z : Nat) (h : Nat) (t : Nat) (u : Nat) (n : Nat) (T : Nat → Nat) (U : Nat → Nat) (dn : Nat) (hn : n ≤ 12) (hU : ∀ a, U a < 4096) (hdn : dn < 4096) (hX : ∀ a, a < 12 → X a < 4096) : MI l D E y_Rings_firstReady (.code y_Rings_firstReady k_Rings_firstReady 5 (some .int)) ({ frames := 2, cells := 0, slots := 0, locals := 45 } : Room) [.ref w, .ref h, .int (nI dn)] [(w, .inr (3, [.ref wa, .ref wb, .int (nI z)])), (wa, .inl (E 0, 12, .inl (aN X))), (wb, .inl (E 0, 12, .inl (aN Y))), (h, .inr (6, [.ref t, .ref u, .int (nI n)])), (t, .inl (E 0, 12, .inl (aN T))), (u, .inl (E 0, 12, .inl (aN U)))] (fun (r : Int32) (_ : Unit) => r = nI (frd X U n dn n 0)) (fun _ : Unit => [(w, .inr (3, [.ref wa, .ref wb, .int (nI z)])), (wa, .inl (E 0, 12, .inl (aN X))), (wb, .inl (E 0, 12, .inl (aN Y))), (h, .inr (6, [.ref t, .ref u, .int (nI n)])), (t, .inl (E 0, 12, .inl (aN T))), (u, .inl (E 0, 12, .inl (aN U)))]) := by
  refine MI.of (by decide) (Nat.le_of_ble_eq_true rfl) ?_
  intro p e s m args below meth c A C hrt hlk hnm
  refine g_lv (lv' := [(0, .ref w), (1, .ref h), (2, .int (nI dn))]) rfl ?_
  refine g_iconst (v := nI 0) C d_Rings_firstReady_0 (by decide) ?_
  refine g_istore_n (lv' := [(3, .int (nI 0)), (0, .ref w), (1, .ref h), (2, .int (nI dn))]) C d_Rings_firstReady_1 rfl (by decide) rfl ?_
  have loop2 : ∀ (f : Nat) (a : Nat), (a ≤ n) → (frd X U n dn (n - a) a = frd X U n dn n 0) → n - a < f → GG p l e ({ frames := 2, cells := 0, slots := 0, locals := 45 } : Room) s m args below meth c (MQ below (va_Qi (fun (r : Int32) (_ : Unit) => r = nI (frd X U n dn n 0)) (BC D A (fun _ : Unit => [(w, .inr (3, [.ref wa, .ref wb, .int (nI z)])), (wa, .inl (E 0, 12, .inl (aN X))), (wb, .inl (E 0, 12, .inl (aN Y))), (h, .inr (6, [.ref t, .ref u, .int (nI n)])), (t, .inl (E 0, 12, .inl (aN T))), (u, .inl (E 0, 12, .inl (aN U)))])) A) args s (({ frames := 2, cells := 0, slots := 0, locals := 45 } : Room)).cells (({ frames := 2, cells := 0, slots := 0, locals := 45 } : Room)).slots A) D A 5 0 0 2 [(0, .ref w), (1, .ref h), (2, .int (nI dn)), (3, .int (nI a))] [] [(w, .inr (3, [.ref wa, .ref wb, .int (nI z)])), (wa, .inl (E 0, 12, .inl (aN X))), (wb, .inl (E 0, 12, .inl (aN Y))), (h, .inr (6, [.ref t, .ref u, .int (nI n)])), (t, .inl (E 0, 12, .inl (aN T))), (u, .inl (E 0, 12, .inl (aN U)))] := by
    intro f
    induction f with
    | zero => intro a ha hF hf; exact absurd hf (Nat.not_lt_zero _)
    | succ f ih =>
      intro a ha hF hf
      have ih2 := ih
      refine g_iload_n C d_Rings_firstReady_2 rfl 3 rfl ?_
      refine g_aload_n C d_Rings_firstReady_3 rfl 1 rfl ?_
      refine g_iV (rest := [.int (nI a)]) (wr := [(w, .inr (3, [.ref wa, .ref wb, .int (nI z)])), (wa, .inl (E 0, 12, .inl (aN X))), (wb, .inl (E 0, 12, .inl (aN Y)))]) C (c_Web_size l D E h t u n T U ) rd_Web_size m_394 m_248 m_249 rfl rfl (Nat.le_of_ble_eq_true rfl) (Nat.le_of_ble_eq_true rfl) (Nat.le_of_ble_eq_true rfl) (Nat.le_of_ble_eq_true rfl) rfl rfl (Nat.le_of_ble_eq_true rfl) d_Rings_firstReady_4 [3, 4, 5] [0, 1, 2] rfl (by decide) rfl (by decide) (by decide) (fun r4 _ (hr4 : r4 = nI n) => ?_)
      subst hr4
      refine g_cells (ws' := [(w, .inr (3, [.ref wa, .ref wb, .int (nI z)])), (wa, .inl (E 0, 12, .inl (aN X))), (wb, .inl (E 0, 12, .inl (aN Y))), (h, .inr (6, [.ref t, .ref u, .int (nI n)])), (t, .inl (E 0, 12, .inl (aN T))), (u, .inl (E 0, 12, .inl (aN U)))]) [0, 1, 2, 3, 4, 5] (by decide) rfl ?_
      refine g_icmp_geN (tgt := 54) C (by omega) (by omega) d_Rings_firstReady_7 (by decide) (fun b0 => ?_) (fun b0 => ?_)
      · skip
        refine g_iconst (v := nI 0) C d_Rings_firstReady_54 (by decide) ?_
        exact g_iret C hrt hlk () ((by rw [frd_e hF b0])) rfl d_Rings_firstReady_55
      · skip
        refine g_iload_n C d_Rings_firstReady_10 rfl 3 rfl ?_
        refine g_iload_n C d_Rings_firstReady_11 rfl 2 rfl ?_
        refine g_iSN (rest := []) (wr := [(w, .inr (3, [.ref wa, .ref wb, .int (nI z)])), (wa, .inl (E 0, 12, .inl (aN X))), (wb, .inl (E 0, 12, .inl (aN Y))), (h, .inr (6, [.ref t, .ref u, .int (nI n)])), (t, .inl (E 0, 12, .inl (aN T))), (u, .inl (E 0, 12, .inl (aN U)))]) C (c_isIn l D E a dn (by omega) (lt4 hdn)) rd_AB_isIn m_393 m_225 (Nat.le_of_ble_eq_true rfl) (Nat.le_of_ble_eq_true rfl) (Nat.le_of_ble_eq_true rfl) (Nat.le_of_ble_eq_true rfl) rfl rfl (Nat.le_of_ble_eq_true rfl) d_Rings_firstReady_12 [] [0, 1, 2, 3, 4, 5] rfl (by decide) rfl (by decide) (by decide) (fun r12 _ (hr12 : r12 = bI (dn.testBit a)) => ?_)
        subst hr12
        refine g_cells (ws' := [(w, .inr (3, [.ref wa, .ref wb, .int (nI z)])), (wa, .inl (E 0, 12, .inl (aN X))), (wb, .inl (E 0, 12, .inl (aN Y))), (h, .inr (6, [.ref t, .ref u, .int (nI n)])), (t, .inl (E 0, 12, .inl (aN T))), (u, .inl (E 0, 12, .inl (aN U)))]) [0, 1, 2, 3, 4, 5] (by decide) rfl ?_
        refine g_if_neB (tgt := 48) C d_Rings_firstReady_15 (by decide) (fun b1 => ?_) (fun b1 => ?_)
        · skip
          refine g_iinc (lv' := [(3, .int (nI (a + 1))), (0, .ref w), (1, .ref h), (2, .int (nI dn))]) C d_Rings_firstReady_48 3 rfl (nI_1 _) (by decide) rfl ?_
          refine g_goto (tgt := 2) C d_Rings_firstReady_51 (by decide) ?_
          refine g_perm [1, 2, 3, 0] rfl ?_
          exact ih2 (a + 1) (by omega) (by first | exact frd_n1 hF b0 b1 | exact frd_n2 hF b0 b2) (by omega)
        · skip
          refine g_aload_n C d_Rings_firstReady_18 rfl 0 rfl ?_
          refine g_iload_n C d_Rings_firstReady_19 rfl 3 rfl ?_
          refine g_aload_n C d_Rings_firstReady_20 rfl 1 rfl ?_
          refine g_iV (rest := [.int (nI a), .ref w]) (wr := [(w, .inr (3, [.ref wa, .ref wb, .int (nI z)])), (wa, .inl (E 0, 12, .inl (aN X))), (wb, .inl (E 0, 12, .inl (aN Y)))]) C (c_Web_size l D E h t u n T U ) rd_Web_size m_394 m_248 m_249 rfl rfl (Nat.le_of_ble_eq_true rfl) (Nat.le_of_ble_eq_true rfl) (Nat.le_of_ble_eq_true rfl) (Nat.le_of_ble_eq_true rfl) rfl rfl (Nat.le_of_ble_eq_true rfl) d_Rings_firstReady_21 [3, 4, 5] [0, 1, 2] rfl (by decide) rfl (by decide) (by decide) (fun r21 _ (hr21 : r21 = nI n) => ?_)
          subst hr21
          refine g_cells (ws' := [(w, .inr (3, [.ref wa, .ref wb, .int (nI z)])), (wa, .inl (E 0, 12, .inl (aN X))), (wb, .inl (E 0, 12, .inl (aN Y))), (h, .inr (6, [.ref t, .ref u, .int (nI n)])), (t, .inl (E 0, 12, .inl (aN T))), (u, .inl (E 0, 12, .inl (aN U)))]) [0, 1, 2, 3, 4, 5] (by decide) rfl ?_
          refine g_iV (rest := []) (wr := [(h, .inr (6, [.ref t, .ref u, .int (nI n)])), (t, .inl (E 0, 12, .inl (aN T))), (u, .inl (E 0, 12, .inl (aN U)))]) C (c_Ri_around12 l D E w wa wb X Y z a n hn (by omega) hX) rd_Rings_around m_399 m_401 m_11 rfl rfl (Nat.le_of_ble_eq_true rfl) (Nat.le_of_ble_eq_true rfl) (Nat.le_of_ble_eq_true rfl) (Nat.le_of_ble_eq_true rfl) rfl rfl (Nat.le_of_ble_eq_true rfl) d_Rings_firstReady_24 [0, 1, 2] [3, 4, 5] rfl (by decide) rfl (by decide) (by decide) (fun r24 _ (hr24 : r24 = nI (arU X a n)) => ?_)
          subst hr24
          refine g_cells (ws' := [(w, .inr (3, [.ref wa, .ref wb, .int (nI z)])), (wa, .inl (E 0, 12, .inl (aN X))), (wb, .inl (E 0, 12, .inl (aN Y))), (h, .inr (6, [.ref t, .ref u, .int (nI n)])), (t, .inl (E 0, 12, .inl (aN T))), (u, .inl (E 0, 12, .inl (aN U)))]) [3, 4, 5, 0, 1, 2] (by decide) rfl ?_
          refine g_istore (lv' := [(4, .int (nI (arU X a n))), (0, .ref w), (1, .ref h), (2, .int (nI dn)), (3, .int (nI a))]) C d_Rings_firstReady_27 (by decide) rfl ?_
          refine g_aload_n C d_Rings_firstReady_29 rfl 2 rfl ?_
          refine g_iload C d_Rings_firstReady_30 0 rfl ?_
          refine g_iV (rest := []) (wr := [(w, .inr (3, [.ref wa, .ref wb, .int (nI z)])), (wa, .inl (E 0, 12, .inl (aN X))), (wb, .inl (E 0, 12, .inl (aN Y)))]) C (c_Web_attackersOf l D E h t u n T U (arU X a n) hn (lt4 (arU_lt hn)) hU) rd_Web_attackersOf m_403 m_404 m_405 rfl rfl (Nat.le_of_ble_eq_true rfl) (Nat.le_of_ble_eq_true rfl) (Nat.le_of_ble_eq_true rfl) (Nat.le_of_ble_eq_true rfl) rfl rfl (Nat.le_of_ble_eq_true rfl) d_Rings_firstReady_32 [3, 4, 5] [0, 1, 2] rfl (by decide) rfl (by decide) (by decide) (fun r32 _ (hr32 : r32 = nI (tgU U (arU X a n) n)) => ?_)
          subst hr32
          refine g_cells (ws' := [(w, .inr (3, [.ref wa, .ref wb, .int (nI z)])), (wa, .inl (E 0, 12, .inl (aN X))), (wb, .inl (E 0, 12, .inl (aN Y))), (h, .inr (6, [.ref t, .ref u, .int (nI n)])), (t, .inl (E 0, 12, .inl (aN T))), (u, .inl (E 0, 12, .inl (aN U)))]) [0, 1, 2, 3, 4, 5] (by decide) rfl ?_
          refine g_iload C d_Rings_firstReady_35 0 rfl ?_
          refine g_iload_n C d_Rings_firstReady_37 rfl 3 rfl ?_
          refine g_iorN C d_Rings_firstReady_38 ?_
          refine g_iSN (rest := []) (wr := [(w, .inr (3, [.ref wa, .ref wb, .int (nI z)])), (wa, .inl (E 0, 12, .inl (aN X))), (wb, .inl (E 0, 12, .inl (aN Y))), (h, .inr (6, [.ref t, .ref u, .int (nI n)])), (t, .inl (E 0, 12, .inl (aN T))), (u, .inl (E 0, 12, .inl (aN U)))]) C (c_isWithinN l D E (tgU U (arU X a n) n) ((arU X a n) ||| dn) (lt4 (tgU_lt hU _ _))) rd_AB_isWithin m_407 m_264 (Nat.le_of_ble_eq_true rfl) (Nat.le_of_ble_eq_true rfl) (Nat.le_of_ble_eq_true rfl) (Nat.le_of_ble_eq_true rfl) rfl rfl (Nat.le_of_ble_eq_true rfl) d_Rings_firstReady_39 [] [0, 1, 2, 3, 4, 5] rfl (by decide) rfl (by decide) (by decide) (fun r39 _ (hr39 : r39 = bI (dif (tgU U (arU X a n) n) ((arU X a n) ||| dn) == 0)) => ?_)
          subst hr39
          refine g_cells (ws' := [(w, .inr (3, [.ref wa, .ref wb, .int (nI z)])), (wa, .inl (E 0, 12, .inl (aN X))), (wb, .inl (E 0, 12, .inl (aN Y))), (h, .inr (6, [.ref t, .ref u, .int (nI n)])), (t, .inl (E 0, 12, .inl (aN T))), (u, .inl (E 0, 12, .inl (aN U)))]) [0, 1, 2, 3, 4, 5] (by decide) rfl ?_
          refine g_if_eqB (tgt := 48) C d_Rings_firstReady_42 (by decide) (fun b2 => ?_) (fun b2 => ?_)
          · skip
            refine g_iinc (lv' := [(3, .int (nI (a + 1))), (4, .int (nI (arU X a n))), (0, .ref w), (1, .ref h), (2, .int (nI dn))]) C d_Rings_firstReady_48 4 rfl (nI_1 _) (by decide) rfl ?_
            refine g_goto (tgt := 2) C d_Rings_firstReady_51 (by decide) ?_
            refine g_perm [2, 3, 4, 0] rfl ?_
            exact ih2 (a + 1) (by omega) (by first | exact frd_n1 hF b0 b1 | exact frd_n2 hF b0 b2) (by omega)
          · skip
            refine g_iload C d_Rings_firstReady_45 0 rfl ?_
            exact g_iret C hrt hlk () ((by rw [frd_y hF b0 b1 b2])) rfl d_Rings_firstReady_47
  refine g_perm [1, 2, 3, 0] rfl ?_
  exact loop2 (n - 0 + 1) 0 (Nat.zero_le _) (rfl) (Nat.lt_succ_self _)

set_option maxHeartbeats 4000000 in
set_option maxRecDepth 100000 in
theorem c_Ri_find (l : Launch) (D : va_G) (E : Nat → ClassId) (w : Nat) (wa : Nat) (wb : Nat) (X : Nat → Nat) (Y : Nat → Nat) (z : Nat) (h : Nat) (t : Nat) (u : Nat) (n : Nat) (T : Nat → Nat) (U : Nat → Nat) (hn : n ≤ 12) (hT : ∀ a, T a < 4096) (hU : ∀ a, U a < 4096) : MV l D E y_Rings_find (.code y_Rings_find k_Rings_find 5 none) ({ frames := 3, cells := 0, slots := 0, locals := 69 } : Room) [.ref w, .ref h] [(w, .inr (3, [.ref wa, .ref wb, .int (nI z)])), (wa, .inl (E 0, 12, .inl (aN X))), (wb, .inl (E 0, 12, .inl (aN Y))), (h, .inr (6, [.ref t, .ref u, .int (nI n)])), (t, .inl (E 0, 12, .inl (aN T))), (u, .inl (E 0, 12, .inl (aN U)))] (fun _ : Unit => True) (fun _ : Unit => [(w, .inr (3, [.ref wa, .ref wb, .int (nI ((fnd (rcX T n X) U n Y n).2.1))])), (wa, .inl (E 0, 12, .inl (aN (rcX T n X)))), (wb, .inl (E 0, 12, .inl (aN ((fnd (rcX T n X) U n Y n).1)))), (h, .inr (6, [.ref t, .ref u, .int (nI n)])), (t, .inl (E 0, 12, .inl (aN T))), (u, .inl (E 0, 12, .inl (aN U)))]) := by
  refine MV.of (by decide) (Nat.le_of_ble_eq_true rfl) ?_
  intro p e s m args below meth c A C hrt hlk hnm
  refine g_lv (lv' := [(0, .ref w), (1, .ref h)]) rfl ?_
  refine g_aload_n C d_Rings_find_0 rfl 0 rfl ?_
  refine g_aload_n C d_Rings_find_1 rfl 1 rfl ?_
  refine g_vV (rest := []) (wr := []) C (c_Ri_fillReach l D E w wa wb X Y z h t u n T U (by omega) hT) rd_Rings_fillReach m_388 m_390 m_9 rfl rfl (Nat.le_of_ble_eq_true rfl) (Nat.le_of_ble_eq_true rfl) (Nat.le_of_ble_eq_true rfl) (Nat.le_of_ble_eq_true rfl) rfl rfl (Nat.le_of_ble_eq_true rfl) d_Rings_find_2 [0, 1, 2, 3, 4, 5] [] rfl (by decide) rfl (by decide) (by decide) (fun _ _ => ?_)
  refine g_cells (ws' := [(w, .inr (3, [.ref wa, .ref wb, .int (nI z)])), (wa, .inl (E 0, 12, .inl (aN (rcX T n X)))), (wb, .inl (E 0, 12, .inl (aN Y))), (h, .inr (6, [.ref t, .ref u, .int (nI n)])), (t, .inl (E 0, 12, .inl (aN T))), (u, .inl (E 0, 12, .inl (aN U)))]) [0, 1, 2, 3, 4, 5] (by decide) rfl ?_
  refine g_aload_n C d_Rings_find_5 rfl 0 rfl ?_
  refine g_iconst (v := nI 0) C d_Rings_find_6 (by decide) ?_
  refine g_put (ws' := [(w, .inr (3, [.ref wa, .ref wb, .int (nI 0)])), (wa, .inl (E 0, 12, .inl (aN (rcX T n X)))), (wb, .inl (E 0, 12, .inl (aN Y))), (h, .inr (6, [.ref t, .ref u, .int (nI n)])), (t, .inl (E 0, 12, .inl (aN T))), (u, .inl (E 0, 12, .inl (aN U)))]) C lay_Rings ty_Rings nm_Rings 0 rfl rfl 2 (by decide) m_159 rfl rfl rfl (Nat.le_of_ble_eq_true rfl) rfl d_Rings_find_7 ?_
  refine g_iconst (v := nI 0) C d_Rings_find_10 (by decide) ?_
  refine g_istore_n (lv' := [(2, .int (nI 0)), (0, .ref w), (1, .ref h)]) C d_Rings_find_11 rfl (by decide) rfl ?_
  refine g_iconst (v := nI 0) C d_Rings_find_12 (by decide) ?_
  refine g_istore_n (lv' := [(3, .int (nI 0)), (2, .int (nI 0)), (0, .ref w), (1, .ref h)]) C d_Rings_find_13 rfl (by decide) rfl ?_
  have loop14 : ∀ (f : Nat) (k : Nat) (V : Nat → Nat) (z2 : Nat) (dn : Nat), (k ≤ n) → (fnd (rcX T n X) U n Y k = (V, z2, dn)) → n - k < f → GG p l e ({ frames := 3, cells := 0, slots := 0, locals := 69 } : Room) s m args below meth c (MQ below (va_Qv (fun _ : Unit => True) (BC D A (fun _ : Unit => [(w, .inr (3, [.ref wa, .ref wb, .int (nI ((fnd (rcX T n X) U n Y n).2.1))])), (wa, .inl (E 0, 12, .inl (aN (rcX T n X)))), (wb, .inl (E 0, 12, .inl (aN ((fnd (rcX T n X) U n Y n).1)))), (h, .inr (6, [.ref t, .ref u, .int (nI n)])), (t, .inl (E 0, 12, .inl (aN T))), (u, .inl (E 0, 12, .inl (aN U)))])) A) args s (({ frames := 3, cells := 0, slots := 0, locals := 69 } : Room)).cells (({ frames := 3, cells := 0, slots := 0, locals := 69 } : Room)).slots A) D A 5 0 0 14 [(0, .ref w), (1, .ref h), (2, .int (nI dn)), (3, .int (nI k))] [] [(w, .inr (3, [.ref wa, .ref wb, .int (nI z2)])), (wa, .inl (E 0, 12, .inl (aN (rcX T n X)))), (wb, .inl (E 0, 12, .inl (aN V))), (h, .inr (6, [.ref t, .ref u, .int (nI n)])), (t, .inl (E 0, 12, .inl (aN T))), (u, .inl (E 0, 12, .inl (aN U)))] := by
    intro f
    induction f with
    | zero => intro k V z2 dn hk hF hf; exact absurd hf (Nat.not_lt_zero _)
    | succ f ih =>
      intro k V z2 dn hk hF hf
      have ih14 := ih
      refine g_iload_n C d_Rings_find_14 rfl 3 rfl ?_
      refine g_aload_n C d_Rings_find_15 rfl 1 rfl ?_
      refine g_iV (rest := [.int (nI k)]) (wr := [(w, .inr (3, [.ref wa, .ref wb, .int (nI z2)])), (wa, .inl (E 0, 12, .inl (aN (rcX T n X)))), (wb, .inl (E 0, 12, .inl (aN V)))]) C (c_Web_size l D E h t u n T U ) rd_Web_size m_394 m_248 m_249 rfl rfl (Nat.le_of_ble_eq_true rfl) (Nat.le_of_ble_eq_true rfl) (Nat.le_of_ble_eq_true rfl) (Nat.le_of_ble_eq_true rfl) rfl rfl (Nat.le_of_ble_eq_true rfl) d_Rings_find_16 [3, 4, 5] [0, 1, 2] rfl (by decide) rfl (by decide) (by decide) (fun r16 _ (hr16 : r16 = nI n) => ?_)
      subst hr16
      refine g_cells (ws' := [(w, .inr (3, [.ref wa, .ref wb, .int (nI z2)])), (wa, .inl (E 0, 12, .inl (aN (rcX T n X)))), (wb, .inl (E 0, 12, .inl (aN V))), (h, .inr (6, [.ref t, .ref u, .int (nI n)])), (t, .inl (E 0, 12, .inl (aN T))), (u, .inl (E 0, 12, .inl (aN U)))]) [0, 1, 2, 3, 4, 5] (by decide) rfl ?_
      refine g_icmp_geN (tgt := 47) C (by omega) (by omega) d_Rings_find_19 (by decide) (fun b0 => ?_) (fun b0 => ?_)
      · skip
        exact g_vret C hrt hlk () (trivial) (by rw [show k = n by omega] at hF; rw [hF]) d_Rings_find_47
      · skip
        refine g_aload_n C d_Rings_find_22 rfl 0 rfl ?_
        refine g_aload_n C d_Rings_find_23 rfl 1 rfl ?_
        refine g_iload_n C d_Rings_find_24 rfl 2 rfl ?_
        refine g_iV (rest := []) (wr := []) C (c_Ri_firstReady l D E w wa wb (rcX T n X) V z2 h t u n T U dn hn hU (by have := fnd_dn (X := rcX T n X) (U := U) (Y := Y) hn k; rw [hF] at this; exact this) (rcX_lt hT)) rd_Rings_firstReady m_395 m_397 m_10 rfl rfl (Nat.le_of_ble_eq_true rfl) (Nat.le_of_ble_eq_true rfl) (Nat.le_of_ble_eq_true rfl) (Nat.le_of_ble_eq_true rfl) rfl rfl (Nat.le_of_ble_eq_true rfl) d_Rings_find_25 [0, 1, 2, 3, 4, 5] [] rfl (by decide) rfl (by decide) (by decide) (fun r25 _ (hr25 : r25 = nI (frd (rcX T n X) U n dn n 0)) => ?_)
        subst hr25
        refine g_cells (ws' := [(w, .inr (3, [.ref wa, .ref wb, .int (nI z2)])), (wa, .inl (E 0, 12, .inl (aN (rcX T n X)))), (wb, .inl (E 0, 12, .inl (aN V))), (h, .inr (6, [.ref t, .ref u, .int (nI n)])), (t, .inl (E 0, 12, .inl (aN T))), (u, .inl (E 0, 12, .inl (aN U)))]) [0, 1, 2, 3, 4, 5] (by decide) rfl ?_
        refine g_istore (lv' := [(4, .int (nI (frd (rcX T n X) U n dn n 0))), (0, .ref w), (1, .ref h), (2, .int (nI dn)), (3, .int (nI k))]) C d_Rings_find_28 (by decide) rfl ?_
        refine g_aload_n C d_Rings_find_30 rfl 1 rfl ?_
        refine g_iload C d_Rings_find_31 0 rfl ?_
        refine g_vV (rest := []) (wr := [(h, .inr (6, [.ref t, .ref u, .int (nI n)])), (t, .inl (E 0, 12, .inl (aN T))), (u, .inl (E 0, 12, .inl (aN U)))]) C (c_Ri_number l D E w wa wb (rcX T n X) V z2 (frd (rcX T n X) U n dn n 0) (lt4 (frd_lt hn _ _))) rd_Rings_number m_408 m_410 m_12 rfl rfl (Nat.le_of_ble_eq_true rfl) (Nat.le_of_ble_eq_true rfl) (Nat.le_of_ble_eq_true rfl) (Nat.le_of_ble_eq_true rfl) rfl rfl (Nat.le_of_ble_eq_true rfl) d_Rings_find_33 [0, 1, 2] [3, 4, 5] rfl (by decide) rfl (by decide) (by decide) (fun _ _ => ?_)
        refine g_cells (ws' := [(w, .inr (3, [.ref wa, .ref wb, .int (nI (if (frd (rcX T n X) U n dn n 0) = 0 then z2 else z2 + 1))])), (wa, .inl (E 0, 12, .inl (aN (rcX T n X)))), (wb, .inl (E 0, 12, .inl (aN (if (frd (rcX T n X) U n dn n 0) = 0 then V else nbU V (frd (rcX T n X) U n dn n 0) z2)))), (h, .inr (6, [.ref t, .ref u, .int (nI n)])), (t, .inl (E 0, 12, .inl (aN T))), (u, .inl (E 0, 12, .inl (aN U)))]) [3, 4, 5, 0, 1, 2] (by decide) rfl ?_
        refine g_iload_n C d_Rings_find_36 rfl 3 rfl ?_
        refine g_iload C d_Rings_find_37 0 rfl ?_
        refine g_iorN C d_Rings_find_39 ?_
        refine g_istore_n (lv' := [(2, .int (nI (dn ||| (frd (rcX T n X) U n dn n 0)))), (4, .int (nI (frd (rcX T n X) U n dn n 0))), (0, .ref w), (1, .ref h), (3, .int (nI k))]) C d_Rings_find_40 rfl (by decide) rfl ?_
        refine g_iinc (lv' := [(3, .int (nI (k + 1))), (2, .int (nI (dn ||| (frd (rcX T n X) U n dn n 0)))), (4, .int (nI (frd (rcX T n X) U n dn n 0))), (0, .ref w), (1, .ref h)]) C d_Rings_find_41 4 rfl (nI_1 _) (by decide) rfl ?_
        refine g_goto (tgt := 14) C d_Rings_find_44 (by decide) ?_
        refine g_perm [3, 4, 1, 0] rfl ?_
        exact ih14 (k + 1) (if (frd (rcX T n X) U n dn n 0) = 0 then V else nbU V (frd (rcX T n X) U n dn n 0) z2) (if (frd (rcX T n X) U n dn n 0) = 0 then z2 else z2 + 1) (dn ||| (frd (rcX T n X) U n dn n 0)) (by omega) (by simp only [fnd, hF]) (by omega)
  refine g_perm [2, 3, 1, 0] rfl ?_
  exact loop14 (n - 0 + 1) 0 Y 0 0 (Nat.zero_le _) (rfl) (Nat.lt_succ_self _)

set_option maxHeartbeats 4000000 in
set_option maxRecDepth 100000 in
theorem c_Tk_tell (l : Launch) (D : va_G) (E : Nat → ClassId) (v : Nat) (va : Nat) (vb : Nat) (vc : Nat) (Sa : Nat → Nat) (An : Nat → Int32) (Sd : Nat → Nat) (z : Nat) (tl : Bool) (x : Int32) (y : Int32) (hz : z ≤ 500) : MI l D E y_Talk_tell (.code y_Talk_tell k_Talk_tell 3 (some .int)) ({ frames := 0, cells := 0, slots := 0, locals := 0 } : Room) [.ref v, .int x, .int y] [(v, .inr (5, [.ref va, .ref vb, .ref vc, .int (nI z), .int (bI tl)])), (va, .inl (E 0, 500, .inl (aN Sa))), (vb, .inl (E 0, 500, .inl An)), (vc, .inl (E 0, 500, .inl (aN Sd)))] (fun (r : Int32) (_ : Unit) => r = tellF z Sa An Sd x y) (fun _ : Unit => [(v, .inr (5, [.ref va, .ref vb, .ref vc, .int (nI z), .int (bI tl)])), (va, .inl (E 0, 500, .inl (aN Sa))), (vb, .inl (E 0, 500, .inl An)), (vc, .inl (E 0, 500, .inl (aN Sd)))]) := by
  refine MI.of (by decide) (Nat.le_of_ble_eq_true rfl) ?_
  intro p e s m args below meth c A C hrt hlk hnm
  refine g_lv (lv' := [(0, .ref v), (1, .int x), (2, .int y)]) rfl ?_
  refine g_iload_n C d_Talk_tell_0 rfl 1 rfl ?_
  refine g_if_lt (tgt := 19) C d_Talk_tell_1 (by decide) (fun b0 => ?_) (fun b0 => ?_)
  · skip
    refine g_iconst (v := (-1)) C d_Talk_tell_19 (by decide) ?_
    exact g_iret C hrt hlk () ((by rw [tellF_no (by simp_all [inR])])) rfl d_Talk_tell_20
  · skip
    refine g_iload_n C d_Talk_tell_4 rfl 1 rfl ?_
    refine g_aload_n C d_Talk_tell_5 rfl 0 rfl ?_
    refine g_get C lay_Talk 0 rfl rfl 3 (by decide) m_138 rfl d_Talk_tell_6 ?_
    refine g_icmp_ge (tgt := 19) C d_Talk_tell_9 (by decide) (fun b1 => ?_) (fun b1 => ?_)
    · skip
      refine g_iconst (v := (-1)) C d_Talk_tell_19 (by decide) ?_
      exact g_iret C hrt hlk () ((by rw [tellF_no (by simp_all [inR])])) rfl d_Talk_tell_20
    · skip
      refine g_iload_n C d_Talk_tell_12 rfl 1 rfl ?_
      refine g_sipush (v := nI 500) C d_Talk_tell_13 (by decide) ?_
      refine g_icmp_lt (tgt := 21) C d_Talk_tell_16 (by decide) (fun b2 => ?_) (fun b2 => ?_)
      · skip
        refine g_iload_n C d_Talk_tell_21 rfl 2 rfl ?_
        obtain ⟨j, hj, rfl⟩ := inR_of (x := x) (n := z) (by simp_all [inR])
        by_cases sw0_0 : y = 0
        · skip
          refine g_tsIn (tgt := 48) (off := 26) C 0 (by decide) (sw0_0.trans (by decide)) d_Talk_tell_22 (by decide) (by decide) (by decide) ?_
          refine g_aload_n C d_Talk_tell_48 rfl 0 rfl ?_
          refine g_get C lay_Talk 0 rfl rfl 0 (by decide) m_135 rfl d_Talk_tell_49 ?_
          refine g_iload_n C d_Talk_tell_52 rfl 1 rfl ?_
          refine g_ialdN C 1 rfl (by omega) (by decide) d_Talk_tell_53 ?_
          refine g_top (show (aN Sa) j = nI (Sa j) from rfl) ?_
          exact g_iret C hrt hlk () ((by simp only [tellF, inR_nI (show j < 2 ^ 31 by omega) (show z < 2 ^ 31 by omega), nI_clamp (show j < 2 ^ 31 by omega), hj, decide_true, if_true]; rw [if_pos sw0_0])) rfl d_Talk_tell_54
        by_cases sw0_1 : y = 1
        · skip
          refine g_tsIn (tgt := 55) (off := 33) C 1 (by decide) (sw0_1.trans (by decide)) d_Talk_tell_22 (by decide) (by decide) (by decide) ?_
          refine g_aload_n C d_Talk_tell_55 rfl 0 rfl ?_
          refine g_get C lay_Talk 0 rfl rfl 1 (by decide) m_136 rfl d_Talk_tell_56 ?_
          refine g_iload_n C d_Talk_tell_59 rfl 1 rfl ?_
          refine g_ialdN C 2 rfl (by omega) (by decide) d_Talk_tell_60 ?_
          exact g_iret C hrt hlk () ((by simp only [tellF, inR_nI (show j < 2 ^ 31 by omega) (show z < 2 ^ 31 by omega), nI_clamp (show j < 2 ^ 31 by omega), hj, decide_true, if_true]; rw [if_neg sw0_0, if_pos sw0_1])) rfl d_Talk_tell_61
        by_cases sw0_2 : y = 2
        · skip
          refine g_tsIn (tgt := 62) (off := 40) C 2 (by decide) (sw0_2.trans (by decide)) d_Talk_tell_22 (by decide) (by decide) (by decide) ?_
          refine g_aload_n C d_Talk_tell_62 rfl 0 rfl ?_
          refine g_get C lay_Talk 0 rfl rfl 2 (by decide) m_137 rfl d_Talk_tell_63 ?_
          refine g_iload_n C d_Talk_tell_66 rfl 1 rfl ?_
          refine g_ialdN C 3 rfl (by omega) (by decide) d_Talk_tell_67 ?_
          refine g_top (show (aN Sd) j = nI (Sd j) from rfl) ?_
          exact g_iret C hrt hlk () ((by simp only [tellF, inR_nI (show j < 2 ^ 31 by omega) (show z < 2 ^ 31 by omega), nI_clamp (show j < 2 ^ 31 by omega), hj, decide_true, if_true]; rw [if_neg sw0_0, if_neg sw0_1, if_pos sw0_2])) rfl d_Talk_tell_68
        refine g_tsOut (tgt := 69) C d_Talk_tell_22 (fun j hj q => sw_no j (by omega) q sw0_0 sw0_1 sw0_2) (by decide) ?_
        refine g_iconst (v := (-1)) C d_Talk_tell_69 (by decide) ?_
        exact g_iret C hrt hlk () ((by simp only [tellF, inR_nI (show j < 2 ^ 31 by omega) (show z < 2 ^ 31 by omega), nI_clamp (show j < 2 ^ 31 by omega), hj, decide_true, if_true]; rw [if_neg sw0_0, if_neg sw0_1, if_neg sw0_2])) rfl d_Talk_tell_70
      · skip
        obtain ⟨j, hj, rfl⟩ := inR_of (x := x) (n := z) (by simp_all [inR]); exact absurd ((nI_ltI (by omega) (by decide)).mpr (by omega)) b2

set_option maxHeartbeats 4000000 in
set_option maxRecDepth 100000 in
theorem c_Web_init (l : Launch) (D : va_G) (E : Nat → ClassId) (h : Nat)  : MV l D E y_Web_init (.code y_Web_init k_Web_init 1 none) ({ frames := 1, cells := 2, slots := 24, locals := 12 } : Room) [.ref h] [(h, .inr (6, [.null, .null, .int (nI 0)]))] (fun (u : Nat × Nat) => match u with | (t, u) => (True)) (fun (u : Nat × Nat) => match u with | (t, u) => [(h, .inr (6, [.ref t, .ref u, .int (nI 0)])), (t, .inl (E 0, 12, .inl (aN (fun _ => 0)))), (u, .inl (E 0, 12, .inl (aN (fun _ => 0))))]) := by
  refine MV.of (by decide) (Nat.le_of_ble_eq_true rfl) ?_
  intro p e s m args below meth c A C hrt hlk hnm
  refine g_lv (lv' := [(0, .ref h)]) rfl ?_
  refine g_aload_n C d_Web_init_0 rfl 0 rfl ?_
  refine g_objInit C m_60 m_53 m_54 d_Web_init_1 (Nat.le_of_ble_eq_true rfl) (Nat.le_of_ble_eq_true rfl) ?_
  refine g_aload_n C d_Web_init_4 rfl 0 rfl ?_
  refine g_bipush (v := nI 12) C d_Web_init_5 (by decide) ?_
  refine g_newI (N' := 12) C m_71 (nI_pos (by decide)) (nI_clamp (by decide)) (by decide) (Nat.le_of_ble_eq_true rfl) (Nat.le_of_ble_eq_true rfl) d_Web_init_7 (fun q1 => ?_)
  refine g_ws (ws' := [(h, .inr (6, [.null, .null, .int (nI 0)])), (q1, .inl (E 0, 12, .inl (aN (fun _ => 0))))]) rfl ?_
  refine g_putF (ws' := [(h, .inr (6, [.ref q1, .null, .int (nI 0)])), (q1, .inl (E 0, 12, .inl (aN (fun _ => 0))))]) C lay_Web ty_Web nm_Web 0 rfl rfl 0 (by decide) m_61 rfl hnm rfl rfl rfl (Nat.le_of_ble_eq_true rfl) rfl d_Web_init_9 ?_
  refine g_aload_n C d_Web_init_12 rfl 0 rfl ?_
  refine g_bipush (v := nI 12) C d_Web_init_13 (by decide) ?_
  refine g_newI (N' := 12) C m_71 (nI_pos (by decide)) (nI_clamp (by decide)) (by decide) (Nat.le_of_ble_eq_true rfl) (Nat.le_of_ble_eq_true rfl) d_Web_init_15 (fun q2 => ?_)
  refine g_ws (ws' := [(h, .inr (6, [.ref q1, .null, .int (nI 0)])), (q1, .inl (E 0, 12, .inl (aN (fun _ => 0)))), (q2, .inl (E 0, 12, .inl (aN (fun _ => 0))))]) rfl ?_
  refine g_putF (ws' := [(h, .inr (6, [.ref q1, .ref q2, .int (nI 0)])), (q1, .inl (E 0, 12, .inl (aN (fun _ => 0)))), (q2, .inl (E 0, 12, .inl (aN (fun _ => 0))))]) C lay_Web ty_Web nm_Web 0 rfl rfl 1 (by decide) m_62 rfl hnm rfl rfl rfl (Nat.le_of_ble_eq_true rfl) rfl d_Web_init_17 ?_
  refine g_aload_n C d_Web_init_20 rfl 0 rfl ?_
  refine g_iconst (v := nI 0) C d_Web_init_21 (by decide) ?_
  refine g_put (ws' := [(h, .inr (6, [.ref q1, .ref q2, .int (nI 0)])), (q1, .inl (E 0, 12, .inl (aN (fun _ => 0)))), (q2, .inl (E 0, 12, .inl (aN (fun _ => 0))))]) C lay_Web ty_Web nm_Web 0 rfl rfl 2 (by decide) m_63 rfl rfl rfl (Nat.le_of_ble_eq_true rfl) rfl d_Web_init_22 ?_
  exact g_vret C hrt hlk (q1, q2) (trivial) rfl d_Web_init_25

set_option maxHeartbeats 4000000 in
set_option maxRecDepth 100000 in
theorem c_Se_init (l : Launch) (D : va_G) (E : Nat → ClassId) (g : Nat)  : MV l D E y_Senses_init (.code y_Senses_init k_Senses_init 1 none) ({ frames := 1, cells := 3, slots := 9116, locals := 12 } : Room) [.ref g] [(g, .inr (4, [.null, .null, .null, .int (nI 0), .int (nI 0), .int (bI false)]))] (fun (u : Nat × Nat × Nat) => match u with | (ga, gb, gc) => (True)) (fun (u : Nat × Nat × Nat) => match u with | (ga, gb, gc) => [(g, .inr (4, [.ref ga, .ref gb, .ref gc, .int (nI 0), .int (nI 0), .int (bI false)])), (ga, .inl (E 0, 4096, .inl (aN (fun _ => 0)))), (gb, .inl (E 0, 4096, .inl (aN (fun _ => 0)))), (gc, .inl (E 0, 924, .inl (aN (fun _ => 0))))]) := by
  refine MV.of (by decide) (Nat.le_of_ble_eq_true rfl) ?_
  intro p e s m args below meth c A C hrt hlk hnm
  refine g_lv (lv' := [(0, .ref g)]) rfl ?_
  refine g_aload_n C d_Senses_init_0 rfl 0 rfl ?_
  refine g_objInit C m_77 m_53 m_54 d_Senses_init_1 (Nat.le_of_ble_eq_true rfl) (Nat.le_of_ble_eq_true rfl) ?_
  refine g_aload_n C d_Senses_init_4 rfl 0 rfl ?_
  refine g_sipush (v := nI 4096) C d_Senses_init_5 (by decide) ?_
  refine g_newI (N' := 4096) C m_71 (nI_pos (by decide)) (nI_clamp (by decide)) (by decide) (Nat.le_of_ble_eq_true rfl) (Nat.le_of_ble_eq_true rfl) d_Senses_init_8 (fun q1 => ?_)
  refine g_ws (ws' := [(g, .inr (4, [.null, .null, .null, .int (nI 0), .int (nI 0), .int (bI false)])), (q1, .inl (E 0, 4096, .inl (aN (fun _ => 0))))]) rfl ?_
  refine g_putF (ws' := [(g, .inr (4, [.ref q1, .null, .null, .int (nI 0), .int (nI 0), .int (bI false)])), (q1, .inl (E 0, 4096, .inl (aN (fun _ => 0))))]) C lay_Senses ty_Senses nm_Senses 0 rfl rfl 0 (by decide) m_78 rfl hnm rfl rfl rfl (Nat.le_of_ble_eq_true rfl) rfl d_Senses_init_10 ?_
  refine g_aload_n C d_Senses_init_13 rfl 0 rfl ?_
  refine g_sipush (v := nI 4096) C d_Senses_init_14 (by decide) ?_
  refine g_newI (N' := 4096) C m_71 (nI_pos (by decide)) (nI_clamp (by decide)) (by decide) (Nat.le_of_ble_eq_true rfl) (Nat.le_of_ble_eq_true rfl) d_Senses_init_17 (fun q2 => ?_)
  refine g_ws (ws' := [(g, .inr (4, [.ref q1, .null, .null, .int (nI 0), .int (nI 0), .int (bI false)])), (q1, .inl (E 0, 4096, .inl (aN (fun _ => 0)))), (q2, .inl (E 0, 4096, .inl (aN (fun _ => 0))))]) rfl ?_
  refine g_putF (ws' := [(g, .inr (4, [.ref q1, .ref q2, .null, .int (nI 0), .int (nI 0), .int (bI false)])), (q1, .inl (E 0, 4096, .inl (aN (fun _ => 0)))), (q2, .inl (E 0, 4096, .inl (aN (fun _ => 0))))]) C lay_Senses ty_Senses nm_Senses 0 rfl rfl 1 (by decide) m_79 rfl hnm rfl rfl rfl (Nat.le_of_ble_eq_true rfl) rfl d_Senses_init_19 ?_
  refine g_aload_n C d_Senses_init_22 rfl 0 rfl ?_
  refine g_sipush (v := nI 924) C d_Senses_init_23 (by decide) ?_
  refine g_newI (N' := 924) C m_71 (nI_pos (by decide)) (nI_clamp (by decide)) (by decide) (Nat.le_of_ble_eq_true rfl) (Nat.le_of_ble_eq_true rfl) d_Senses_init_26 (fun q3 => ?_)
  refine g_ws (ws' := [(g, .inr (4, [.ref q1, .ref q2, .null, .int (nI 0), .int (nI 0), .int (bI false)])), (q1, .inl (E 0, 4096, .inl (aN (fun _ => 0)))), (q2, .inl (E 0, 4096, .inl (aN (fun _ => 0)))), (q3, .inl (E 0, 924, .inl (aN (fun _ => 0))))]) rfl ?_
  refine g_putF (ws' := [(g, .inr (4, [.ref q1, .ref q2, .ref q3, .int (nI 0), .int (nI 0), .int (bI false)])), (q1, .inl (E 0, 4096, .inl (aN (fun _ => 0)))), (q2, .inl (E 0, 4096, .inl (aN (fun _ => 0)))), (q3, .inl (E 0, 924, .inl (aN (fun _ => 0))))]) C lay_Senses ty_Senses nm_Senses 0 rfl rfl 2 (by decide) m_80 rfl hnm rfl rfl rfl (Nat.le_of_ble_eq_true rfl) rfl d_Senses_init_28 ?_
  refine g_aload_n C d_Senses_init_31 rfl 0 rfl ?_
  refine g_iconst (v := nI 0) C d_Senses_init_32 (by decide) ?_
  refine g_put (ws' := [(g, .inr (4, [.ref q1, .ref q2, .ref q3, .int (nI 0), .int (nI 0), .int (bI false)])), (q1, .inl (E 0, 4096, .inl (aN (fun _ => 0)))), (q2, .inl (E 0, 4096, .inl (aN (fun _ => 0)))), (q3, .inl (E 0, 924, .inl (aN (fun _ => 0))))]) C lay_Senses ty_Senses nm_Senses 0 rfl rfl 3 (by decide) m_81 rfl rfl rfl (Nat.le_of_ble_eq_true rfl) rfl d_Senses_init_33 ?_
  refine g_aload_n C d_Senses_init_36 rfl 0 rfl ?_
  refine g_iconst (v := nI 0) C d_Senses_init_37 (by decide) ?_
  refine g_put (ws' := [(g, .inr (4, [.ref q1, .ref q2, .ref q3, .int (nI 0), .int (nI 0), .int (bI false)])), (q1, .inl (E 0, 4096, .inl (aN (fun _ => 0)))), (q2, .inl (E 0, 4096, .inl (aN (fun _ => 0)))), (q3, .inl (E 0, 924, .inl (aN (fun _ => 0))))]) C lay_Senses ty_Senses nm_Senses 0 rfl rfl 4 (by decide) m_82 rfl rfl rfl (Nat.le_of_ble_eq_true rfl) rfl d_Senses_init_38 ?_
  refine g_aload_n C d_Senses_init_41 rfl 0 rfl ?_
  refine g_iconst (v := nI 0) C d_Senses_init_42 (by decide) ?_
  refine g_top (show nI 0 = bI false from rfl) ?_
  refine g_put (ws' := [(g, .inr (4, [.ref q1, .ref q2, .ref q3, .int (nI 0), .int (nI 0), .int (bI false)])), (q1, .inl (E 0, 4096, .inl (aN (fun _ => 0)))), (q2, .inl (E 0, 4096, .inl (aN (fun _ => 0)))), (q3, .inl (E 0, 924, .inl (aN (fun _ => 0))))]) C lay_Senses ty_Senses nm_Senses 0 rfl rfl 5 (by decide) m_83 rfl (bI_nar _) (bI_fit _) (Nat.le_of_ble_eq_true rfl) rfl d_Senses_init_43 ?_
  exact g_vret C hrt hlk (q1, q2, q3) (trivial) rfl d_Senses_init_46

set_option maxHeartbeats 4000000 in
set_option maxRecDepth 100000 in
theorem c_Li_init (l : Launch) (D : va_G) (E : Nat → ClassId) (li : Nat)  : MV l D E y_Listing_init (.code y_Listing_init k_Listing_init 1 none) ({ frames := 1, cells := 0, slots := 0, locals := 12 } : Room) [.ref li] [(li, .inr (2, [.int (bI false), .int (nI 0), .int (nI 0), .int (nI 0)]))] (fun _ : Unit => True) (fun _ : Unit => [(li, .inr (2, [.int (bI false), .int (nI 0), .int (nI 0), .int (oI none)]))]) := by
  refine MV.of (by decide) (Nat.le_of_ble_eq_true rfl) ?_
  intro p e s m args below meth c A C hrt hlk hnm
  refine g_lv (lv' := [(0, .ref li)]) rfl ?_
  refine g_aload_n C d_Listing_init_0 rfl 0 rfl ?_
  refine g_objInit C m_102 m_53 m_54 d_Listing_init_1 (Nat.le_of_ble_eq_true rfl) (Nat.le_of_ble_eq_true rfl) ?_
  refine g_aload_n C d_Listing_init_4 rfl 0 rfl ?_
  refine g_iconst (v := nI 0) C d_Listing_init_5 (by decide) ?_
  refine g_top (show nI 0 = bI false from rfl) ?_
  refine g_put (ws' := [(li, .inr (2, [.int (bI false), .int (nI 0), .int (nI 0), .int (nI 0)]))]) C lay_Listing ty_Listing nm_Listing 0 rfl rfl 0 (by decide) m_103 rfl (bI_nar _) (bI_fit _) (Nat.le_of_ble_eq_true rfl) rfl d_Listing_init_6 ?_
  refine g_aload_n C d_Listing_init_9 rfl 0 rfl ?_
  refine g_iconst (v := nI 0) C d_Listing_init_10 (by decide) ?_
  refine g_put (ws' := [(li, .inr (2, [.int (bI false), .int (nI 0), .int (nI 0), .int (nI 0)]))]) C lay_Listing ty_Listing nm_Listing 0 rfl rfl 1 (by decide) m_104 rfl rfl rfl (Nat.le_of_ble_eq_true rfl) rfl d_Listing_init_11 ?_
  refine g_aload_n C d_Listing_init_14 rfl 0 rfl ?_
  refine g_iconst (v := nI 0) C d_Listing_init_15 (by decide) ?_
  refine g_put (ws' := [(li, .inr (2, [.int (bI false), .int (nI 0), .int (nI 0), .int (nI 0)]))]) C lay_Listing ty_Listing nm_Listing 0 rfl rfl 2 (by decide) m_105 rfl rfl rfl (Nat.le_of_ble_eq_true rfl) rfl d_Listing_init_16 ?_
  refine g_aload_n C d_Listing_init_19 rfl 0 rfl ?_
  refine g_iconst (v := (-1)) C d_Listing_init_20 (by decide) ?_
  refine g_put (ws' := [(li, .inr (2, [.int (bI false), .int (nI 0), .int (nI 0), .int (-1)]))]) C lay_Listing ty_Listing nm_Listing 0 rfl rfl 3 (by decide) m_106 rfl rfl rfl (Nat.le_of_ble_eq_true rfl) rfl d_Listing_init_21 ?_
  exact g_vret C hrt hlk () (trivial) rfl d_Listing_init_24

set_option maxHeartbeats 4000000 in
set_option maxRecDepth 100000 in
theorem c_Gr_init (l : Launch) (D : va_G) (E : Nat → ClassId) (q : Nat)  : MV l D E y_Grounds_init (.code y_Grounds_init k_Grounds_init 1 none) ({ frames := 1, cells := 1, slots := 12, locals := 12 } : Room) [.ref q] [(q, .inr (1, [.null, .int (nI 0)]))] (fun (qa : Nat) => (True)) (fun (qa : Nat) => [(q, .inr (1, [.ref qa, .int (nI 0)])), (qa, .inl (E 0, 12, .inl (aN (fun _ => 0))))]) := by
  refine MV.of (by decide) (Nat.le_of_ble_eq_true rfl) ?_
  intro p e s m args below meth c A C hrt hlk hnm
  refine g_lv (lv' := [(0, .ref q)]) rfl ?_
  refine g_aload_n C d_Grounds_init_0 rfl 0 rfl ?_
  refine g_objInit C m_121 m_53 m_54 d_Grounds_init_1 (Nat.le_of_ble_eq_true rfl) (Nat.le_of_ble_eq_true rfl) ?_
  refine g_aload_n C d_Grounds_init_4 rfl 0 rfl ?_
  refine g_bipush (v := nI 12) C d_Grounds_init_5 (by decide) ?_
  refine g_newI (N' := 12) C m_71 (nI_pos (by decide)) (nI_clamp (by decide)) (by decide) (Nat.le_of_ble_eq_true rfl) (Nat.le_of_ble_eq_true rfl) d_Grounds_init_7 (fun q1 => ?_)
  refine g_ws (ws' := [(q, .inr (1, [.null, .int (nI 0)])), (q1, .inl (E 0, 12, .inl (aN (fun _ => 0))))]) rfl ?_
  refine g_putF (ws' := [(q, .inr (1, [.ref q1, .int (nI 0)])), (q1, .inl (E 0, 12, .inl (aN (fun _ => 0))))]) C lay_Grounds ty_Grounds nm_Grounds 0 rfl rfl 0 (by decide) m_122 rfl hnm rfl rfl rfl (Nat.le_of_ble_eq_true rfl) rfl d_Grounds_init_9 ?_
  refine g_aload_n C d_Grounds_init_12 rfl 0 rfl ?_
  refine g_iconst (v := nI 0) C d_Grounds_init_13 (by decide) ?_
  refine g_put (ws' := [(q, .inr (1, [.ref q1, .int (nI 0)])), (q1, .inl (E 0, 12, .inl (aN (fun _ => 0))))]) C lay_Grounds ty_Grounds nm_Grounds 0 rfl rfl 1 (by decide) m_123 rfl rfl rfl (Nat.le_of_ble_eq_true rfl) rfl d_Grounds_init_14 ?_
  exact g_vret C hrt hlk (q1) (trivial) rfl d_Grounds_init_17

set_option maxHeartbeats 4000000 in
set_option maxRecDepth 100000 in
theorem c_Tk_init (l : Launch) (D : va_G) (E : Nat → ClassId) (v : Nat)  : MV l D E y_Talk_init (.code y_Talk_init k_Talk_init 1 none) ({ frames := 1, cells := 3, slots := 1500, locals := 12 } : Room) [.ref v] [(v, .inr (5, [.null, .null, .null, .int (nI 0), .int (bI false)]))] (fun (u : Nat × Nat × Nat) => match u with | (va, vb, vc) => (True)) (fun (u : Nat × Nat × Nat) => match u with | (va, vb, vc) => [(v, .inr (5, [.ref va, .ref vb, .ref vc, .int (nI 0), .int (bI false)])), (va, .inl (E 0, 500, .inl (aN (fun _ => 0)))), (vb, .inl (E 0, 500, .inl (aN (fun _ => 0)))), (vc, .inl (E 0, 500, .inl (aN (fun _ => 0))))]) := by
  refine MV.of (by decide) (Nat.le_of_ble_eq_true rfl) ?_
  intro p e s m args below meth c A C hrt hlk hnm
  refine g_lv (lv' := [(0, .ref v)]) rfl ?_
  refine g_aload_n C d_Talk_init_0 rfl 0 rfl ?_
  refine g_objInit C m_134 m_53 m_54 d_Talk_init_1 (Nat.le_of_ble_eq_true rfl) (Nat.le_of_ble_eq_true rfl) ?_
  refine g_aload_n C d_Talk_init_4 rfl 0 rfl ?_
  refine g_sipush (v := nI 500) C d_Talk_init_5 (by decide) ?_
  refine g_newI (N' := 500) C m_71 (nI_pos (by decide)) (nI_clamp (by decide)) (by decide) (Nat.le_of_ble_eq_true rfl) (Nat.le_of_ble_eq_true rfl) d_Talk_init_8 (fun q1 => ?_)
  refine g_ws (ws' := [(v, .inr (5, [.null, .null, .null, .int (nI 0), .int (bI false)])), (q1, .inl (E 0, 500, .inl (aN (fun _ => 0))))]) rfl ?_
  refine g_putF (ws' := [(v, .inr (5, [.ref q1, .null, .null, .int (nI 0), .int (bI false)])), (q1, .inl (E 0, 500, .inl (aN (fun _ => 0))))]) C lay_Talk ty_Talk nm_Talk 0 rfl rfl 0 (by decide) m_135 rfl hnm rfl rfl rfl (Nat.le_of_ble_eq_true rfl) rfl d_Talk_init_10 ?_
  refine g_aload_n C d_Talk_init_13 rfl 0 rfl ?_
  refine g_sipush (v := nI 500) C d_Talk_init_14 (by decide) ?_
  refine g_newI (N' := 500) C m_71 (nI_pos (by decide)) (nI_clamp (by decide)) (by decide) (Nat.le_of_ble_eq_true rfl) (Nat.le_of_ble_eq_true rfl) d_Talk_init_17 (fun q2 => ?_)
  refine g_ws (ws' := [(v, .inr (5, [.ref q1, .null, .null, .int (nI 0), .int (bI false)])), (q1, .inl (E 0, 500, .inl (aN (fun _ => 0)))), (q2, .inl (E 0, 500, .inl (aN (fun _ => 0))))]) rfl ?_
  refine g_putF (ws' := [(v, .inr (5, [.ref q1, .ref q2, .null, .int (nI 0), .int (bI false)])), (q1, .inl (E 0, 500, .inl (aN (fun _ => 0)))), (q2, .inl (E 0, 500, .inl (aN (fun _ => 0))))]) C lay_Talk ty_Talk nm_Talk 0 rfl rfl 1 (by decide) m_136 rfl hnm rfl rfl rfl (Nat.le_of_ble_eq_true rfl) rfl d_Talk_init_19 ?_
  refine g_aload_n C d_Talk_init_22 rfl 0 rfl ?_
  refine g_sipush (v := nI 500) C d_Talk_init_23 (by decide) ?_
  refine g_newI (N' := 500) C m_71 (nI_pos (by decide)) (nI_clamp (by decide)) (by decide) (Nat.le_of_ble_eq_true rfl) (Nat.le_of_ble_eq_true rfl) d_Talk_init_26 (fun q3 => ?_)
  refine g_ws (ws' := [(v, .inr (5, [.ref q1, .ref q2, .null, .int (nI 0), .int (bI false)])), (q1, .inl (E 0, 500, .inl (aN (fun _ => 0)))), (q2, .inl (E 0, 500, .inl (aN (fun _ => 0)))), (q3, .inl (E 0, 500, .inl (aN (fun _ => 0))))]) rfl ?_
  refine g_putF (ws' := [(v, .inr (5, [.ref q1, .ref q2, .ref q3, .int (nI 0), .int (bI false)])), (q1, .inl (E 0, 500, .inl (aN (fun _ => 0)))), (q2, .inl (E 0, 500, .inl (aN (fun _ => 0)))), (q3, .inl (E 0, 500, .inl (aN (fun _ => 0))))]) C lay_Talk ty_Talk nm_Talk 0 rfl rfl 2 (by decide) m_137 rfl hnm rfl rfl rfl (Nat.le_of_ble_eq_true rfl) rfl d_Talk_init_28 ?_
  refine g_aload_n C d_Talk_init_31 rfl 0 rfl ?_
  refine g_iconst (v := nI 0) C d_Talk_init_32 (by decide) ?_
  refine g_put (ws' := [(v, .inr (5, [.ref q1, .ref q2, .ref q3, .int (nI 0), .int (bI false)])), (q1, .inl (E 0, 500, .inl (aN (fun _ => 0)))), (q2, .inl (E 0, 500, .inl (aN (fun _ => 0)))), (q3, .inl (E 0, 500, .inl (aN (fun _ => 0))))]) C lay_Talk ty_Talk nm_Talk 0 rfl rfl 3 (by decide) m_138 rfl rfl rfl (Nat.le_of_ble_eq_true rfl) rfl d_Talk_init_33 ?_
  refine g_aload_n C d_Talk_init_36 rfl 0 rfl ?_
  refine g_iconst (v := nI 0) C d_Talk_init_37 (by decide) ?_
  refine g_top (show nI 0 = bI false from rfl) ?_
  refine g_put (ws' := [(v, .inr (5, [.ref q1, .ref q2, .ref q3, .int (nI 0), .int (bI false)])), (q1, .inl (E 0, 500, .inl (aN (fun _ => 0)))), (q2, .inl (E 0, 500, .inl (aN (fun _ => 0)))), (q3, .inl (E 0, 500, .inl (aN (fun _ => 0))))]) C lay_Talk ty_Talk nm_Talk 0 rfl rfl 4 (by decide) m_139 rfl (bI_nar _) (bI_fit _) (Nat.le_of_ble_eq_true rfl) rfl d_Talk_init_38 ?_
  exact g_vret C hrt hlk (q1, q2, q3) (trivial) rfl d_Talk_init_41

set_option maxHeartbeats 4000000 in
set_option maxRecDepth 100000 in
theorem c_Ri_init (l : Launch) (D : va_G) (E : Nat → ClassId) (w : Nat)  : MV l D E y_Rings_init (.code y_Rings_init k_Rings_init 1 none) ({ frames := 1, cells := 2, slots := 24, locals := 12 } : Room) [.ref w] [(w, .inr (3, [.null, .null, .int (nI 0)]))] (fun (u : Nat × Nat) => match u with | (wa, wb) => (True)) (fun (u : Nat × Nat) => match u with | (wa, wb) => [(w, .inr (3, [.ref wa, .ref wb, .int (nI 0)])), (wa, .inl (E 0, 12, .inl (aN (fun _ => 0)))), (wb, .inl (E 0, 12, .inl (aN (fun _ => 0))))]) := by
  refine MV.of (by decide) (Nat.le_of_ble_eq_true rfl) ?_
  intro p e s m args below meth c A C hrt hlk hnm
  refine g_lv (lv' := [(0, .ref w)]) rfl ?_
  refine g_aload_n C d_Rings_init_0 rfl 0 rfl ?_
  refine g_objInit C m_156 m_53 m_54 d_Rings_init_1 (Nat.le_of_ble_eq_true rfl) (Nat.le_of_ble_eq_true rfl) ?_
  refine g_aload_n C d_Rings_init_4 rfl 0 rfl ?_
  refine g_bipush (v := nI 12) C d_Rings_init_5 (by decide) ?_
  refine g_newI (N' := 12) C m_71 (nI_pos (by decide)) (nI_clamp (by decide)) (by decide) (Nat.le_of_ble_eq_true rfl) (Nat.le_of_ble_eq_true rfl) d_Rings_init_7 (fun q1 => ?_)
  refine g_ws (ws' := [(w, .inr (3, [.null, .null, .int (nI 0)])), (q1, .inl (E 0, 12, .inl (aN (fun _ => 0))))]) rfl ?_
  refine g_putF (ws' := [(w, .inr (3, [.ref q1, .null, .int (nI 0)])), (q1, .inl (E 0, 12, .inl (aN (fun _ => 0))))]) C lay_Rings ty_Rings nm_Rings 0 rfl rfl 0 (by decide) m_157 rfl hnm rfl rfl rfl (Nat.le_of_ble_eq_true rfl) rfl d_Rings_init_9 ?_
  refine g_aload_n C d_Rings_init_12 rfl 0 rfl ?_
  refine g_bipush (v := nI 12) C d_Rings_init_13 (by decide) ?_
  refine g_newI (N' := 12) C m_71 (nI_pos (by decide)) (nI_clamp (by decide)) (by decide) (Nat.le_of_ble_eq_true rfl) (Nat.le_of_ble_eq_true rfl) d_Rings_init_15 (fun q2 => ?_)
  refine g_ws (ws' := [(w, .inr (3, [.ref q1, .null, .int (nI 0)])), (q1, .inl (E 0, 12, .inl (aN (fun _ => 0)))), (q2, .inl (E 0, 12, .inl (aN (fun _ => 0))))]) rfl ?_
  refine g_putF (ws' := [(w, .inr (3, [.ref q1, .ref q2, .int (nI 0)])), (q1, .inl (E 0, 12, .inl (aN (fun _ => 0)))), (q2, .inl (E 0, 12, .inl (aN (fun _ => 0))))]) C lay_Rings ty_Rings nm_Rings 0 rfl rfl 1 (by decide) m_158 rfl hnm rfl rfl rfl (Nat.le_of_ble_eq_true rfl) rfl d_Rings_init_17 ?_
  refine g_aload_n C d_Rings_init_20 rfl 0 rfl ?_
  refine g_iconst (v := nI 0) C d_Rings_init_21 (by decide) ?_
  refine g_put (ws' := [(w, .inr (3, [.ref q1, .ref q2, .int (nI 0)])), (q1, .inl (E 0, 12, .inl (aN (fun _ => 0)))), (q2, .inl (E 0, 12, .inl (aN (fun _ => 0))))]) C lay_Rings ty_Rings nm_Rings 0 rfl rfl 2 (by decide) m_159 rfl rfl rfl (Nat.le_of_ble_eq_true rfl) rfl d_Rings_init_22 ?_
  exact g_vret C hrt hlk (q1, q2) (trivial) rfl d_Rings_init_25
end
