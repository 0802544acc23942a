def T_AB : u_T := fun k => match k with
  | 0 => ("AttackBench", "web", "LAttackBench$Web;", true)
  | 1 => ("AttackBench", "senses", "LAttackBench$Senses;", true)
  | 2 => ("AttackBench", "listing", "LAttackBench$Listing;", true)
  | 3 => ("AttackBench", "grounds", "LAttackBench$Grounds;", true)
  | 4 => ("AttackBench", "talk", "LAttackBench$Talk;", true)
  | _ => ("AttackBench", "rings", "LAttackBench$Rings;", true)
def tt_AB : Nat → FieldType := fun k => match k with
  | 0 => .object "AttackBench$Web"
  | 1 => .object "AttackBench$Senses"
  | 2 => .object "AttackBench$Listing"
  | 3 => .object "AttackBench$Grounds"
  | 4 => .object "AttackBench$Talk"
  | _ => .object "AttackBench$Rings"
theorem nm_AB : ∀ a, a < 6 → ∀ b, b < 6 → a ≠ b → (T_AB a).2.1 ≠ (T_AB b).2.1 := by decide +kernel
theorem ty_AB : ∀ k, k < 6 → parseFieldDescriptor (T_AB k).2.2.1 = some (tt_AB k) := by decide +kernel
def T_Grounds : u_T := fun k => match k with
  | 0 => ("AttackBench$Grounds", "rounds", "[I", true)
  | _ => ("AttackBench$Grounds", "all", "I", false)
def tt_Grounds : Nat → FieldType := fun k => match k with
  | 0 => .array .int
  | _ => .int
theorem nm_Grounds : ∀ a, a < 2 → ∀ b, b < 2 → a ≠ b → (T_Grounds a).2.1 ≠ (T_Grounds b).2.1 := by decide +kernel
theorem ty_Grounds : ∀ k, k < 2 → parseFieldDescriptor (T_Grounds k).2.2.1 = some (tt_Grounds k) := by decide +kernel
def T_Listing : u_T := fun k => match k with
  | 0 => ("AttackBench$Listing", "open", "Z", false)
  | 1 => ("AttackBench$Listing", "kind", "I", false)
  | 2 => ("AttackBench$Listing", "place", "I", false)
  | _ => ("AttackBench$Listing", "told", "I", false)
def tt_Listing : Nat → FieldType := fun k => match k with
  | 0 => .boolean
  | 1 => .int
  | 2 => .int
  | _ => .int
theorem nm_Listing : ∀ a, a < 4 → ∀ b, b < 4 → a ≠ b → (T_Listing a).2.1 ≠ (T_Listing b).2.1 := by decide +kernel
theorem ty_Listing : ∀ k, k < 4 → parseFieldDescriptor (T_Listing k).2.2.1 = some (tt_Listing k) := by decide +kernel
def T_Rings : u_T := fun k => match k with
  | 0 => ("AttackBench$Rings", "reach", "[I", true)
  | 1 => ("AttackBench$Rings", "numbers", "[I", true)
  | _ => ("AttackBench$Rings", "size", "I", false)
def tt_Rings : Nat → FieldType := fun k => match k with
  | 0 => .array .int
  | 1 => .array .int
  | _ => .int
theorem nm_Rings : ∀ a, a < 3 → ∀ b, b < 3 → a ≠ b → (T_Rings a).2.1 ≠ (T_Rings b).2.1 := by decide +kernel
theorem ty_Rings : ∀ k, k < 3 → parseFieldDescriptor (T_Rings k).2.2.1 = some (tt_Rings k) := by decide +kernel
def T_Senses : u_T := fun k => match k with
  | 0 => ("AttackBench$Senses", "targets", "[I", true)
  | 1 => ("AttackBench$Senses", "marks", "[I", true)
  | 2 => ("AttackBench$Senses", "tops", "[I", true)
  | 3 => ("AttackBench$Senses", "topCount", "I", false)
  | 4 => ("AttackBench$Senses", "everything", "I", false)
  | _ => ("AttackBench$Senses", "known", "Z", false)
def tt_Senses : Nat → FieldType := fun k => match k with
  | 0 => .array .int
  | 1 => .array .int
  | 2 => .array .int
  | 3 => .int
  | 4 => .int
  | _ => .boolean
theorem nm_Senses : ∀ a, a < 6 → ∀ b, b < 6 → a ≠ b → (T_Senses a).2.1 ≠ (T_Senses b).2.1 := by decide +kernel
theorem ty_Senses : ∀ k, k < 6 → parseFieldDescriptor (T_Senses k).2.2.1 = some (tt_Senses k) := by decide +kernel
def T_Talk : u_T := fun k => match k with
  | 0 => ("AttackBench$Talk", "said", "[I", true)
  | 1 => ("AttackBench$Talk", "answered", "[I", true)
  | 2 => ("AttackBench$Talk", "sides", "[I", true)
  | 3 => ("AttackBench$Talk", "size", "I", false)
  | _ => ("AttackBench$Talk", "tooLong", "Z", false)
def tt_Talk : Nat → FieldType := fun k => match k with
  | 0 => .array .int
  | 1 => .array .int
  | 2 => .array .int
  | 3 => .int
  | _ => .boolean
theorem nm_Talk : ∀ a, a < 5 → ∀ b, b < 5 → a ≠ b → (T_Talk a).2.1 ≠ (T_Talk b).2.1 := by decide +kernel
theorem ty_Talk : ∀ k, k < 5 → parseFieldDescriptor (T_Talk k).2.2.1 = some (tt_Talk k) := by decide +kernel
def T_Web : u_T := fun k => match k with
  | 0 => ("AttackBench$Web", "targets", "[I", true)
  | 1 => ("AttackBench$Web", "attackers", "[I", true)
  | _ => ("AttackBench$Web", "size", "I", false)
def tt_Web : Nat → FieldType := fun k => match k with
  | 0 => .array .int
  | 1 => .array .int
  | _ => .int
theorem nm_Web : ∀ a, a < 3 → ∀ b, b < 3 → a ≠ b → (T_Web a).2.1 ≠ (T_Web b).2.1 := by decide +kernel
theorem ty_Web : ∀ k, k < 3 → parseFieldDescriptor (T_Web k).2.2.1 = some (tt_Web k) := by decide +kernel
def T_Mo : u_T := fun k => match k with
  | 0 => ("AttackBenchModel", "thrown", "I", false)
  | 1 => ("AttackBenchModel", "n", "I", false)
  | 2 => ("AttackBenchModel", "out", "[I", true)
  | 3 => ("AttackBenchModel", "in", "[I", true)
  | 4 => ("AttackBenchModel", "hits", "[I", true)
  | 5 => ("AttackBenchModel", "kinds", "[B", true)
  | 6 => ("AttackBenchModel", "here", "[Z", true)
  | 7 => ("AttackBenchModel", "above", "[Z", true)
  | 8 => ("AttackBenchModel", "known", "Z", false)
  | 9 => ("AttackBenchModel", "listing", "Z", false)
  | 10 => ("AttackBenchModel", "told", "Z", false)
  | 11 => ("AttackBenchModel", "listed", "I", false)
  | 12 => ("AttackBenchModel", "latest", "I", false)
  | 13 => ("AttackBenchModel", "rounds", "[I", true)
  | 14 => ("AttackBenchModel", "ground", "I", false)
  | 15 => ("AttackBenchModel", "moves", "I", false)
  | 16 => ("AttackBenchModel", "says", "[I", true)
  | 17 => ("AttackBenchModel", "answers", "[I", true)
  | 18 => ("AttackBenchModel", "sides", "[I", true)
  | 19 => ("AttackBenchModel", "laterSays", "[I", true)
  | 20 => ("AttackBenchModel", "laterAnswers", "[I", true)
  | 21 => ("AttackBenchModel", "laterSides", "[I", true)
  | 22 => ("AttackBenchModel", "later", "I", false)
  | 23 => ("AttackBenchModel", "reach", "[I", true)
  | _ => ("AttackBenchModel", "circles", "[I", true)
def tt_Mo : Nat → FieldType := fun k => match k with
  | 0 => .int
  | 1 => .int
  | 2 => .array .int
  | 3 => .array .int
  | 4 => .array .int
  | 5 => .array .byte
  | 6 => .array .boolean
  | 7 => .array .boolean
  | 8 => .boolean
  | 9 => .boolean
  | 10 => .boolean
  | 11 => .int
  | 12 => .int
  | 13 => .array .int
  | 14 => .int
  | 15 => .int
  | 16 => .array .int
  | 17 => .array .int
  | 18 => .array .int
  | 19 => .array .int
  | 20 => .array .int
  | 21 => .array .int
  | 22 => .int
  | 23 => .array .int
  | _ => .array .int
theorem nm_Mo : ∀ a, a < 25 → ∀ b, b < 25 → a ≠ b → (T_Mo a).2.1 ≠ (T_Mo b).2.1 := by decide +kernel
theorem ty_Mo : ∀ k, k < 25 → parseFieldDescriptor (T_Mo k).2.2.1 = some (tt_Mo k) := by decide +kernel
abbrev vwCl : List vw_C := [("AttackBench", T_AB, 6), ("AttackBench$Grounds", T_Grounds, 2), ("AttackBench$Listing", T_Listing, 4), ("AttackBench$Rings", T_Rings, 3), ("AttackBench$Senses", T_Senses, 6), ("AttackBench$Talk", T_Talk, 5), ("AttackBench$Web", T_Web, 3), ("AttackBenchModel", T_Mo, 25)]
abbrev k_AB_init : ByteArray := prog_1_method_1_code
def y_AB_init : MethodName := ⟨"AttackBench", "<init>", "()V"⟩
abbrev k_Web_init : ByteArray := prog_7_method_1_code
def y_Web_init : MethodName := ⟨"AttackBench$Web", "<init>", "()V"⟩
abbrev k_Senses_init : ByteArray := prog_5_method_1_code
def y_Senses_init : MethodName := ⟨"AttackBench$Senses", "<init>", "()V"⟩
abbrev k_Listing_init : ByteArray := prog_3_method_1_code
def y_Listing_init : MethodName := ⟨"AttackBench$Listing", "<init>", "()V"⟩
abbrev k_Grounds_init : ByteArray := prog_2_method_1_code
def y_Grounds_init : MethodName := ⟨"AttackBench$Grounds", "<init>", "()V"⟩
abbrev k_Talk_init : ByteArray := prog_6_method_1_code
def y_Talk_init : MethodName := ⟨"AttackBench$Talk", "<init>", "()V"⟩
abbrev k_Rings_init : ByteArray := prog_4_method_1_code
def y_Rings_init : MethodName := ⟨"AttackBench$Rings", "<init>", "()V"⟩
abbrev k_AB_claim : ByteArray := prog_1_method_2_code
def y_AB_claim : MethodName := ⟨"AttackBench", "claim", "()I"⟩
abbrev k_Web_hasRoomFor : ByteArray := prog_7_method_6_code
def y_Web_hasRoomFor : MethodName := ⟨"AttackBench$Web", "hasRoomFor", "(I)Z"⟩
abbrev k_Web_add : ByteArray := prog_7_method_7_code
def y_Web_add : MethodName := ⟨"AttackBench$Web", "add", "()I"⟩
abbrev k_AB_changed : ByteArray := prog_1_method_24_code
def y_AB_changed : MethodName := ⟨"AttackBench", "changed", "()V"⟩
abbrev k_Listing_end : ByteArray := prog_3_method_3_code
def y_Listing_end : MethodName := ⟨"AttackBench$Listing", "end", "()V"⟩
abbrev k_Senses_forget : ByteArray := prog_5_method_2_code
def y_Senses_forget : MethodName := ⟨"AttackBench$Senses", "forget", "()V"⟩
abbrev k_AB_attack : ByteArray := prog_1_method_3_code
def y_AB_attack : MethodName := ⟨"AttackBench", "attack", "(IIZ)Z"⟩
abbrev k_Web_has : ByteArray := prog_7_method_4_code
def y_Web_has : MethodName := ⟨"AttackBench$Web", "has", "(I)Z"⟩
abbrev k_Web_leads : ByteArray := prog_7_method_8_code
def y_Web_leads : MethodName := ⟨"AttackBench$Web", "leads", "(II)Z"⟩
abbrev k_AB_isIn : ByteArray := prog_1_method_26_code
def y_AB_isIn : MethodName := ⟨"AttackBench", "isIn", "(II)Z"⟩
abbrev k_Web_put : ByteArray := prog_7_method_9_code
def y_Web_put : MethodName := ⟨"AttackBench$Web", "put", "(IIZ)V"⟩
abbrev k_AB_attacks : ByteArray := prog_1_method_4_code
def y_AB_attacks : MethodName := ⟨"AttackBench", "attacks", "(II)Z"⟩
abbrev k_AB_joint : ByteArray := prog_1_method_5_code
def y_AB_joint : MethodName := ⟨"AttackBench", "joint", "(III)I"⟩
abbrev k_AB_support : ByteArray := prog_1_method_6_code
def y_AB_support : MethodName := ⟨"AttackBench", "support", "(II)I"⟩
abbrev k_AB_arguments : ByteArray := prog_1_method_7_code
def y_AB_arguments : MethodName := ⟨"AttackBench", "arguments", "()I"⟩
abbrev k_Web_size : ByteArray := prog_7_method_2_code
def y_Web_size : MethodName := ⟨"AttackBench$Web", "size", "()I"⟩
abbrev k_AB_isFree : ByteArray := prog_1_method_8_code
def y_AB_isFree : MethodName := ⟨"AttackBench", "isFree", "(I)Z"⟩
abbrev k_Web_hasSet : ByteArray := prog_7_method_5_code
def y_Web_hasSet : MethodName := ⟨"AttackBench$Web", "hasSet", "(I)Z"⟩
abbrev k_Web_everything : ByteArray := prog_7_method_3_code
def y_Web_everything : MethodName := ⟨"AttackBench$Web", "everything", "()I"⟩
abbrev k_AB_isWithin : ByteArray := prog_1_method_27_code
def y_AB_isWithin : MethodName := ⟨"AttackBench", "isWithin", "(II)Z"⟩
abbrev k_Web_targetsOf : ByteArray := prog_7_method_12_code
def y_Web_targetsOf : MethodName := ⟨"AttackBench$Web", "targetsOf", "(I)I"⟩
abbrev k_AB_is : ByteArray := prog_1_method_9_code
def y_AB_is : MethodName := ⟨"AttackBench", "is", "(II)Z"⟩
abbrev k_AB_isKind : ByteArray := prog_1_method_25_code
def y_AB_isKind : MethodName := ⟨"AttackBench", "isKind", "(I)Z"⟩
abbrev k_Senses_learn : ByteArray := prog_5_method_3_code
def y_Senses_learn : MethodName := ⟨"AttackBench$Senses", "learn", "(LAttackBench$Web;)V"⟩
abbrev k_Senses_fillTargets : ByteArray := prog_5_method_14_code
def y_Senses_fillTargets : MethodName := ⟨"AttackBench$Senses", "fillTargets", "(LAttackBench$Web;)V"⟩
abbrev k_Web_targetsOfOne : ByteArray := prog_7_method_10_code
def y_Web_targetsOfOne : MethodName := ⟨"AttackBench$Web", "targetsOfOne", "(I)I"⟩
abbrev k_Senses_ownMarks : ByteArray := prog_5_method_15_code
def y_Senses_ownMarks : MethodName := ⟨"AttackBench$Senses", "ownMarks", "(I)I"⟩
abbrev k_Senses_hitBy : ByteArray := prog_5_method_12_code
def y_Senses_hitBy : MethodName := ⟨"AttackBench$Senses", "hitBy", "(I)I"⟩
abbrev k_Senses_isNumber : ByteArray := prog_5_method_9_code
def y_Senses_isNumber : MethodName := ⟨"AttackBench$Senses", "isNumber", "(I)Z"⟩
abbrev k_Senses_rangeOf : ByteArray := prog_5_method_13_code
def y_Senses_rangeOf : MethodName := ⟨"AttackBench$Senses", "rangeOf", "(I)I"⟩
abbrev k_Senses_markPreferred : ByteArray := prog_5_method_16_code
def y_Senses_markPreferred : MethodName := ⟨"AttackBench$Senses", "markPreferred", "()V"⟩
abbrev k_Senses_hasMark : ByteArray := prog_5_method_10_code
def y_Senses_hasMark : MethodName := ⟨"AttackBench$Senses", "hasMark", "(II)Z"⟩
abbrev k_Senses_isNewTop : ByteArray := prog_5_method_19_code
def y_Senses_isNewTop : MethodName := ⟨"AttackBench$Senses", "isNewTop", "(I)Z"⟩
abbrev k_Senses_mark : ByteArray := prog_5_method_11_code
def y_Senses_mark : MethodName := ⟨"AttackBench$Senses", "mark", "(II)V"⟩
abbrev k_Senses_markRanges : ByteArray := prog_5_method_17_code
def y_Senses_markRanges : MethodName := ⟨"AttackBench$Senses", "markRanges", "()V"⟩
abbrev k_Senses_markStage : ByteArray := prog_5_method_18_code
def y_Senses_markStage : MethodName := ⟨"AttackBench$Senses", "markStage", "()V"⟩
abbrev k_Senses_isOf : ByteArray := prog_5_method_5_code
def y_Senses_isOf : MethodName := ⟨"AttackBench$Senses", "isOf", "(II)Z"⟩
abbrev k_AB_attackedBy : ByteArray := prog_1_method_10_code
def y_AB_attackedBy : MethodName := ⟨"AttackBench", "attackedBy", "(I)I"⟩
abbrev k_AB_defendedBy : ByteArray := prog_1_method_11_code
def y_AB_defendedBy : MethodName := ⟨"AttackBench", "defendedBy", "(I)I"⟩
abbrev k_Web_defendedOf : ByteArray := prog_7_method_14_code
def y_Web_defendedOf : MethodName := ⟨"AttackBench$Web", "defendedOf", "(I)I"⟩
abbrev k_AB_grounded : ByteArray := prog_1_method_12_code
def y_AB_grounded : MethodName := ⟨"AttackBench", "grounded", "()I"⟩
abbrev k_Grounds_settle : ByteArray := prog_2_method_4_code
def y_Grounds_settle : MethodName := ⟨"AttackBench$Grounds", "settle", "(LAttackBench$Web;)V"⟩
abbrev k_Grounds_noteRound : ByteArray := prog_2_method_6_code
def y_Grounds_noteRound : MethodName := ⟨"AttackBench$Grounds", "noteRound", "(II)V"⟩
abbrev k_Grounds_all : ByteArray := prog_2_method_2_code
def y_Grounds_all : MethodName := ⟨"AttackBench$Grounds", "all", "()I"⟩
abbrev k_AB_round : ByteArray := prog_1_method_13_code
def y_AB_round : MethodName := ⟨"AttackBench", "round", "(I)I"⟩
abbrev k_Grounds_roundOf : ByteArray := prog_2_method_3_code
def y_Grounds_roundOf : MethodName := ⟨"AttackBench$Grounds", "roundOf", "(I)I"⟩
abbrev k_AB_ideal : ByteArray := prog_1_method_14_code
def y_AB_ideal : MethodName := ⟨"AttackBench", "ideal", "()I"⟩
abbrev k_Senses_meet : ByteArray := prog_5_method_7_code
def y_Senses_meet : MethodName := ⟨"AttackBench$Senses", "meet", "(I)I"⟩
abbrev k_Senses_joinWithin : ByteArray := prog_5_method_8_code
def y_Senses_joinWithin : MethodName := ⟨"AttackBench$Senses", "joinWithin", "(II)I"⟩
abbrev k_AB_move : ByteArray := prog_1_method_21_code
def y_AB_move : MethodName := ⟨"AttackBench", "move", "(II)I"⟩
abbrev k_Talk_tell : ByteArray := prog_6_method_3_code
def y_Talk_tell : MethodName := ⟨"AttackBench$Talk", "tell", "(II)I"⟩
abbrev k_AB_circle : ByteArray := prog_1_method_22_code
def y_AB_circle : MethodName := ⟨"AttackBench", "circle", "(I)I"⟩
abbrev k_Rings_find : ByteArray := prog_4_method_4_code
def y_Rings_find : MethodName := ⟨"AttackBench$Rings", "find", "(LAttackBench$Web;)V"⟩
abbrev k_Rings_fillReach : ByteArray := prog_4_method_5_code
def y_Rings_fillReach : MethodName := ⟨"AttackBench$Rings", "fillReach", "(LAttackBench$Web;)V"⟩
abbrev k_Rings_firstReady : ByteArray := prog_4_method_6_code
def y_Rings_firstReady : MethodName := ⟨"AttackBench$Rings", "firstReady", "(LAttackBench$Web;I)I"⟩
abbrev k_Rings_around : ByteArray := prog_4_method_7_code
def y_Rings_around : MethodName := ⟨"AttackBench$Rings", "around", "(II)I"⟩
abbrev k_Rings_comesTo : ByteArray := prog_4_method_8_code
def y_Rings_comesTo : MethodName := ⟨"AttackBench$Rings", "comesTo", "(II)Z"⟩
abbrev k_Web_attackersOf : ByteArray := prog_7_method_13_code
def y_Web_attackersOf : MethodName := ⟨"AttackBench$Web", "attackersOf", "(I)I"⟩
abbrev k_Rings_number : ByteArray := prog_4_method_9_code
def y_Rings_number : MethodName := ⟨"AttackBench$Rings", "number", "(I)V"⟩
abbrev k_Rings_ringOf : ByteArray := prog_4_method_3_code
def y_Rings_ringOf : MethodName := ⟨"AttackBench$Rings", "ringOf", "(I)I"⟩
abbrev k_AB_circles : ByteArray := prog_1_method_23_code
def y_AB_circles : MethodName := ⟨"AttackBench", "circles", "()I"⟩
abbrev k_Rings_size : ByteArray := prog_4_method_2_code
def y_Rings_size : MethodName := ⟨"AttackBench$Rings", "size", "()I"⟩
abbrev k_Law_start : ByteArray := method_3_code
def y_Law_start : MethodName := ⟨"AttackBenchLaw", "start", "(LAttackBench;I)I"⟩
abbrev k_AB_start : ByteArray := prog_1_method_15_code
def y_AB_start : MethodName := ⟨"AttackBench", "start", "(I)V"⟩
abbrev k_Listing_begin : ByteArray := prog_3_method_2_code
def y_Listing_begin : MethodName := ⟨"AttackBench$Listing", "begin", "(I)V"⟩
abbrev k_Law_next : ByteArray := method_4_code
def y_Law_next : MethodName := ⟨"AttackBenchLaw", "next", "(LAttackBench;[J)I"⟩
abbrev k_AB_next : ByteArray := prog_1_method_16_code
def y_AB_next : MethodName := ⟨"AttackBench", "next", "()I"⟩
abbrev k_Listing_isOpen : ByteArray := prog_3_method_4_code
def y_Listing_isOpen : MethodName := ⟨"AttackBench$Listing", "isOpen", "()Z"⟩
abbrev k_Listing_tell : ByteArray := prog_3_method_6_code
def y_Listing_tell : MethodName := ⟨"AttackBench$Listing", "tell", "(LAttackBench$Senses;)I"⟩
abbrev k_Senses_everything : ByteArray := prog_5_method_4_code
def y_Senses_everything : MethodName := ⟨"AttackBench$Senses", "everything", "()I"⟩
abbrev k_Law_label : ByteArray := method_5_code
def y_Law_label : MethodName := ⟨"AttackBenchLaw", "label", "(LAttackBench;I[J)I"⟩
abbrev k_AB_label : ByteArray := prog_1_method_17_code
def y_AB_label : MethodName := ⟨"AttackBench", "label", "(I)I"⟩
abbrev k_Listing_told : ByteArray := prog_3_method_5_code
def y_Listing_told : MethodName := ⟨"AttackBench$Listing", "told", "()I"⟩
abbrev k_Law_count : ByteArray := method_6_code
def y_Law_count : MethodName := ⟨"AttackBenchLaw", "count", "(LAttackBench;I[J)I"⟩
abbrev k_AB_count : ByteArray := prog_1_method_18_code
def y_AB_count : MethodName := ⟨"AttackBench", "count", "(I)I"⟩
abbrev k_Senses_tally : ByteArray := prog_5_method_6_code
def y_Senses_tally : MethodName := ⟨"AttackBench$Senses", "tally", "(I)I"⟩
abbrev k_Law_holds : ByteArray := method_7_code
def y_Law_holds : MethodName := ⟨"AttackBenchLaw", "holds", "(LAttackBench;IIZ[J)I"⟩
abbrev k_AB_holds : ByteArray := prog_1_method_19_code
def y_AB_holds : MethodName := ⟨"AttackBench", "holds", "(IIZ)Z"⟩
abbrev k_Law_dialogue : ByteArray := method_8_code
def y_Law_dialogue : MethodName := ⟨"AttackBenchLaw", "dialogue", "(LAttackBench;I[J)I"⟩
abbrev k_AB_dialogue : ByteArray := prog_1_method_20_code
def y_AB_dialogue : MethodName := ⟨"AttackBench", "dialogue", "(I)I"⟩
abbrev k_Talk_about : ByteArray := prog_6_method_2_code
def y_Talk_about : MethodName := ⟨"AttackBench$Talk", "about", "(ILAttackBench$Web;LAttackBench$Grounds;)I"⟩
abbrev k_Talk_defend : ByteArray := prog_6_method_4_code
def y_Talk_defend : MethodName := ⟨"AttackBench$Talk", "defend", "(IILAttackBench$Web;LAttackBench$Grounds;I)V"⟩
abbrev k_Talk_say : ByteArray := prog_6_method_5_code
def y_Talk_say : MethodName := ⟨"AttackBench$Talk", "say", "(III)I"⟩
abbrev k_Web_attackersOfOne : ByteArray := prog_7_method_11_code
def y_Web_attackersOfOne : MethodName := ⟨"AttackBench$Web", "attackersOfOne", "(I)I"⟩
abbrev k_Grounds_earliestIn : ByteArray := prog_2_method_5_code
def y_Grounds_earliestIn : MethodName := ⟨"AttackBench$Grounds", "earliestIn", "(I)I"⟩
abbrev k_Mo_init : ByteArray := prog_9_method_1_code
def y_Mo_init : MethodName := ⟨"AttackBenchModel", "<init>", "()V"⟩
abbrev k_Mo_thrown : ByteArray := prog_9_method_2_code
def y_Mo_thrown : MethodName := ⟨"AttackBenchModel", "thrown", "()I"⟩
abbrev k_Mo_claim : ByteArray := prog_9_method_8_code
def y_Mo_claim : MethodName := ⟨"AttackBenchModel", "claim", "()I"⟩
abbrev k_Mo_comes : ByteArray := prog_9_method_6_code
def y_Mo_comes : MethodName := ⟨"AttackBenchModel", "comes", "()I"⟩
abbrev k_Mo_changes : ByteArray := prog_9_method_7_code
def y_Mo_changes : MethodName := ⟨"AttackBenchModel", "changes", "()V"⟩
abbrev k_Mo_attack : ByteArray := prog_9_method_10_code
def y_Mo_attack : MethodName := ⟨"AttackBenchModel", "attack", "(IIZ)Z"⟩
abbrev k_Mo_isArgument : ByteArray := prog_9_method_3_code
def y_Mo_isArgument : MethodName := ⟨"AttackBenchModel", "isArgument", "(I)Z"⟩
abbrev k_Mo_sets : ByteArray := prog_9_method_9_code
def y_Mo_sets : MethodName := ⟨"AttackBenchModel", "sets", "(IIZ)V"⟩
abbrev k_Mo_attacks : ByteArray := prog_9_method_11_code
def y_Mo_attacks : MethodName := ⟨"AttackBenchModel", "attacks", "(II)Z"⟩
abbrev k_Mo_joint : ByteArray := prog_9_method_12_code
def y_Mo_joint : MethodName := ⟨"AttackBenchModel", "joint", "(III)I"⟩
abbrev k_Mo_support : ByteArray := prog_9_method_13_code
def y_Mo_support : MethodName := ⟨"AttackBenchModel", "support", "(II)I"⟩
abbrev k_Mo_arguments : ByteArray := prog_9_method_14_code
def y_Mo_arguments : MethodName := ⟨"AttackBenchModel", "arguments", "()I"⟩
abbrev k_Mo_isFree : ByteArray := prog_9_method_22_code
def y_Mo_isFree : MethodName := ⟨"AttackBenchModel", "isFree", "(I)Z"⟩
abbrev k_Mo_reckon : ByteArray := prog_9_method_19_code
def y_Mo_reckon : MethodName := ⟨"AttackBenchModel", "reckon", "()V"⟩
abbrev k_Mo_defended : ByteArray := prog_9_method_15_code
def y_Mo_defended : MethodName := ⟨"AttackBenchModel", "defended", "(I)I"⟩
abbrev k_Mo_isFreeSet : ByteArray := prog_9_method_18_code
def y_Mo_isFreeSet : MethodName := ⟨"AttackBenchModel", "isFreeSet", "(I)Z"⟩
abbrev k_Mo_adds : ByteArray := prog_9_method_17_code
def y_Mo_adds : MethodName := ⟨"AttackBenchModel", "adds", "(II)V"⟩
abbrev k_Mo_looksAbove : ByteArray := prog_9_method_16_code
def y_Mo_looksAbove : MethodName := ⟨"AttackBenchModel", "looksAbove", "()V"⟩
abbrev k_Mo_goesRound : ByteArray := prog_9_method_20_code
def y_Mo_goesRound : MethodName := ⟨"AttackBenchModel", "goesRound", "()V"⟩
abbrev k_Mo_isSet : ByteArray := prog_9_method_4_code
def y_Mo_isSet : MethodName := ⟨"AttackBenchModel", "isSet", "(I)Z"⟩
abbrev k_Mo_is : ByteArray := prog_9_method_23_code
def y_Mo_is : MethodName := ⟨"AttackBenchModel", "is", "(II)Z"⟩
abbrev k_Mo_isKind : ByteArray := prog_9_method_5_code
def y_Mo_isKind : MethodName := ⟨"AttackBenchModel", "isKind", "(I)Z"⟩
abbrev k_Mo_isOf : ByteArray := prog_9_method_21_code
def y_Mo_isOf : MethodName := ⟨"AttackBenchModel", "isOf", "(II)Z"⟩
abbrev k_Mo_attackedBy : ByteArray := prog_9_method_24_code
def y_Mo_attackedBy : MethodName := ⟨"AttackBenchModel", "attackedBy", "(I)I"⟩
abbrev k_Mo_defendedBy : ByteArray := prog_9_method_25_code
def y_Mo_defendedBy : MethodName := ⟨"AttackBenchModel", "defendedBy", "(I)I"⟩
abbrev k_Mo_grounded : ByteArray := prog_9_method_26_code
def y_Mo_grounded : MethodName := ⟨"AttackBenchModel", "grounded", "()I"⟩
abbrev k_Mo_round : ByteArray := prog_9_method_27_code
def y_Mo_round : MethodName := ⟨"AttackBenchModel", "round", "(I)I"⟩
abbrev k_Mo_ideal : ByteArray := prog_9_method_28_code
def y_Mo_ideal : MethodName := ⟨"AttackBenchModel", "ideal", "()I"⟩
abbrev k_Mo_start : ByteArray := prog_9_method_29_code
def y_Mo_start : MethodName := ⟨"AttackBenchModel", "start", "(I)V"⟩
abbrev k_Mo_next : ByteArray := prog_9_method_30_code
def y_Mo_next : MethodName := ⟨"AttackBenchModel", "next", "()I"⟩
abbrev k_Mo_label : ByteArray := prog_9_method_31_code
def y_Mo_label : MethodName := ⟨"AttackBenchModel", "label", "(I)I"⟩
abbrev k_Mo_count : ByteArray := prog_9_method_32_code
def y_Mo_count : MethodName := ⟨"AttackBenchModel", "count", "(I)I"⟩
abbrev k_Mo_holds : ByteArray := prog_9_method_33_code
def y_Mo_holds : MethodName := ⟨"AttackBenchModel", "holds", "(IIZ)Z"⟩
abbrev k_Mo_dialogue : ByteArray := prog_9_method_36_code
def y_Mo_dialogue : MethodName := ⟨"AttackBenchModel", "dialogue", "(I)I"⟩
abbrev k_Mo_puts : ByteArray := prog_9_method_34_code
def y_Mo_puts : MethodName := ⟨"AttackBenchModel", "puts", "(III)V"⟩
abbrev k_Mo_against : ByteArray := prog_9_method_35_code
def y_Mo_against : MethodName := ⟨"AttackBenchModel", "against", "(I)I"⟩
abbrev k_Mo_move : ByteArray := prog_9_method_37_code
def y_Mo_move : MethodName := ⟨"AttackBenchModel", "move", "(II)I"⟩
abbrev k_Mo_circle : ByteArray := prog_9_method_41_code
def y_Mo_circle : MethodName := ⟨"AttackBenchModel", "circle", "(I)I"⟩
abbrev k_Mo_numbers : ByteArray := prog_9_method_38_code
def y_Mo_numbers : MethodName := ⟨"AttackBenchModel", "numbers", "()I"⟩
abbrev k_Mo_from : ByteArray := prog_9_method_39_code
def y_Mo_from : MethodName := ⟨"AttackBenchModel", "from", "(I)I"⟩
abbrev k_Mo_both : ByteArray := prog_9_method_40_code
def y_Mo_both : MethodName := ⟨"AttackBenchModel", "both", "(I)I"⟩
abbrev k_Mo_circles : ByteArray := prog_9_method_42_code
def y_Mo_circles : MethodName := ⟨"AttackBenchModel", "circles", "()I"⟩
def isNest : Cond → Bool
  | .methodLinkNest .. => true
  | .fieldLinkNest .. => true
  | _ => false
def allw : List Cond := lw_tbl.filter (fun w => goodWord w || isNest w)
theorem allw_ok : allw.all (fun w => goodWord w || isNest w) = true := List.all_eq_true.mpr fun w h => (List.mem_filter.mp h).2
theorem lay_AB_0 : u_lay "AttackBench" T_AB 0 ∈ allw := List.mem_filter.mpr ⟨List.mem_of_getElem? (i := 177) (by decide +kernel), by decide +kernel⟩
theorem lay_AB_1 : u_lay "AttackBench" T_AB 1 ∈ allw := List.mem_filter.mpr ⟨List.mem_of_getElem? (i := 179) (by decide +kernel), by decide +kernel⟩
theorem lay_AB_2 : u_lay "AttackBench" T_AB 2 ∈ allw := List.mem_filter.mpr ⟨List.mem_of_getElem? (i := 181) (by decide +kernel), by decide +kernel⟩
theorem lay_AB_3 : u_lay "AttackBench" T_AB 3 ∈ allw := List.mem_filter.mpr ⟨List.mem_of_getElem? (i := 183) (by decide +kernel), by decide +kernel⟩
theorem lay_AB_4 : u_lay "AttackBench" T_AB 4 ∈ allw := List.mem_filter.mpr ⟨List.mem_of_getElem? (i := 185) (by decide +kernel), by decide +kernel⟩
theorem lay_AB_5 : u_lay "AttackBench" T_AB 5 ∈ allw := List.mem_filter.mpr ⟨List.mem_of_getElem? (i := 187) (by decide +kernel), by decide +kernel⟩
theorem lay_AB : ∀ w ∈ u_ws "AttackBench" T_AB 6, w ∈ allw := by
  intro w hw
  obtain ⟨j, hj, rfl⟩ := List.mem_map.mp hw
  have hj := List.mem_range.mp hj
  match j, hj with
  | 0, _ => exact lay_AB_0
  | 1, _ => exact lay_AB_1
  | 2, _ => exact lay_AB_2
  | 3, _ => exact lay_AB_3
  | 4, _ => exact lay_AB_4
  | 5, _ => exact lay_AB_5
  | j + 6, h => exact absurd h (by omega)
theorem df_AB : ∀ j, j < 6 → defaultValue (tt_AB j) = vp_V [.null, .null, .null, .null, .null, .null] j := by
  intro j hj
  match j, hj with
  | 0, _ => rfl
  | 1, _ => rfl
  | 2, _ => rfl
  | 3, _ => rfl
  | 4, _ => rfl
  | 5, _ => rfl
  | j + 6, h => exact absurd h (by omega)
theorem lay_Grounds_0 : u_lay "AttackBench$Grounds" T_Grounds 0 ∈ allw := List.mem_filter.mpr ⟨List.mem_of_getElem? (i := 128) (by decide +kernel), by decide +kernel⟩
theorem lay_Grounds_1 : u_lay "AttackBench$Grounds" T_Grounds 1 ∈ allw := List.mem_filter.mpr ⟨List.mem_of_getElem? (i := 130) (by decide +kernel), by decide +kernel⟩
theorem lay_Grounds : ∀ w ∈ u_ws "AttackBench$Grounds" T_Grounds 2, w ∈ allw := by
  intro w hw
  obtain ⟨j, hj, rfl⟩ := List.mem_map.mp hw
  have hj := List.mem_range.mp hj
  match j, hj with
  | 0, _ => exact lay_Grounds_0
  | 1, _ => exact lay_Grounds_1
  | j + 2, h => exact absurd h (by omega)
theorem df_Grounds : ∀ j, j < 2 → defaultValue (tt_Grounds j) = vp_V [.null, .int 0] j := by
  intro j hj
  match j, hj with
  | 0, _ => rfl
  | 1, _ => rfl
  | j + 2, h => exact absurd h (by omega)
theorem lay_Listing_0 : u_lay "AttackBench$Listing" T_Listing 0 ∈ allw := List.mem_filter.mpr ⟨List.mem_of_getElem? (i := 111) (by decide +kernel), by decide +kernel⟩
theorem lay_Listing_1 : u_lay "AttackBench$Listing" T_Listing 1 ∈ allw := List.mem_filter.mpr ⟨List.mem_of_getElem? (i := 113) (by decide +kernel), by decide +kernel⟩
theorem lay_Listing_2 : u_lay "AttackBench$Listing" T_Listing 2 ∈ allw := List.mem_filter.mpr ⟨List.mem_of_getElem? (i := 115) (by decide +kernel), by decide +kernel⟩
theorem lay_Listing_3 : u_lay "AttackBench$Listing" T_Listing 3 ∈ allw := List.mem_filter.mpr ⟨List.mem_of_getElem? (i := 117) (by decide +kernel), by decide +kernel⟩
theorem lay_Listing : ∀ w ∈ u_ws "AttackBench$Listing" T_Listing 4, w ∈ allw := by
  intro w hw
  obtain ⟨j, hj, rfl⟩ := List.mem_map.mp hw
  have hj := List.mem_range.mp hj
  match j, hj with
  | 0, _ => exact lay_Listing_0
  | 1, _ => exact lay_Listing_1
  | 2, _ => exact lay_Listing_2
  | 3, _ => exact lay_Listing_3
  | j + 4, h => exact absurd h (by omega)
theorem df_Listing : ∀ j, j < 4 → defaultValue (tt_Listing j) = vp_V [.int 0, .int 0, .int 0, .int 0] j := by
  intro j hj
  match j, hj with
  | 0, _ => rfl
  | 1, _ => rfl
  | 2, _ => rfl
  | 3, _ => rfl
  | j + 4, h => exact absurd h (by omega)
theorem lay_Rings_0 : u_lay "AttackBench$Rings" T_Rings 0 ∈ allw := List.mem_filter.mpr ⟨List.mem_of_getElem? (i := 164) (by decide +kernel), by decide +kernel⟩
theorem lay_Rings_1 : u_lay "AttackBench$Rings" T_Rings 1 ∈ allw := List.mem_filter.mpr ⟨List.mem_of_getElem? (i := 166) (by decide +kernel), by decide +kernel⟩
theorem lay_Rings_2 : u_lay "AttackBench$Rings" T_Rings 2 ∈ allw := List.mem_filter.mpr ⟨List.mem_of_getElem? (i := 168) (by decide +kernel), by decide +kernel⟩
theorem lay_Rings : ∀ w ∈ u_ws "AttackBench$Rings" T_Rings 3, w ∈ allw := by
  intro w hw
  obtain ⟨j, hj, rfl⟩ := List.mem_map.mp hw
  have hj := List.mem_range.mp hj
  match j, hj with
  | 0, _ => exact lay_Rings_0
  | 1, _ => exact lay_Rings_1
  | 2, _ => exact lay_Rings_2
  | j + 3, h => exact absurd h (by omega)
theorem df_Rings : ∀ j, j < 3 → defaultValue (tt_Rings j) = vp_V [.null, .null, .int 0] j := by
  intro j hj
  match j, hj with
  | 0, _ => rfl
  | 1, _ => rfl
  | 2, _ => rfl
  | j + 3, h => exact absurd h (by omega)
theorem lay_Senses_0 : u_lay "AttackBench$Senses" T_Senses 0 ∈ allw := List.mem_filter.mpr ⟨List.mem_of_getElem? (i := 88) (by decide +kernel), by decide +kernel⟩
theorem lay_Senses_1 : u_lay "AttackBench$Senses" T_Senses 1 ∈ allw := List.mem_filter.mpr ⟨List.mem_of_getElem? (i := 90) (by decide +kernel), by decide +kernel⟩
theorem lay_Senses_2 : u_lay "AttackBench$Senses" T_Senses 2 ∈ allw := List.mem_filter.mpr ⟨List.mem_of_getElem? (i := 92) (by decide +kernel), by decide +kernel⟩
theorem lay_Senses_3 : u_lay "AttackBench$Senses" T_Senses 3 ∈ allw := List.mem_filter.mpr ⟨List.mem_of_getElem? (i := 94) (by decide +kernel), by decide +kernel⟩
theorem lay_Senses_4 : u_lay "AttackBench$Senses" T_Senses 4 ∈ allw := List.mem_filter.mpr ⟨List.mem_of_getElem? (i := 96) (by decide +kernel), by decide +kernel⟩
theorem lay_Senses_5 : u_lay "AttackBench$Senses" T_Senses 5 ∈ allw := List.mem_filter.mpr ⟨List.mem_of_getElem? (i := 98) (by decide +kernel), by decide +kernel⟩
theorem lay_Senses : ∀ w ∈ u_ws "AttackBench$Senses" T_Senses 6, w ∈ allw := by
  intro w hw
  obtain ⟨j, hj, rfl⟩ := List.mem_map.mp hw
  have hj := List.mem_range.mp hj
  match j, hj with
  | 0, _ => exact lay_Senses_0
  | 1, _ => exact lay_Senses_1
  | 2, _ => exact lay_Senses_2
  | 3, _ => exact lay_Senses_3
  | 4, _ => exact lay_Senses_4
  | 5, _ => exact lay_Senses_5
  | j + 6, h => exact absurd h (by omega)
theorem df_Senses : ∀ j, j < 6 → defaultValue (tt_Senses j) = vp_V [.null, .null, .null, .int 0, .int 0, .int 0] j := by
  intro j hj
  match j, hj with
  | 0, _ => rfl
  | 1, _ => rfl
  | 2, _ => rfl
  | 3, _ => rfl
  | 4, _ => rfl
  | 5, _ => rfl
  | j + 6, h => exact absurd h (by omega)
theorem lay_Talk_0 : u_lay "AttackBench$Talk" T_Talk 0 ∈ allw := List.mem_filter.mpr ⟨List.mem_of_getElem? (i := 144) (by decide +kernel), by decide +kernel⟩
theorem lay_Talk_1 : u_lay "AttackBench$Talk" T_Talk 1 ∈ allw := List.mem_filter.mpr ⟨List.mem_of_getElem? (i := 146) (by decide +kernel), by decide +kernel⟩
theorem lay_Talk_2 : u_lay "AttackBench$Talk" T_Talk 2 ∈ allw := List.mem_filter.mpr ⟨List.mem_of_getElem? (i := 148) (by decide +kernel), by decide +kernel⟩
theorem lay_Talk_3 : u_lay "AttackBench$Talk" T_Talk 3 ∈ allw := List.mem_filter.mpr ⟨List.mem_of_getElem? (i := 150) (by decide +kernel), by decide +kernel⟩
theorem lay_Talk_4 : u_lay "AttackBench$Talk" T_Talk 4 ∈ allw := List.mem_filter.mpr ⟨List.mem_of_getElem? (i := 152) (by decide +kernel), by decide +kernel⟩
theorem lay_Talk : ∀ w ∈ u_ws "AttackBench$Talk" T_Talk 5, w ∈ allw := by
  intro w hw
  obtain ⟨j, hj, rfl⟩ := List.mem_map.mp hw
  have hj := List.mem_range.mp hj
  match j, hj with
  | 0, _ => exact lay_Talk_0
  | 1, _ => exact lay_Talk_1
  | 2, _ => exact lay_Talk_2
  | 3, _ => exact lay_Talk_3
  | 4, _ => exact lay_Talk_4
  | j + 5, h => exact absurd h (by omega)
theorem df_Talk : ∀ j, j < 5 → defaultValue (tt_Talk j) = vp_V [.null, .null, .null, .int 0, .int 0] j := by
  intro j hj
  match j, hj with
  | 0, _ => rfl
  | 1, _ => rfl
  | 2, _ => rfl
  | 3, _ => rfl
  | 4, _ => rfl
  | j + 5, h => exact absurd h (by omega)
theorem lay_Web_0 : u_lay "AttackBench$Web" T_Web 0 ∈ allw := List.mem_filter.mpr ⟨List.mem_of_getElem? (i := 68) (by decide +kernel), by decide +kernel⟩
theorem lay_Web_1 : u_lay "AttackBench$Web" T_Web 1 ∈ allw := List.mem_filter.mpr ⟨List.mem_of_getElem? (i := 70) (by decide +kernel), by decide +kernel⟩
theorem lay_Web_2 : u_lay "AttackBench$Web" T_Web 2 ∈ allw := List.mem_filter.mpr ⟨List.mem_of_getElem? (i := 72) (by decide +kernel), by decide +kernel⟩
theorem lay_Web : ∀ w ∈ u_ws "AttackBench$Web" T_Web 3, w ∈ allw := by
  intro w hw
  obtain ⟨j, hj, rfl⟩ := List.mem_map.mp hw
  have hj := List.mem_range.mp hj
  match j, hj with
  | 0, _ => exact lay_Web_0
  | 1, _ => exact lay_Web_1
  | 2, _ => exact lay_Web_2
  | j + 3, h => exact absurd h (by omega)
theorem df_Web : ∀ j, j < 3 → defaultValue (tt_Web j) = vp_V [.null, .null, .int 0] j := by
  intro j hj
  match j, hj with
  | 0, _ => rfl
  | 1, _ => rfl
  | 2, _ => rfl
  | j + 3, h => exact absurd h (by omega)
theorem lay_Mo_0 : u_lay "AttackBenchModel" T_Mo 0 ∈ allw := List.mem_filter.mpr ⟨List.mem_of_getElem? (i := 659) (by decide +kernel), by decide +kernel⟩
theorem lay_Mo_1 : u_lay "AttackBenchModel" T_Mo 1 ∈ allw := List.mem_filter.mpr ⟨List.mem_of_getElem? (i := 661) (by decide +kernel), by decide +kernel⟩
theorem lay_Mo_2 : u_lay "AttackBenchModel" T_Mo 2 ∈ allw := List.mem_filter.mpr ⟨List.mem_of_getElem? (i := 663) (by decide +kernel), by decide +kernel⟩
theorem lay_Mo_3 : u_lay "AttackBenchModel" T_Mo 3 ∈ allw := List.mem_filter.mpr ⟨List.mem_of_getElem? (i := 665) (by decide +kernel), by decide +kernel⟩
theorem lay_Mo_4 : u_lay "AttackBenchModel" T_Mo 4 ∈ allw := List.mem_filter.mpr ⟨List.mem_of_getElem? (i := 667) (by decide +kernel), by decide +kernel⟩
theorem lay_Mo_5 : u_lay "AttackBenchModel" T_Mo 5 ∈ allw := List.mem_filter.mpr ⟨List.mem_of_getElem? (i := 669) (by decide +kernel), by decide +kernel⟩
theorem lay_Mo_6 : u_lay "AttackBenchModel" T_Mo 6 ∈ allw := List.mem_filter.mpr ⟨List.mem_of_getElem? (i := 671) (by decide +kernel), by decide +kernel⟩
theorem lay_Mo_7 : u_lay "AttackBenchModel" T_Mo 7 ∈ allw := List.mem_filter.mpr ⟨List.mem_of_getElem? (i := 673) (by decide +kernel), by decide +kernel⟩
theorem lay_Mo_8 : u_lay "AttackBenchModel" T_Mo 8 ∈ allw := List.mem_filter.mpr ⟨List.mem_of_getElem? (i := 675) (by decide +kernel), by decide +kernel⟩
theorem lay_Mo_9 : u_lay "AttackBenchModel" T_Mo 9 ∈ allw := List.mem_filter.mpr ⟨List.mem_of_getElem? (i := 677) (by decide +kernel), by decide +kernel⟩
theorem lay_Mo_10 : u_lay "AttackBenchModel" T_Mo 10 ∈ allw := List.mem_filter.mpr ⟨List.mem_of_getElem? (i := 679) (by decide +kernel), by decide +kernel⟩
theorem lay_Mo_11 : u_lay "AttackBenchModel" T_Mo 11 ∈ allw := List.mem_filter.mpr ⟨List.mem_of_getElem? (i := 681) (by decide +kernel), by decide +kernel⟩
theorem lay_Mo_12 : u_lay "AttackBenchModel" T_Mo 12 ∈ allw := List.mem_filter.mpr ⟨List.mem_of_getElem? (i := 683) (by decide +kernel), by decide +kernel⟩
theorem lay_Mo_13 : u_lay "AttackBenchModel" T_Mo 13 ∈ allw := List.mem_filter.mpr ⟨List.mem_of_getElem? (i := 685) (by decide +kernel), by decide +kernel⟩
theorem lay_Mo_14 : u_lay "AttackBenchModel" T_Mo 14 ∈ allw := List.mem_filter.mpr ⟨List.mem_of_getElem? (i := 687) (by decide +kernel), by decide +kernel⟩
theorem lay_Mo_15 : u_lay "AttackBenchModel" T_Mo 15 ∈ allw := List.mem_filter.mpr ⟨List.mem_of_getElem? (i := 689) (by decide +kernel), by decide +kernel⟩
theorem lay_Mo_16 : u_lay "AttackBenchModel" T_Mo 16 ∈ allw := List.mem_filter.mpr ⟨List.mem_of_getElem? (i := 691) (by decide +kernel), by decide +kernel⟩
theorem lay_Mo_17 : u_lay "AttackBenchModel" T_Mo 17 ∈ allw := List.mem_filter.mpr ⟨List.mem_of_getElem? (i := 693) (by decide +kernel), by decide +kernel⟩
theorem lay_Mo_18 : u_lay "AttackBenchModel" T_Mo 18 ∈ allw := List.mem_filter.mpr ⟨List.mem_of_getElem? (i := 695) (by decide +kernel), by decide +kernel⟩
theorem lay_Mo_19 : u_lay "AttackBenchModel" T_Mo 19 ∈ allw := List.mem_filter.mpr ⟨List.mem_of_getElem? (i := 697) (by decide +kernel), by decide +kernel⟩
theorem lay_Mo_20 : u_lay "AttackBenchModel" T_Mo 20 ∈ allw := List.mem_filter.mpr ⟨List.mem_of_getElem? (i := 699) (by decide +kernel), by decide +kernel⟩
theorem lay_Mo_21 : u_lay "AttackBenchModel" T_Mo 21 ∈ allw := List.mem_filter.mpr ⟨List.mem_of_getElem? (i := 701) (by decide +kernel), by decide +kernel⟩
theorem lay_Mo_22 : u_lay "AttackBenchModel" T_Mo 22 ∈ allw := List.mem_filter.mpr ⟨List.mem_of_getElem? (i := 703) (by decide +kernel), by decide +kernel⟩
theorem lay_Mo_23 : u_lay "AttackBenchModel" T_Mo 23 ∈ allw := List.mem_filter.mpr ⟨List.mem_of_getElem? (i := 705) (by decide +kernel), by decide +kernel⟩
theorem lay_Mo_24 : u_lay "AttackBenchModel" T_Mo 24 ∈ allw := List.mem_filter.mpr ⟨List.mem_of_getElem? (i := 707) (by decide +kernel), by decide +kernel⟩
theorem lay_Mo : ∀ w ∈ u_ws "AttackBenchModel" T_Mo 25, w ∈ allw := by
  intro w hw
  obtain ⟨j, hj, rfl⟩ := List.mem_map.mp hw
  have hj := List.mem_range.mp hj
  match j, hj with
  | 0, _ => exact lay_Mo_0
  | 1, _ => exact lay_Mo_1
  | 2, _ => exact lay_Mo_2
  | 3, _ => exact lay_Mo_3
  | 4, _ => exact lay_Mo_4
  | 5, _ => exact lay_Mo_5
  | 6, _ => exact lay_Mo_6
  | 7, _ => exact lay_Mo_7
  | 8, _ => exact lay_Mo_8
  | 9, _ => exact lay_Mo_9
  | 10, _ => exact lay_Mo_10
  | 11, _ => exact lay_Mo_11
  | 12, _ => exact lay_Mo_12
  | 13, _ => exact lay_Mo_13
  | 14, _ => exact lay_Mo_14
  | 15, _ => exact lay_Mo_15
  | 16, _ => exact lay_Mo_16
  | 17, _ => exact lay_Mo_17
  | 18, _ => exact lay_Mo_18
  | 19, _ => exact lay_Mo_19
  | 20, _ => exact lay_Mo_20
  | 21, _ => exact lay_Mo_21
  | 22, _ => exact lay_Mo_22
  | 23, _ => exact lay_Mo_23
  | 24, _ => exact lay_Mo_24
  | j + 25, h => exact absurd h (by omega)
theorem df_Mo : ∀ j, j < 25 → defaultValue (tt_Mo j) = vp_V [.int 0, .int 0, .null, .null, .null, .null, .null, .null, .int 0, .int 0, .int 0, .int 0, .int 0, .null, .int 0, .int 0, .null, .null, .null, .null, .null, .null, .int 0, .null, .null] j := by
  intro j hj
  match j, hj with
  | 0, _ => rfl
  | 1, _ => rfl
  | 2, _ => rfl
  | 3, _ => rfl
  | 4, _ => rfl
  | 5, _ => rfl
  | 6, _ => rfl
  | 7, _ => rfl
  | 8, _ => rfl
  | 9, _ => rfl
  | 10, _ => rfl
  | 11, _ => rfl
  | 12, _ => rfl
  | 13, _ => rfl
  | 14, _ => rfl
  | 15, _ => rfl
  | 16, _ => rfl
  | 17, _ => rfl
  | 18, _ => rfl
  | 19, _ => rfl
  | 20, _ => rfl
  | 21, _ => rfl
  | 22, _ => rfl
  | 23, _ => rfl
  | 24, _ => rfl
  | j + 25, h => exact absurd h (by omega)
