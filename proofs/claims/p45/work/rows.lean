section
-- ===== PART A: goes FIRST, ahead of the names: the tables' words, and 'selects' of the private methods out of them =====
/-- a private method of a class that the tables say can be made, by its rows of tables_1 -/
def lw_okq (q : MethodName × Nat) : Prop := (q.1.cls ≠ "java/lang/invoke/MethodHandle" ∧ q.1.cls ≠ "java/lang/invoke/VarHandle") ∧ Cond.instantiable q.1.cls q.2 ∈ tables_1 ∧ Cond.privateMethod q.1 ∈ tables_1 ∧ Cond.instanceMethod q.1 ∈ tables_1
theorem lw_p0 : lw_okq (⟨"RolledPicks", "finding", "(I)I"⟩, 9) := ⟨⟨by decide +kernel, by decide +kernel⟩, List.mem_of_getElem? (i := 22) (by decide +kernel), List.mem_of_getElem? (i := 185) (by decide +kernel), List.mem_of_getElem? (i := 186) (by decide +kernel)⟩
theorem lw_p1 : lw_okq (⟨"RolledPicks", "countConveying", "(LRolledPicks$Deal;)I"⟩, 9) := ⟨⟨by decide +kernel, by decide +kernel⟩, List.mem_of_getElem? (i := 22) (by decide +kernel), List.mem_of_getElem? (i := 199) (by decide +kernel), List.mem_of_getElem? (i := 200) (by decide +kernel)⟩
theorem lw_p2 : lw_okq (⟨"RolledPicks$Deal", "mayGive", "(I)Z"⟩, 7) := ⟨⟨by decide +kernel, by decide +kernel⟩, List.mem_of_getElem? (i := 270) (by decide +kernel), List.mem_of_getElem? (i := 268) (by decide +kernel), List.mem_of_getElem? (i := 269) (by decide +kernel)⟩
theorem lw_p3 : lw_okq (⟨"RolledPicks", "everOwners", "(I)I"⟩, 9) := ⟨⟨by decide +kernel, by decide +kernel⟩, List.mem_of_getElem? (i := 22) (by decide +kernel), List.mem_of_getElem? (i := 281) (by decide +kernel), List.mem_of_getElem? (i := 282) (by decide +kernel)⟩
theorem lw_p4 : lw_okq (⟨"RolledPicks", "worthUnder", "(II)I"⟩, 9) := ⟨⟨by decide +kernel, by decide +kernel⟩, List.mem_of_getElem? (i := 22) (by decide +kernel), List.mem_of_getElem? (i := 301) (by decide +kernel), List.mem_of_getElem? (i := 302) (by decide +kernel)⟩
theorem lw_p5 : lw_okq (⟨"RolledPicks", "longFinding", "(I)J"⟩, 9) := ⟨⟨by decide +kernel, by decide +kernel⟩, List.mem_of_getElem? (i := 22) (by decide +kernel), List.mem_of_getElem? (i := 310) (by decide +kernel), List.mem_of_getElem? (i := 311) (by decide +kernel)⟩
theorem lw_p6 : lw_okq (⟨"RolledPicks", "worthOver", "(III)J"⟩, 9) := ⟨⟨by decide +kernel, by decide +kernel⟩, List.mem_of_getElem? (i := 22) (by decide +kernel), List.mem_of_getElem? (i := 315) (by decide +kernel), List.mem_of_getElem? (i := 316) (by decide +kernel)⟩
theorem lw_p7 : lw_okq (⟨"RolledPicks", "tellsEachDeal", "(LRolledPicks$Sheet;)Z"⟩, 9) := ⟨⟨by decide +kernel, by decide +kernel⟩, List.mem_of_getElem? (i := 22) (by decide +kernel), List.mem_of_getElem? (i := 336) (by decide +kernel), List.mem_of_getElem? (i := 337) (by decide +kernel)⟩
theorem lw_p8 : lw_okq (⟨"RolledPicks", "countRounds", "(LRolledPicks$Sheet;I)I"⟩, 9) := ⟨⟨by decide +kernel, by decide +kernel⟩, List.mem_of_getElem? (i := 22) (by decide +kernel), List.mem_of_getElem? (i := 340) (by decide +kernel), List.mem_of_getElem? (i := 341) (by decide +kernel)⟩
theorem lw_p9 : lw_okq (⟨"RolledPicks", "goesOver", "(LRolledPicks$Sheet;LRolledPicks$Rounds;)Z"⟩, 9) := ⟨⟨by decide +kernel, by decide +kernel⟩, List.mem_of_getElem? (i := 22) (by decide +kernel), List.mem_of_getElem? (i := 363) (by decide +kernel), List.mem_of_getElem? (i := 364) (by decide +kernel)⟩
theorem lw_p10 : lw_okq (⟨"RolledPicks", "settleAll", "()V"⟩, 9) := ⟨⟨by decide +kernel, by decide +kernel⟩, List.mem_of_getElem? (i := 22) (by decide +kernel), List.mem_of_getElem? (i := 415) (by decide +kernel), List.mem_of_getElem? (i := 416) (by decide +kernel)⟩
theorem lw_p11 : lw_okq (⟨"RolledPicks$Owners", "give", "(III)V"⟩, 1) := ⟨⟨by decide +kernel, by decide +kernel⟩, List.mem_of_getElem? (i := 65) (by decide +kernel), List.mem_of_getElem? (i := 424) (by decide +kernel), List.mem_of_getElem? (i := 425) (by decide +kernel)⟩
theorem lw_p12 : lw_okq (⟨"RolledPicks", "countHeld", "()I"⟩, 9) := ⟨⟨by decide +kernel, by decide +kernel⟩, List.mem_of_getElem? (i := 22) (by decide +kernel), List.mem_of_getElem? (i := 433) (by decide +kernel), List.mem_of_getElem? (i := 434) (by decide +kernel)⟩
theorem lw_p13 : lw_okq (⟨"java/util/ArrayList", "add", "(Ljava/lang/Object;[Ljava/lang/Object;I)V"⟩, 3) := ⟨⟨by decide +kernel, by decide +kernel⟩, List.mem_of_getElem? (i := 443) (by decide +kernel), List.mem_of_getElem? (i := 562) (by decide +kernel), List.mem_of_getElem? (i := 563) (by decide +kernel)⟩
theorem lw_p14 : lw_okq (⟨"java/util/ArrayList", "grow", "()[Ljava/lang/Object;"⟩, 3) := ⟨⟨by decide +kernel, by decide +kernel⟩, List.mem_of_getElem? (i := 443) (by decide +kernel), List.mem_of_getElem? (i := 566) (by decide +kernel), List.mem_of_getElem? (i := 567) (by decide +kernel)⟩
theorem lw_p15 : lw_okq (⟨"java/util/ArrayList", "grow", "(I)[Ljava/lang/Object;"⟩, 3) := ⟨⟨by decide +kernel, by decide +kernel⟩, List.mem_of_getElem? (i := 443) (by decide +kernel), List.mem_of_getElem? (i := 570) (by decide +kernel), List.mem_of_getElem? (i := 571) (by decide +kernel)⟩
def lw_privs_1 : List (MethodName × Nat) := [(⟨"RolledPicks", "finding", "(I)I"⟩, 9), (⟨"RolledPicks", "countConveying", "(LRolledPicks$Deal;)I"⟩, 9), (⟨"RolledPicks$Deal", "mayGive", "(I)Z"⟩, 7), (⟨"RolledPicks", "everOwners", "(I)I"⟩, 9), (⟨"RolledPicks", "worthUnder", "(II)I"⟩, 9), (⟨"RolledPicks", "longFinding", "(I)J"⟩, 9), (⟨"RolledPicks", "worthOver", "(III)J"⟩, 9), (⟨"RolledPicks", "tellsEachDeal", "(LRolledPicks$Sheet;)Z"⟩, 9), (⟨"RolledPicks", "countRounds", "(LRolledPicks$Sheet;I)I"⟩, 9), (⟨"RolledPicks", "goesOver", "(LRolledPicks$Sheet;LRolledPicks$Rounds;)Z"⟩, 9), (⟨"RolledPicks", "settleAll", "()V"⟩, 9), (⟨"RolledPicks$Owners", "give", "(III)V"⟩, 1), (⟨"RolledPicks", "countHeld", "()I"⟩, 9), (⟨"java/util/ArrayList", "add", "(Ljava/lang/Object;[Ljava/lang/Object;I)V"⟩, 3), (⟨"java/util/ArrayList", "grow", "()[Ljava/lang/Object;"⟩, 3), (⟨"java/util/ArrayList", "grow", "(I)[Ljava/lang/Object;"⟩, 3)]
theorem lw_r1 : ∀ q ∈ lw_privs_1, lw_okq q := List.forall_mem_cons.mpr ⟨lw_p0, List.forall_mem_cons.mpr ⟨lw_p1, List.forall_mem_cons.mpr ⟨lw_p2, List.forall_mem_cons.mpr ⟨lw_p3, List.forall_mem_cons.mpr ⟨lw_p4, List.forall_mem_cons.mpr ⟨lw_p5, List.forall_mem_cons.mpr ⟨lw_p6, List.forall_mem_cons.mpr ⟨lw_p7, List.forall_mem_cons.mpr ⟨lw_p8, List.forall_mem_cons.mpr ⟨lw_p9, List.forall_mem_cons.mpr ⟨lw_p10, List.forall_mem_cons.mpr ⟨lw_p11, List.forall_mem_cons.mpr ⟨lw_p12, List.forall_mem_cons.mpr ⟨lw_p13, List.forall_mem_cons.mpr ⟨lw_p14, List.forall_mem_cons.mpr ⟨lw_p15, fun _ h => absurd h List.not_mem_nil⟩⟩⟩⟩⟩⟩⟩⟩⟩⟩⟩⟩⟩⟩⟩⟩
theorem lw_p16 : lw_okq (⟨"RolledPicks", "enter", "(LRolledPicks$Deal;)I"⟩, 9) := ⟨⟨by decide +kernel, by decide +kernel⟩, List.mem_of_getElem? (i := 22) (by decide +kernel), List.mem_of_getElem? (i := 698) (by decide +kernel), List.mem_of_getElem? (i := 699) (by decide +kernel)⟩
theorem lw_p17 : lw_okq (⟨"RolledPicks", "takes", "(LRolledPicks$Deal;)Z"⟩, 9) := ⟨⟨by decide +kernel, by decide +kernel⟩, List.mem_of_getElem? (i := 22) (by decide +kernel), List.mem_of_getElem? (i := 702) (by decide +kernel), List.mem_of_getElem? (i := 703) (by decide +kernel)⟩
theorem lw_p18 : lw_okq (⟨"RolledPicks", "clashesUnder", "(ILRolledPicks$Deal;)Z"⟩, 9) := ⟨⟨by decide +kernel, by decide +kernel⟩, List.mem_of_getElem? (i := 22) (by decide +kernel), List.mem_of_getElem? (i := 706) (by decide +kernel), List.mem_of_getElem? (i := 707) (by decide +kernel)⟩
def lw_privs_2 : List (MethodName × Nat) := [(⟨"RolledPicks", "enter", "(LRolledPicks$Deal;)I"⟩, 9), (⟨"RolledPicks", "takes", "(LRolledPicks$Deal;)Z"⟩, 9), (⟨"RolledPicks", "clashesUnder", "(ILRolledPicks$Deal;)Z"⟩, 9)]
theorem lw_r2 : ∀ q ∈ lw_privs_2, lw_okq q := List.forall_mem_cons.mpr ⟨lw_p16, List.forall_mem_cons.mpr ⟨lw_p17, List.forall_mem_cons.mpr ⟨lw_p18, fun _ h => absurd h List.not_mem_nil⟩⟩⟩
def lw_privs : List (MethodName × Nat) := lw_privs_1 ++ (lw_privs_2)
def lw_tbl : List Cond := k2_sels lw_privs ++ tables_1
theorem lw_privs_ok : ∀ q ∈ lw_privs, lw_okq q := by
  show ∀ q ∈ lw_privs_1 ++ (lw_privs_2), lw_okq q
  exact List.forall_mem_append.mpr ⟨lw_r1, lw_r2⟩
end
section
-- names: classes, fields in the order of the slots, methods
def RX0 : String := "RolledPicks$Book"
def TX0 : u_T := fun k => match k with
  | 0 => ("RolledPicks$Book", "deals", "[LRolledPicks$Deal;", true)
  | 1 => ("RolledPicks$Book", "dealCount", "I", false)
  | 2 => ("RolledPicks$Book", "orders", "[I", true)
  | 3 => ("RolledPicks$Book", "fallenYears", "I", false)
  | 4 => ("RolledPicks$Book", "worths", "[I", true)
  | _ => ("RolledPicks$Book", "z", "I", false)
def tyX0 : Nat → FieldType := fun k => match k with
  | 0 => .array (.object "RolledPicks$Deal")
  | 1 => .int
  | 2 => .array .int
  | 3 => .int
  | 4 => .array .int
  | _ => .int
theorem nmX0 : ∀ a, a < 6 → ∀ b, b < 6 → a ≠ b → (TX0 a).2.1 ≠ (TX0 b).2.1 := by decide +kernel
theorem tyX0_ok : ∀ k, k < 6 → parseFieldDescriptor (TX0 k).2.2.1 = some (tyX0 k) := by decide +kernel
def RX1 : String := "RolledPicks$Deal"
def TX1 : u_T := fun k => match k with
  | 0 => ("RolledPicks$Deal", "kind", "I", true)
  | 1 => ("RolledPicks$Deal", "from", "I", true)
  | 2 => ("RolledPicks$Deal", "to", "I", true)
  | 3 => ("RolledPicks$Deal", "pick", "I", true)
  | 4 => ("RolledPicks$Deal", "other", "I", true)
  | 5 => ("RolledPicks$Deal", "n", "I", true)
  | _ => ("RolledPicks$Deal", "condition", "LRolledPicks$Standings;", true)
def tyX1 : Nat → FieldType := fun k => match k with
  | 0 => .int
  | 1 => .int
  | 2 => .int
  | 3 => .int
  | 4 => .int
  | 5 => .int
  | _ => .object "RolledPicks$Standings"
theorem nmX1 : ∀ a, a < 7 → ∀ b, b < 7 → a ≠ b → (TX1 a).2.1 ≠ (TX1 b).2.1 := by decide +kernel
theorem tyX1_ok : ∀ k, k < 7 → parseFieldDescriptor (TX1 k).2.2.1 = some (tyX1 k) := by decide +kernel
def RX2 : String := "RolledPicks$Owners"
def TX2 : u_T := fun k => match k with
  | _ => ("RolledPicks$Owners", "rows", "[I", true)
def tyX2 : Nat → FieldType := fun k => match k with
  | _ => .array .int
theorem nmX2 : ∀ a, a < 1 → ∀ b, b < 1 → a ≠ b → (TX2 a).2.1 ≠ (TX2 b).2.1 := by decide +kernel
theorem tyX2_ok : ∀ k, k < 1 → parseFieldDescriptor (TX2 k).2.2.1 = some (tyX2 k) := by decide +kernel
def RX3 : String := "RolledPicks$Reader"
def TX3 : u_T := fun k => match k with
  | 0 => ("RolledPicks$Reader", "tape", "LRolledPicks$Tape;", true)
  | 1 => ("RolledPicks$Reader", "came", "[LRolledPicks$Deal;", true)
  | 2 => ("RolledPicks$Reader", "cameCount", "I", false)
  | _ => ("RolledPicks$Reader", "spare", "[LRolledPicks$Standings;", true)
def tyX3 : Nat → FieldType := fun k => match k with
  | 0 => .object "RolledPicks$Tape"
  | 1 => .array (.object "RolledPicks$Deal")
  | 2 => .int
  | _ => .array (.object "RolledPicks$Standings")
theorem nmX3 : ∀ a, a < 4 → ∀ b, b < 4 → a ≠ b → (TX3 a).2.1 ≠ (TX3 b).2.1 := by decide +kernel
theorem tyX3_ok : ∀ k, k < 4 → parseFieldDescriptor (TX3 k).2.2.1 = some (tyX3 k) := by decide +kernel
def RX4 : String := "RolledPicks$Rounds"
def TX4 : u_T := fun k => match k with
  | 0 => ("RolledPicks$Rounds", "standing", "I", true)
  | 1 => ("RolledPicks$Rounds", "has", "[I", true)
  | 2 => ("RolledPicks$Rounds", "givenBy", "I", false)
  | _ => ("RolledPicks$Rounds", "gotBackBy", "I", false)
def tyX4 : Nat → FieldType := fun k => match k with
  | 0 => .int
  | 1 => .array .int
  | 2 => .int
  | _ => .int
theorem nmX4 : ∀ a, a < 4 → ∀ b, b < 4 → a ≠ b → (TX4 a).2.1 ≠ (TX4 b).2.1 := by decide +kernel
theorem tyX4_ok : ∀ k, k < 4 → parseFieldDescriptor (TX4 k).2.2.1 = some (tyX4 k) := by decide +kernel
def RX5 : String := "RolledPicks$Sheet"
def TX5 : u_T := fun k => match k with
  | 0 => ("RolledPicks$Sheet", "numbers", "[J", true)
  | 1 => ("RolledPicks$Sheet", "sort", "I", false)
  | _ => ("RolledPicks$Sheet", "length", "I", false)
def tyX5 : Nat → FieldType := fun k => match k with
  | 0 => .array .long
  | 1 => .int
  | _ => .int
theorem nmX5 : ∀ a, a < 3 → ∀ b, b < 3 → a ≠ b → (TX5 a).2.1 ≠ (TX5 b).2.1 := by decide +kernel
theorem tyX5_ok : ∀ k, k < 3 → parseFieldDescriptor (TX5 k).2.2.1 = some (tyX5 k) := by decide +kernel
def RX6 : String := "RolledPicks$Standings"
def TX6 : u_T := fun k => match k with
  | _ => ("RolledPicks$Standings", "words", "[J", true)
def tyX6 : Nat → FieldType := fun k => match k with
  | _ => .array .long
theorem nmX6 : ∀ a, a < 1 → ∀ b, b < 1 → a ≠ b → (TX6 a).2.1 ≠ (TX6 b).2.1 := by decide +kernel
theorem tyX6_ok : ∀ k, k < 1 → parseFieldDescriptor (TX6 k).2.2.1 = some (tyX6 k) := by decide +kernel
def RX7 : String := "RolledPicks$Tape"
def TX7 : u_T := fun k => match k with
  | 0 => ("RolledPicks$Tape", "bytes", "[B", true)
  | 1 => ("RolledPicks$Tape", "length", "I", false)
  | 2 => ("RolledPicks$Tape", "tokenAt", "I", false)
  | _ => ("RolledPicks$Tape", "tokenEnd", "I", false)
def tyX7 : Nat → FieldType := fun k => match k with
  | 0 => .array .byte
  | 1 => .int
  | 2 => .int
  | _ => .int
theorem nmX7 : ∀ a, a < 4 → ∀ b, b < 4 → a ≠ b → (TX7 a).2.1 ≠ (TX7 b).2.1 := by decide +kernel
theorem tyX7_ok : ∀ k, k < 4 → parseFieldDescriptor (TX7 k).2.2.1 = some (tyX7 k) := by decide +kernel
def RX8 : String := "RolledPicks"
def TX8 : u_T := fun k => match k with
  | 0 => ("RolledPicks", "book", "LRolledPicks$Book;", true)
  | 1 => ("RolledPicks", "pile", "[LRolledPicks$Book;", true)
  | 2 => ("RolledPicks", "images", "I", false)
  | 3 => ("RolledPicks", "owners", "LRolledPicks$Owners;", true)
  | 4 => ("RolledPicks", "reader", "LRolledPicks$Reader;", true)
  | 5 => ("RolledPicks", "sheets", "[LRolledPicks$Sheet;", true)
  | 6 => ("RolledPicks", "spots", "[LRolledPicks$Deal;", true)
  | 7 => ("RolledPicks", "told", "[I", true)
  | _ => ("RolledPicks", "findings", "[I", true)
def tyX8 : Nat → FieldType := fun k => match k with
  | 0 => .object "RolledPicks$Book"
  | 1 => .array (.object "RolledPicks$Book")
  | 2 => .int
  | 3 => .object "RolledPicks$Owners"
  | 4 => .object "RolledPicks$Reader"
  | 5 => .array (.object "RolledPicks$Sheet")
  | 6 => .array (.object "RolledPicks$Deal")
  | 7 => .array .int
  | _ => .array .int
theorem nmX8 : ∀ a, a < 9 → ∀ b, b < 9 → a ≠ b → (TX8 a).2.1 ≠ (TX8 b).2.1 := by decide +kernel
theorem tyX8_ok : ∀ k, k < 9 → parseFieldDescriptor (TX8 k).2.2.1 = some (tyX8 k) := by decide +kernel
def RX9 : String := "RolledPicksLaw$Book"
def TX9 : u_T := fun k => match k with
  | 0 => ("RolledPicksLaw$Book", "ever", "Ljava/util/ArrayList;", true)
  | 1 => ("RolledPicksLaw$Book", "when", "Ljava/util/ArrayList;", true)
  | 2 => ("RolledPicksLaw$Book", "there", "[I", true)
  | 3 => ("RolledPicksLaw$Book", "many", "I", false)
  | 4 => ("RolledPicksLaw$Book", "fallen", "I", false)
  | 5 => ("RolledPicksLaw$Book", "orders", "[I", true)
  | 6 => ("RolledPicksLaw$Book", "link", "[I", true)
  | 7 => ("RolledPicksLaw$Book", "to", "[I", true)
  | 8 => ("RolledPicksLaw$Book", "clashS", "I", false)
  | 9 => ("RolledPicksLaw$Book", "clashP", "I", false)
  | _ => ("RolledPicksLaw$Book", "clashHow", "I", false)
def tyX9 : Nat → FieldType := fun k => match k with
  | 0 => .object "java/util/ArrayList"
  | 1 => .object "java/util/ArrayList"
  | 2 => .array .int
  | 3 => .int
  | 4 => .int
  | 5 => .array .int
  | 6 => .array .int
  | 7 => .array .int
  | 8 => .int
  | 9 => .int
  | _ => .int
theorem nmX9 : ∀ a, a < 11 → ∀ b, b < 11 → a ≠ b → (TX9 a).2.1 ≠ (TX9 b).2.1 := by decide +kernel
theorem tyX9_ok : ∀ k, k < 11 → parseFieldDescriptor (TX9 k).2.2.1 = some (tyX9 k) := by decide +kernel
def RJx4a65c : String := "java/util/ArrayList"
def TJx4a65c : u_T := fun k => match k with
  | 0 => ("java/util/AbstractList", "modCount", "I", false)
  | 1 => ("java/util/ArrayList", "elementData", "[Ljava/lang/Object;", false)
  | _ => ("java/util/ArrayList", "size", "I", false)
def tyJx4a65c : Nat → FieldType := fun k => match k with
  | 0 => .int
  | 1 => .array (.object "java/lang/Object")
  | _ => .int
theorem nmJx4a65c : ∀ a, a < 3 → ∀ b, b < 3 → a ≠ b → (TJx4a65c a).2.1 ≠ (TJx4a65c b).2.1 := by decide +kernel
theorem tyJx4a65c_ok : ∀ k, k < 3 → parseFieldDescriptor (TJx4a65c k).2.2.1 = some (tyJx4a65c k) := by decide +kernel
def RJx145de : String := "java/io/Serializable"
def RJx8e188 : String := "java/lang/Cloneable"
def RJ6 : String := "java/lang/Integer"
def RJxab1ab : String := "java/lang/Iterable"
def RJ9 : String := "java/lang/Math"
def RJ10 : String := "java/lang/System"
def RJxa1e45 : String := "java/util/AbstractCollection"
def RJxc12de : String := "java/util/AbstractList"
def RJ7 : String := "java/util/Arrays"
def RJx5ef63 : String := "java/util/Collection"
def RJxbd725 : String := "java/util/List"
def RJ15 : String := "java/util/Objects"
def RJxf0a74 : String := "java/util/RandomAccess"
def RJxa66e6 : String := "java/util/SequencedCollection"
def RJ8 : String := "jdk/internal/util/ArraysSupport"
def RJ3 : String := "jdk/internal/util/Preconditions"
def RL : String := "RolledPicksLaw"
abbrev vwCl : List vw_C := [(RX0, TX0, 6), (RX1, TX1, 7), (RX2, TX2, 1), (RX3, TX3, 4), (RX4, TX4, 4), (RX5, TX5, 3), (RX6, TX6, 1), (RX7, TX7, 4), (RX8, TX8, 9), (RX9, TX9, 11), (RJx4a65c, TJx4a65c, 3)]
/-- a method: its name, its bytes, how many locals, what it answers -/
abbrev MD : Type := MethodName × ByteArray × Nat × Option FieldType
abbrev cX0_init : ByteArray := prog_2_method_1_code
def yX0_init : MethodName := ⟨RX0, "<init>", "()V"⟩
def mX0_init : MD := (yX0_init, cX0_init, 1, none)
abbrev cX0_become : ByteArray := prog_2_method_2_code
def yX0_become : MethodName := ⟨RX0, "become", "(LRolledPicks$Book;)V"⟩
def mX0_become : MD := (yX0_become, cX0_become, 3, none)
abbrev cX0_firstOpen : ByteArray := prog_2_method_3_code
def yX0_firstOpen : MethodName := ⟨RX0, "firstOpen", "()I"⟩
def mX0_firstOpen : MD := (yX0_firstOpen, cX0_firstOpen, 3, some .int)
abbrev cX0_openCount : ByteArray := prog_2_method_4_code
def yX0_openCount : MethodName := ⟨RX0, "openCount", "()I"⟩
def mX0_openCount : MD := (yX0_openCount, cX0_openCount, 1, some .int)
abbrev cX0_endOpen : ByteArray := prog_2_method_5_code
def yX0_endOpen : MethodName := ⟨RX0, "endOpen", "()I"⟩
def mX0_endOpen : MD := (yX0_endOpen, cX0_endOpen, 1, some .int)
abbrev cX0_isOpen : ByteArray := prog_2_method_6_code
def yX0_isOpen : MethodName := ⟨RX0, "isOpen", "(I)Z"⟩
def mX0_isOpen : MD := (yX0_isOpen, cX0_isOpen, 2, some .boolean)
abbrev cX0_dealAt : ByteArray := prog_2_method_7_code
def yX0_dealAt : MethodName := ⟨RX0, "dealAt", "(I)LRolledPicks$Deal;"⟩
def mX0_dealAt : MD := (yX0_dealAt, cX0_dealAt, 2, some (.object "RolledPicks$Deal"))
abbrev cX0_clashOf : ByteArray := prog_2_method_9_code
def yX0_clashOf : MethodName := ⟨RX0, "clashOf", "(IIII)I"⟩
def mX0_clashOf : MD := (yX0_clashOf, cX0_clashOf, 10, some .int)
abbrev cX1_init : ByteArray := prog_3_method_1_code
def yX1_init : MethodName := ⟨RX1, "<init>", "(IIIIIILRolledPicks$Standings;)V"⟩
def mX1_init : MD := (yX1_init, cX1_init, 8, none)
abbrev cX1_gives : ByteArray := prog_3_method_3_code
def yX1_gives : MethodName := ⟨RX1, "gives", "(I)I"⟩
def mX1_gives : MD := (yX1_gives, cX1_gives, 5, some .int)
abbrev cX1_getsBack : ByteArray := prog_3_method_4_code
def yX1_getsBack : MethodName := ⟨RX1, "getsBack", "(I)I"⟩
def mX1_getsBack : MD := (yX1_getsBack, cX1_getsBack, 2, some .int)
abbrev cX1_takerOf : ByteArray := prog_3_method_5_code
def yX1_takerOf : MethodName := ⟨RX1, "takerOf", "(II)I"⟩
def mX1_takerOf : MD := (yX1_takerOf, cX1_takerOf, 3, some .int)
abbrev cX1_mayGive : ByteArray := prog_3_method_6_code
def yX1_mayGive : MethodName := ⟨RX1, "mayGive", "(I)Z"⟩
def mX1_mayGive : MD := (yX1_mayGive, cX1_mayGive, 2, some .boolean)
abbrev cX2_init : ByteArray := prog_4_method_1_code
def yX2_init : MethodName := ⟨RX2, "<init>", "()V"⟩
def mX2_init : MD := (yX2_init, cX2_init, 1, none)
abbrev cX2_at : ByteArray := prog_4_method_2_code
def yX2_at : MethodName := ⟨RX2, "at", "(II)I"⟩
def mX2_at : MD := (yX2_at, cX2_at, 3, some .int)
abbrev cX2_startAll : ByteArray := prog_4_method_3_code
def yX2_startAll : MethodName := ⟨RX2, "startAll", "(II)V"⟩
def mX2_startAll : MD := (yX2_startAll, cX2_startAll, 4, none)
abbrev cX2_settle : ByteArray := prog_4_method_4_code
def yX2_settle : MethodName := ⟨RX2, "settle", "(LRolledPicks$Deal;II)V"⟩
def mX2_settle : MD := (yX2_settle, cX2_settle, 6, none)
abbrev cX2_give : ByteArray := prog_4_method_5_code
def yX2_give : MethodName := ⟨RX2, "give", "(III)V"⟩
def mX2_give : MD := (yX2_give, cX2_give, 4, none)
abbrev cX3_init : ByteArray := prog_5_method_1_code
def yX3_init : MethodName := ⟨RX3, "<init>", "()V"⟩
def mX3_init : MD := (yX3_init, cX3_init, 2, none)
abbrev cX4_init : ByteArray := prog_6_method_1_code
def yX4_init : MethodName := ⟨RX4, "<init>", "(I)V"⟩
def mX4_init : MD := (yX4_init, cX4_init, 3, none)
abbrev cX4_move : ByteArray := prog_6_method_2_code
def yX4_move : MethodName := ⟨RX4, "move", "(LRolledPicks$Deal;I)Z"⟩
def mX4_move : MD := (yX4_move, cX4_move, 6, some .boolean)
abbrev cX5_init : ByteArray := prog_7_method_1_code
def yX5_init : MethodName := ⟨RX5, "<init>", "()V"⟩
def mX5_init : MD := (yX5_init, cX5_init, 1, none)
abbrev cX5_isMissing : ByteArray := prog_7_method_2_code
def yX5_isMissing : MethodName := ⟨RX5, "isMissing", "()Z"⟩
def mX5_isMissing : MD := (yX5_isMissing, cX5_isMissing, 1, some .boolean)
abbrev cX5_become : ByteArray := prog_7_method_3_code
def yX5_become : MethodName := ⟨RX5, "become", "(II)V"⟩
def mX5_become : MD := (yX5_become, cX5_become, 4, none)
abbrev cX5_put : ByteArray := prog_7_method_4_code
def yX5_put : MethodName := ⟨RX5, "put", "(IJ)V"⟩
def mX5_put : MD := (yX5_put, cX5_put, 4, none)
abbrev cX6_init : ByteArray := prog_8_method_1_code
def yX6_init : MethodName := ⟨RX6, "<init>", "()V"⟩
def mX6_init : MD := (yX6_init, cX6_init, 1, none)
abbrev cX6_has : ByteArray := prog_8_method_2_code
def yX6_has : MethodName := ⟨RX6, "has", "(I)Z"⟩
def mX6_has : MD := (yX6_has, cX6_has, 2, some .boolean)
abbrev cX7_init : ByteArray := prog_9_method_1_code
def yX7_init : MethodName := ⟨RX7, "<init>", "()V"⟩
def mX7_init : MD := (yX7_init, cX7_init, 1, none)
abbrev cX8_init : ByteArray := prog_1_method_1_code
def yX8_init : MethodName := ⟨RX8, "<init>", "()V"⟩
def mX8_init : MD := (yX8_init, cX8_init, 2, none)
abbrev cX8_fall : ByteArray := prog_1_method_4_code
def yX8_fall : MethodName := ⟨RX8, "fall", "(I)I"⟩
def mX8_fall : MD := (yX8_fall, cX8_fall, 2, some .int)
abbrev cX8_fallen : ByteArray := prog_1_method_5_code
def yX8_fallen : MethodName := ⟨RX8, "fallen", "(I)I"⟩
def mX8_fallen : MD := (yX8_fallen, cX8_fallen, 2, some .int)
abbrev cX8_sale : ByteArray := prog_1_method_7_code
def yX8_sale : MethodName := ⟨RX8, "sale", "(IIIII)I"⟩
def mX8_sale : MD := (yX8_sale, cX8_sale, 7, some .int)
abbrev cX8_swap : ByteArray := prog_1_method_8_code
def yX8_swap : MethodName := ⟨RX8, "swap", "(IIIII)I"⟩
def mX8_swap : MD := (yX8_swap, cX8_swap, 6, some .int)
abbrev cX8_of : ByteArray := prog_1_method_10_code
def yX8_of : MethodName := ⟨RX8, "of", "(II)I"⟩
def mX8_of : MD := (yX8_of, cX8_of, 4, some .int)
abbrev cX8_conveys : ByteArray := prog_1_method_12_code
def yX8_conveys : MethodName := ⟨RX8, "conveys", "(III)I"⟩
def mX8_conveys : MD := (yX8_conveys, cX8_conveys, 6, some .int)
abbrev cX8_prune : ByteArray := prog_1_method_14_code
def yX8_prune : MethodName := ⟨RX8, "prune", "()I"⟩
def mX8_prune : MD := (yX8_prune, cX8_prune, 5, some .int)
abbrev cX8_clash : ByteArray := prog_1_method_15_code
def yX8_clash : MethodName := ⟨RX8, "clash", "(I)I"⟩
def mX8_clash : MD := (yX8_clash, cX8_clash, 2, some .int)
abbrev cX8_owner : ByteArray := prog_1_method_16_code
def yX8_owner : MethodName := ⟨RX8, "owner", "(II)I"⟩
def mX8_owner : MD := (yX8_owner, cX8_owner, 3, some .int)
abbrev cX8_chain : ByteArray := prog_1_method_17_code
def yX8_chain : MethodName := ⟨RX8, "chain", "(III)I"⟩
def mX8_chain : MD := (yX8_chain, cX8_chain, 9, some .int)
abbrev cX8_hand : ByteArray := prog_1_method_18_code
def yX8_hand : MethodName := ⟨RX8, "hand", "(II)I"⟩
def mX8_hand : MD := (yX8_hand, cX8_hand, 5, some .int)
abbrev cX8_owners : ByteArray := prog_1_method_19_code
def yX8_owners : MethodName := ⟨RX8, "owners", "(I)I"⟩
def mX8_owners : MD := (yX8_owners, cX8_owners, 2, some .int)
abbrev cX8_sure : ByteArray := prog_1_method_20_code
def yX8_sure : MethodName := ⟨RX8, "sure", "(I)I"⟩
def mX8_sure : MD := (yX8_sure, cX8_sure, 4, some .int)
abbrev cX8_chance : ByteArray := prog_1_method_21_code
def yX8_chance : MethodName := ⟨RX8, "chance", "(II)I"⟩
def mX8_chance : MD := (yX8_chance, cX8_chance, 6, some .int)
abbrev cX8_least : ByteArray := prog_1_method_22_code
def yX8_least : MethodName := ⟨RX8, "least", "(II)I"⟩
def mX8_least : MD := (yX8_least, cX8_least, 5, some .int)
abbrev cX8_worth : ByteArray := prog_1_method_24_code
def yX8_worth : MethodName := ⟨RX8, "worth", "(II)I"⟩
def mX8_worth : MD := (yX8_worth, cX8_worth, 3, some .int)
abbrev cX8_value : ByteArray := prog_1_method_25_code
def yX8_value : MethodName := ⟨RX8, "value", "(I)J"⟩
def mX8_value : MD := (yX8_value, cX8_value, 2, some .long)
abbrev cX8_best : ByteArray := prog_1_method_26_code
def yX8_best : MethodName := ⟨RX8, "best", "(II)I"⟩
def mX8_best : MD := (yX8_best, cX8_best, 8, some .int)
abbrev cX8_hope : ByteArray := prog_1_method_27_code
def yX8_hope : MethodName := ⟨RX8, "hope", "(I)I"⟩
def mX8_hope : MD := (yX8_hope, cX8_hope, 10, some .int)
abbrev cX8_rounds : ByteArray := prog_1_method_28_code
def yX8_rounds : MethodName := ⟨RX8, "rounds", "(II)I"⟩
def mX8_rounds : MD := (yX8_rounds, cX8_rounds, 4, some .int)
abbrev cX8_lays : ByteArray := prog_1_method_29_code
def yX8_lays : MethodName := ⟨RX8, "lays", "(II)I"⟩
def mX8_lays : MD := (yX8_lays, cX8_lays, 6, some .int)
abbrev cX8_judge : ByteArray := prog_1_method_30_code
def yX8_judge : MethodName := ⟨RX8, "judge", "(II)I"⟩
def mX8_judge : MD := (yX8_judge, cX8_judge, 6, some .int)
abbrev cX8_sheet : ByteArray := prog_1_method_33_code
def yX8_sheet : MethodName := ⟨RX8, "sheet", "(III)I"⟩
def mX8_sheet : MD := (yX8_sheet, cX8_sheet, 4, some .int)
abbrev cX8_write : ByteArray := prog_1_method_34_code
def yX8_write : MethodName := ⟨RX8, "write", "(IIJ)I"⟩
def mX8_write : MD := (yX8_write, cX8_write, 6, some .int)
abbrev cX8_image : ByteArray := prog_1_method_39_code
def yX8_image : MethodName := ⟨RX8, "image", "()I"⟩
def mX8_image : MD := (yX8_image, cX8_image, 1, some .int)
abbrev cX8_back : ByteArray := prog_1_method_40_code
def yX8_back : MethodName := ⟨RX8, "back", "()I"⟩
def mX8_back : MD := (yX8_back, cX8_back, 1, some .int)
abbrev cX8_count : ByteArray := prog_1_method_42_code
def yX8_count : MethodName := ⟨RX8, "count", "(I)I"⟩
def mX8_count : MD := (yX8_count, cX8_count, 2, some .int)
abbrev cX8_isOutside : ByteArray := prog_1_method_44_code
def yX8_isOutside : MethodName := ⟨RX8, "isOutside", "(II)Z"⟩
def mX8_isOutside : MD := (yX8_isOutside, cX8_isOutside, 2, some .boolean)
abbrev cX8_areNoPair : ByteArray := prog_1_method_45_code
def yX8_areNoPair : MethodName := ⟨RX8, "areNoPair", "(II)Z"⟩
def mX8_areNoPair : MD := (yX8_areNoPair, cX8_areNoPair, 2, some .boolean)
abbrev cX8_placeUnder : ByteArray := prog_1_method_46_code
def yX8_placeUnder : MethodName := ⟨RX8, "placeUnder", "(II)I"⟩
def mX8_placeUnder : MD := (yX8_placeUnder, cX8_placeUnder, 3, some .int)
abbrev cX8_finding : ByteArray := prog_1_method_48_code
def yX8_finding : MethodName := ⟨RX8, "finding", "(I)I"⟩
def mX8_finding : MD := (yX8_finding, cX8_finding, 2, some .int)
abbrev cX8_longFinding : ByteArray := prog_1_method_49_code
def yX8_longFinding : MethodName := ⟨RX8, "longFinding", "(I)J"⟩
def mX8_longFinding : MD := (yX8_longFinding, cX8_longFinding, 2, some .long)
abbrev cX8_enter : ByteArray := prog_1_method_50_code
def yX8_enter : MethodName := ⟨RX8, "enter", "(LRolledPicks$Deal;)I"⟩
def mX8_enter : MD := (yX8_enter, cX8_enter, 2, some .int)
abbrev cX8_takes : ByteArray := prog_1_method_51_code
def yX8_takes : MethodName := ⟨RX8, "takes", "(LRolledPicks$Deal;)Z"⟩
def mX8_takes : MD := (yX8_takes, cX8_takes, 5, some .boolean)
abbrev cX8_clashesUnder : ByteArray := prog_1_method_52_code
def yX8_clashesUnder : MethodName := ⟨RX8, "clashesUnder", "(ILRolledPicks$Deal;)Z"⟩
def mX8_clashesUnder : MD := (yX8_clashesUnder, cX8_clashesUnder, 8, some .boolean)
abbrev cX8_settleAll : ByteArray := prog_1_method_53_code
def yX8_settleAll : MethodName := ⟨RX8, "settleAll", "()V"⟩
def mX8_settleAll : MD := (yX8_settleAll, cX8_settleAll, 4, none)
abbrev cX8_countConveying : ByteArray := prog_1_method_54_code
def yX8_countConveying : MethodName := ⟨RX8, "countConveying", "(LRolledPicks$Deal;)I"⟩
def mX8_countConveying : MD := (yX8_countConveying, cX8_countConveying, 5, some .int)
abbrev cX8_everOwners : ByteArray := prog_1_method_55_code
def yX8_everOwners : MethodName := ⟨RX8, "everOwners", "(I)I"⟩
def mX8_everOwners : MD := (yX8_everOwners, cX8_everOwners, 5, some .int)
abbrev cX8_worthUnder : ByteArray := prog_1_method_56_code
def yX8_worthUnder : MethodName := ⟨RX8, "worthUnder", "(II)I"⟩
def mX8_worthUnder : MD := (yX8_worthUnder, cX8_worthUnder, 5, some .int)
abbrev cX8_worthOver : ByteArray := prog_1_method_57_code
def yX8_worthOver : MethodName := ⟨RX8, "worthOver", "(III)J"⟩
def mX8_worthOver : MD := (yX8_worthOver, cX8_worthOver, 7, some .long)
abbrev cX8_tellsEachDeal : ByteArray := prog_1_method_58_code
def yX8_tellsEachDeal : MethodName := ⟨RX8, "tellsEachDeal", "(LRolledPicks$Sheet;)Z"⟩
def mX8_tellsEachDeal : MD := (yX8_tellsEachDeal, cX8_tellsEachDeal, 6, some .boolean)
abbrev cX8_countRounds : ByteArray := prog_1_method_59_code
def yX8_countRounds : MethodName := ⟨RX8, "countRounds", "(LRolledPicks$Sheet;I)I"⟩
def mX8_countRounds : MD := (yX8_countRounds, cX8_countRounds, 5, some .int)
abbrev cX8_goesOver : ByteArray := prog_1_method_60_code
def yX8_goesOver : MethodName := ⟨RX8, "goesOver", "(LRolledPicks$Sheet;LRolledPicks$Rounds;)Z"⟩
def mX8_goesOver : MD := (yX8_goesOver, cX8_goesOver, 7, some .boolean)
abbrev cX8_countHeld : ByteArray := prog_1_method_61_code
def yX8_countHeld : MethodName := ⟨RX8, "countHeld", "()I"⟩
def mX8_countHeld : MD := (yX8_countHeld, cX8_countHeld, 3, some .int)
abbrev cX9_init : ByteArray := prog_11_method_1_code
def yX9_init : MethodName := ⟨RX9, "<init>", "()V"⟩
def mX9_init : MD := (yX9_init, cX9_init, 1, none)
abbrev cX9_from : ByteArray := prog_11_method_2_code
def yX9_from : MethodName := ⟨RX9, "from", "()I"⟩
def mX9_from : MD := (yX9_from, cX9_from, 4, some .int)
abbrev cX9_size : ByteArray := prog_11_method_3_code
def yX9_size : MethodName := ⟨RX9, "size", "()I"⟩
def mX9_size : MD := (yX9_size, cX9_size, 1, some .int)
abbrev cX9_holds : ByteArray := prog_11_method_4_code
def yX9_holds : MethodName := ⟨RX9, "holds", "(II)Z"⟩
def mX9_holds : MD := (yX9_holds, cX9_holds, 9, some .boolean)
abbrev cX9_conveys : ByteArray := prog_11_method_5_code
def yX9_conveys : MethodName := ⟨RX9, "conveys", "(III)I"⟩
def mX9_conveys : MD := (yX9_conveys, cX9_conveys, 8, some .int)
abbrev cX9_lapses : ByteArray := prog_11_method_6_code
def yX9_lapses : MethodName := ⟨RX9, "lapses", "(II)Z"⟩
def mX9_lapses : MD := (yX9_lapses, cX9_lapses, 3, some .boolean)
abbrev cX9_chain : ByteArray := prog_11_method_7_code
def yX9_chain : MethodName := ⟨RX9, "chain", "(II)I"⟩
def mX9_chain : MD := (yX9_chain, cX9_chain, 7, some .int)
abbrev cX9_clashes : ByteArray := prog_11_method_8_code
def yX9_clashes : MethodName := ⟨RX9, "clashes", "()Z"⟩
def mX9_clashes : MD := (yX9_clashes, cX9_clashes, 4, some .boolean)
abbrev cX9_comes : ByteArray := prog_11_method_10_code
def yX9_comes : MethodName := ⟨RX9, "comes", "([I[I)Z"⟩
def mX9_comes : MD := (yX9_comes, cX9_comes, 4, some .boolean)
abbrev cJ6_bitCount_0f7a4 : ByteArray := prog_15_method_49_code
def yJ6_bitCount_0f7a4 : MethodName := ⟨RJ6, "bitCount", "(I)I"⟩
def mJ6_bitCount_0f7a4 : MD := (yJ6_bitCount_0f7a4, cJ6_bitCount_0f7a4, 1, some .int)
abbrev cJ9_max_7cf53 : ByteArray := prog_17_method_65_code
def yJ9_max_7cf53 : MethodName := ⟨RJ9, "max", "(II)I"⟩
def mJ9_max_7cf53 : MD := (yJ9_max_7cf53, cJ9_max_7cf53, 2, some .int)
abbrev cJ9_min_7cf53 : ByteArray := prog_17_method_69_code
def yJ9_min_7cf53 : MethodName := ⟨RJ9, "min", "(II)I"⟩
def mJ9_min_7cf53 : MD := (yJ9_min_7cf53, cJ9_min_7cf53, 2, some .int)
abbrev cJxa1e45_init_da8c8 : ByteArray := prog_19_method_1_code
def yJxa1e45_init_da8c8 : MethodName := ⟨RJxa1e45, "<init>", "()V"⟩
def mJxa1e45_init_da8c8 : MD := (yJxa1e45_init_da8c8, cJxa1e45_init_da8c8, 1, none)
abbrev cJxc12de_init_da8c8 : ByteArray := prog_20_method_1_code
def yJxc12de_init_da8c8 : MethodName := ⟨RJxc12de, "<init>", "()V"⟩
def mJxc12de_init_da8c8 : MD := (yJxc12de_init_da8c8, cJxc12de_init_da8c8, 1, none)
abbrev cJx4a65c_init_da8c8 : ByteArray := prog_21_method_2_code
def yJx4a65c_init_da8c8 : MethodName := ⟨RJx4a65c, "<init>", "()V"⟩
def mJx4a65c_init_da8c8 : MD := (yJx4a65c_init_da8c8, cJx4a65c_init_da8c8, 1, none)
abbrev cJx4a65c_grow_92f84 : ByteArray := prog_21_method_6_code
def yJx4a65c_grow_92f84 : MethodName := ⟨RJx4a65c, "grow", "(I)[Ljava/lang/Object;"⟩
def mJx4a65c_grow_92f84 : MD := (yJx4a65c_grow_92f84, cJx4a65c_grow_92f84, 4, some (.array (.object "java/lang/Object")))
abbrev cJx4a65c_grow_d5877 : ByteArray := prog_21_method_7_code
def yJx4a65c_grow_d5877 : MethodName := ⟨RJx4a65c, "grow", "()[Ljava/lang/Object;"⟩
def mJx4a65c_grow_d5877 : MD := (yJx4a65c_grow_d5877, cJx4a65c_grow_d5877, 1, some (.array (.object "java/lang/Object")))
abbrev cJx4a65c_size_8abf5 : ByteArray := prog_21_method_8_code
def yJx4a65c_size_8abf5 : MethodName := ⟨RJx4a65c, "size", "()I"⟩
def mJx4a65c_size_8abf5 : MD := (yJx4a65c_size_8abf5, cJx4a65c_size_8abf5, 1, some .int)
abbrev cJx4a65c_elementData_915e3 : ByteArray := prog_21_method_18_code
def yJx4a65c_elementData_915e3 : MethodName := ⟨RJx4a65c, "elementData", "(I)Ljava/lang/Object;"⟩
def mJx4a65c_elementData_915e3 : MD := (yJx4a65c_elementData_915e3, cJx4a65c_elementData_915e3, 2, some (.object "java/lang/Object"))
abbrev cJx4a65c_get_915e3 : ByteArray := prog_21_method_20_code
def yJx4a65c_get_915e3 : MethodName := ⟨RJx4a65c, "get", "(I)Ljava/lang/Object;"⟩
def mJx4a65c_get_915e3 : MD := (yJx4a65c_get_915e3, cJx4a65c_get_915e3, 2, some (.object "java/lang/Object"))
abbrev cJx4a65c_add_72be8 : ByteArray := prog_21_method_24_code
def yJx4a65c_add_72be8 : MethodName := ⟨RJx4a65c, "add", "(Ljava/lang/Object;[Ljava/lang/Object;I)V"⟩
def mJx4a65c_add_72be8 : MD := (yJx4a65c_add_72be8, cJx4a65c_add_72be8, 4, none)
abbrev cJx4a65c_add_9ea2d : ByteArray := prog_21_method_25_code
def yJx4a65c_add_9ea2d : MethodName := ⟨RJx4a65c, "add", "(Ljava/lang/Object;)Z"⟩
def mJx4a65c_add_9ea2d : MD := (yJx4a65c_add_9ea2d, cJx4a65c_add_9ea2d, 2, some .boolean)
abbrev cJ7_copyOf_1904c : ByteArray := prog_22_method_119_code
def yJ7_copyOf_1904c : MethodName := ⟨RJ7, "copyOf", "([Ljava/lang/Object;I)[Ljava/lang/Object;"⟩
def mJ7_copyOf_1904c : MD := (yJ7_copyOf_1904c, cJ7_copyOf_1904c, 2, some (.array (.object "java/lang/Object")))
abbrev cJ7_copyOf_6403c : ByteArray := prog_22_method_120_code
def yJ7_copyOf_6403c : MethodName := ⟨RJ7, "copyOf", "([Ljava/lang/Object;ILjava/lang/Class;)[Ljava/lang/Object;"⟩
def mJ7_copyOf_6403c : MD := (yJ7_copyOf_6403c, cJ7_copyOf_6403c, 4, some (.array (.object "java/lang/Object")))
abbrev cJ15_checkIndex_7cf53 : ByteArray := prog_25_method_17_code
def yJ15_checkIndex_7cf53 : MethodName := ⟨RJ15, "checkIndex", "(II)I"⟩
def mJ15_checkIndex_7cf53 : MD := (yJ15_checkIndex_7cf53, cJ15_checkIndex_7cf53, 2, some .int)
abbrev cJ8_newLength_cabcc : ByteArray := prog_28_method_27_code
def yJ8_newLength_cabcc : MethodName := ⟨RJ8, "newLength", "(III)I"⟩
def mJ8_newLength_cabcc : MD := (yJ8_newLength_cabcc, cJ8_newLength_cabcc, 4, some .int)
abbrev cJ8_hugeLength_7cf53 : ByteArray := prog_28_method_28_code
def yJ8_hugeLength_7cf53 : MethodName := ⟨RJ8, "hugeLength", "(II)I"⟩
def mJ8_hugeLength_7cf53 : MD := (yJ8_hugeLength_7cf53, cJ8_hugeLength_7cf53, 3, some .int)
abbrev cJ3_checkIndex_8e157 : ByteArray := prog_29_method_11_code
def yJ3_checkIndex_8e157 : MethodName := ⟨RJ3, "checkIndex", "(IILjava/util/function/BiFunction;)I"⟩
def mJ3_checkIndex_8e157 : MD := (yJ3_checkIndex_8e157, cJ3_checkIndex_8e157, 3, some .int)
abbrev cL_at : ByteArray := method_2_code
def yL_at : MethodName := ⟨RL, "at", "([II)I"⟩
def mL_at : MD := (yL_at, cL_at, 2, some .int)
abbrev cL_mod : ByteArray := method_3_code
def yL_mod : MethodName := ⟨RL, "mod", "(II)I"⟩
def mL_mod : MD := (yL_mod, cL_mod, 3, some .int)
abbrev cL_placeIn : ByteArray := method_4_code
def yL_placeIn : MethodName := ⟨RL, "placeIn", "(III)I"⟩
def mL_placeIn : MD := (yL_placeIn, cL_placeIn, 4, some .int)
abbrev cL_place : ByteArray := method_5_code
def yL_place : MethodName := ⟨RL, "place", "(II)I"⟩
def mL_place : MD := (yL_place, cL_place, 2, some .int)
abbrev cL_deal : ByteArray := method_6_code
def yL_deal : MethodName := ⟨RL, "deal", "(I)[I"⟩
def mL_deal : MD := (yL_deal, cL_deal, 6, some (.array .int))
abbrev cL_isClash : ByteArray := method_7_code
def yL_isClash : MethodName := ⟨RL, "isClash", "(LRolledPicks;LRolledPicksLaw$Book;)Z"⟩
def mL_isClash : MD := (yL_isClash, cL_isClash, 2, some .boolean)
abbrev cL_told : ByteArray := method_8_code
def yL_told : MethodName := ⟨RL, "told", "(LRolledPicks;LRolledPicksLaw$Book;[I)Z"⟩
def mL_told : MD := (yL_told, cL_told, 8, some .boolean)
abbrev cL_falls : ByteArray := method_9_code
def yL_falls : MethodName := ⟨RL, "falls", "(LRolledPicks;LRolledPicksLaw$Book;I)Z"⟩
def mL_falls : MD := (yL_falls, cL_falls, 3, some .boolean)
abbrev cL_made : ByteArray := method_10_code
def yL_made : MethodName := ⟨RL, "made", "(LRolledPicks;LRolledPicksLaw$Book;[III)Z"⟩
def mL_made : MD := (yL_made, cL_made, 11, some .boolean)
abbrev cL_same : ByteArray := method_11_code
def yL_same : MethodName := ⟨RL, "same", "(LRolledPicks;LRolledPicksLaw$Book;)Z"⟩
def mL_same : MD := (yL_same, cL_same, 5, some .boolean)
end
section
/-! THE LOGIC: a heap of my own (typed contents by address), values of my own, and 'Ev': from here the machine comes to the method's end with Q. One rule an instruction (part 04), out of the kit's rows. -/
def TT : List Cond := lw_tbl.filter goodWord
theorem tt_of {w : Cond} (i : Nat) (h : lw_tbl[i]? = some w) (g : goodWord w = true) : w ∈ TT := List.mem_filter.mpr ⟨List.mem_of_getElem? h, g⟩
theorem tt_in {w : Cond} (h : w ∈ TT) : w ∈ lw_tbl := (List.mem_filter.mp h).1
theorem tt_good {w : Cond} (h : w ∈ TT) : goodWord w = true := (List.mem_filter.mp h).2
theorem tt_goodIn {ws : List Cond} (h : ∀ w ∈ ws, w ∈ TT) : GoodIn TT ws := fun w hw => ⟨h w hw, good_of_word (tt_good (h w hw))⟩
/-- values: ints, longs, references (none: null; else an address of mine) -/
abbrev VV : Type := Int32 ⊕ (Int64 ⊕ (Option Nat ⊕ Option Nat))
abbrev vI (x : Int32) : VV := .inl x
abbrev vL (x : Int64) : VV := .inr (.inl x)
abbrev vR (r : Option Nat) : VV := .inr (.inr (.inl r))
/-- a reference by the machine's own address -/
abbrev vX (r : Option Nat) : VV := .inr (.inr (.inr r))
/-- a heap: ints, longs, references by address and place; the kind of each address, its length, the next address -/
abbrev HP : Type := (Nat → Nat → Int32) × (Nat → Nat → Int64) × (Nat → Nat → Option Nat) × (Nat → Nat) × (Nat → Nat) × Nat
abbrev hI (h : HP) : Nat → Nat → Int32 := h.1
abbrev hL (h : HP) : Nat → Nat → Int64 := h.2.1
abbrev hR (h : HP) : Nat → Nat → Option Nat := h.2.2.1
abbrev hT (h : HP) : Nat → Nat := h.2.2.2.1
abbrev hN (h : HP) : Nat → Nat := h.2.2.2.2.1
abbrev hZ (h : HP) : Nat := h.2.2.2.2.2
def up2 {α : Type} (f : Nat → Nat → α) (a i : Nat) (v : α) : Nat → Nat → α := fun b j => if b = a ∧ j = i then v else f b j
def wI (h : HP) (a i : Nat) (v : Int32) : HP := (up2 h.1 a i v, h.2)
def wL (h : HP) (a i : Nat) (v : Int64) : HP := (h.1, up2 h.2.1 a i v, h.2.2)
def wR (h : HP) (a i : Nat) (v : Option Nat) : HP := (h.1, h.2.1, up2 h.2.2.1 a i v, h.2.2.2)
/-- one more cell, of kind t and length n, all 0 -/
def nw (h : HP) (t n : Nat) : HP :=
  (fun b j => if b = hZ h then 0 else hI h b j, fun b j => if b = hZ h then 0 else hL h b j, fun b j => if b = hZ h then none else hR h b j,
   fun b => if b = hZ h then t else hT h b, fun b => if b = hZ h then n else hN h b, hZ h + 1)
theorem up2_s {α : Type} {f : Nat → Nat → α} {a i : Nat} {v : α} : up2 f a i v a i = v := if_pos ⟨rfl, rfl⟩
theorem up2_a {α : Type} {f : Nat → Nat → α} {a i b j : Nat} {v : α} (h : b ≠ a) : up2 f a i v b j = f b j := if_neg (fun q => h q.1)
theorem up2_i {α : Type} {f : Nat → Nat → α} {a i b j : Nat} {v : α} (h : j ≠ i) : up2 f a i v b j = f b j := if_neg (fun q => h q.2)
/-- what stays through the whole run: the launch; the first address of the machine's that is ours; those of statics and strings; the classes' numbers and slots; the array classes' numbers; the script -/
abbrev EX : Type := Launch × Nat × (Nat → Nat) × va_G × (Nat → ClassId) × Nat × (Nat → Int32) × (Nat → Nat) × Option Nat
abbrev xl (X : EX) : Launch := X.1
abbrev xb (X : EX) : Nat := X.2.1
abbrev xS (X : EX) : Nat → Nat := X.2.2.1
abbrev xD (X : EX) : va_G := X.2.2.2.1
abbrev xA (X : EX) : Nat → ClassId := X.2.2.2.2.1
abbrev xN (X : EX) : Nat := X.2.2.2.2.2.1
abbrev xs (X : EX) : Nat → Int32 := X.2.2.2.2.2.2.1
/-- where the letters of the strings lie, and a static of the platform -/
abbrev xV (X : EX) : Nat → Nat := X.2.2.2.2.2.2.2.1
abbrev xF (X : EX) : Option Nat := X.2.2.2.2.2.2.2.2
/-- where an address of mine lies in the machine -/
def ad (X : EX) (k : Nat) : Nat := if k < 32 then xS X k else xb X + (k - 32)
def cv (X : EX) : VV → Value
  | .inl x => .int x
  | .inr (.inl x) => .long x
  | .inr (.inr (.inl r)) => va_rf (r.map (ad X))
  | .inr (.inr (.inr r)) => va_rf r
/-- how many fields, and whether a field is a reference -/
def nF : Nat → Nat
  | 0 => 6 | 1 => 7 | 2 => 1 | 3 => 4 | 4 => 4 | 5 => 3 | 6 => 1 | 7 => 4 | 8 => 9 | 9 => 11 | _ => 3
def tyF : Nat → Nat → FieldType
  | 0 => tyX0 | 1 => tyX1 | 2 => tyX2 | 3 => tyX3 | 4 => tyX4 | 5 => tyX5 | 6 => tyX6 | 7 => tyX7 | 8 => tyX8 | 9 => tyX9 | _ => tyJx4a65c
def isR (c k : Nat) : Bool := match tyF c k with
  | .object _ => true
  | .array _ => true
  | _ => false
/-- a cell's picture, as the kit's worlds have it: kinds 1 to 11 objects of vwCl, 12 to 14 arrays of bytes, ints, longs, 16 to 20 arrays of references -/
def ent (X : EX) (h : HP) (k : Nat) : va_E :=
  if hT h k ≤ 11 then .inr (hT h k - 1, (List.range (nF (hT h k - 1))).map (fun i => if isR (hT h k - 1) i then va_rf ((hR h k i).map (ad X)) else .int (hI h k i)))
  else if hT h k = 14 then .inl (xA X 14, hN h k, .inr (.inl (hL h k)))
  else if hT h k ≤ 15 then .inl (xA X (hT h k), hN h k, .inl (hI h k))
  else .inl (xA X (hT h k), hN h k, .inr (.inr (.inr (.inr (fun i => (hR h k i).map (ad X))))))
def wl (X : EX) (h : HP) : va_W := (List.range (hZ h - 32)).map (fun j => (xb X + j, ent X h (j + 32)))
def tys (X : EX) : List (ClassId × FieldType) := [(xA X 12, .byte), (xA X 12, .byte), (xA X 13, .int), (xA X 14, .long), (xA X 13, .int), (xA X 16, .object RX0), (xA X 17, .object RX1), (xA X 18, .object RX5), (xA X 19, .object RX6), (xA X 20, .object "java/lang/Object")]
/-- what is ours in the machine's heap -/
def AA (X : EX) : Nat → Prop := fun q => xb X ≤ q
theorem wl_get {X : EX} {h : HP} {a : Nat} (h1 : 32 ≤ a) (h2 : a < hZ h) : (wl X h)[a - 32]? = some (ad X a, ent X h a) := by
  unfold wl ad
  rw [List.getElem?_map, List.getElem?_range (by omega), if_neg (by omega)]
  show some (xb X + (a - 32), ent X h (a - 32 + 32)) = _
  rw [show a - 32 + 32 = a by omega]
theorem wl_len {X : EX} {h : HP} : (wl X h).length = hZ h - 32 := by simp [wl]
theorem wl_set {X : EX} {h h' : HP} {a : Nat} {E : va_E} (h1 : 32 ≤ a) (h2 : a < hZ h) (hz : hZ h' = hZ h) (he : ent X h' a = E) (ho : ∀ k, k ≠ a → ent X h' k = ent X h k) : (wl X h).set (a - 32) (ad X a, E) = wl X h' := by
  apply List.ext_getElem?
  intro j
  rw [List.getElem?_set]
  by_cases hj : j < hZ h - 32
  · have g := wl_get (X := X) (h := h) (a := j + 32) (by omega) (by omega)
    have g' := wl_get (X := X) (h := h') (a := j + 32) (by omega) (by omega)
    rw [Nat.add_sub_cancel] at g g'
    rw [g, g', wl_len]
    by_cases hja : a - 32 = j
    · have : a = j + 32 := by omega
      subst this
      rw [if_pos (by omega), if_pos (by omega), he]
    · rw [if_neg hja, ho _ (by omega)]
  · rw [if_neg (by omega), List.getElem?_eq_none (by rw [wl_len]; omega), List.getElem?_eq_none (by rw [wl_len]; omega)]
theorem wl_push {X : EX} {h h' : HP} {E : va_E} (h1 : 32 ≤ hZ h) (hz : hZ h' = hZ h + 1) (he : ent X h' (hZ h) = E) (ho : ∀ k, k < hZ h → ent X h' k = ent X h k) : wl X h ++ [(ad X (hZ h), E)] = wl X h' := by
  apply List.ext_getElem?
  intro j
  by_cases hj : j < hZ h - 32
  · have g := wl_get (X := X) (h := h) (a := j + 32) (by omega) (by omega)
    have g' := wl_get (X := X) (h := h') (a := j + 32) (by omega) (by omega)
    rw [Nat.add_sub_cancel] at g g'
    rw [List.getElem?_append_left (by rw [wl_len]; exact hj), g, g', ho _ (by omega)]
  · rw [List.getElem?_append_right (by rw [wl_len]; omega), wl_len]
    by_cases hj2 : j = hZ h - 32
    · subst hj2
      have g' := wl_get (X := X) (h := h') (a := hZ h) (by omega) (by omega)
      rw [g', he, Nat.sub_self]
      rfl
    · rw [List.getElem?_eq_none (by simp; omega), List.getElem?_eq_none (by rw [wl_len]; omega)]
theorem wl_D (X : EX) (h : HP) : va_D (AA X) (wl X h) := by
  have key : ∀ (i : Nat) (p : Nat × va_E), (wl X h)[i]? = some p → p.1 = xb X + i := by
    intro i p hp
    unfold wl at hp
    rw [List.getElem?_map] at hp
    cases hq : (List.range (hZ h - 32))[i]? with
    | none => rw [hq] at hp; cases hp
    | some j =>
      rw [hq] at hp
      have hij : j = i := by
        obtain ⟨h3, h4⟩ := List.getElem?_eq_some_iff.mp hq
        simpa using h4.symm
      subst hij
      cases hp
      rfl
  refine ⟨fun i j p q hp hq e => ?_, fun k q hq => ?_⟩
  · have e1 := key i p hp
    have e2 := key j q hq
    omega
  · show xb X ≤ q.1
    rw [key k q hq]
    omega
/-- my heap is the machine's -/
def CorH (X : EX) (h : HP) (H : Heap) : Prop := H.size = xb X + (hZ h - 32) ∧ 32 ≤ hZ h ∧ va_P (xD X) vwCl (wl X h) H
/-- words of nest mates: good at every warmed state -/
def nestW : List Cond := [.methodLinkNest RX8 9 yX0_init RX8, .methodLinkNest RX8 22 yX2_init RX8, .methodLinkNest RX3 11 yX7_init RX8, .methodLinkNest RX3 30 yX6_init RX8, .methodLinkNest RX8 53 yX5_init RX8, .methodLinkNest RX0 56 yX8_isOutside RX8, .fieldLinkNest RX0 40 RX8 "YEAR_STEP" "[I" RX8, .fieldLinkNest RX0 43 RX8 "OPEN_LEFT" "[I" RX8, .methodLinkNest RX1 40 yX8_placeUnder RX8, .methodLinkNest RL 117 yX9_init RL, .fieldLinkNest RL 83 RX9 "ever" "Ljava/util/ArrayList;" RL, .fieldLinkNest RL 111 RX9 "when" "Ljava/util/ArrayList;" RL, .fieldLinkNest RL 87 RX9 "there" "[I" RL, .fieldLinkNest RL 43 RX9 "many" "I" RL, .fieldLinkNest RL 40 RX9 "fallen" "I" RL, .fieldLinkNest RL 64 RX9 "orders" "[I" RL, .fieldLinkNest RL 28 RX9 "clashS" "I" RL, .fieldLinkNest RL 34 RX9 "clashP" "I" RL, .fieldLinkNest RL 37 RX9 "clashHow" "I" RL, .methodLinkNest RX9 45 yL_placeIn RL, .methodLinkNest RX9 54 yL_place RL]
def aoW : List String := [RX0, RX1, RX5, RX6, "java/lang/Object"]
/-- the static arrays -/
def stW : List (String × List Int32) := [("OPEN_LEFT", [1296, 216, 36, 6, 1]), ("PLACE_OF", [0, 1, 2, 0, 2, 1, 1, 0, 2, 2, 0, 1, 1, 2, 0, 2, 1, 0]), ("YEAR_STEP", [216, 36, 6, 1])]
/-- the law's ORDERS -/
def orW : List (List Int32) := [[0, 1, 2], [0, 2, 1], [1, 0, 2], [1, 2, 0], [2, 0, 1], [2, 1, 0]]
/-- what the tables say of classes, at any state of the run -/
def Kn (X : EX) (U : State) : Prop := va_K (xD X) vwCl (tys X) U ∧ (∀ w ∈ nestW, va_Nw w U) ∧ (∀ C ∈ aoW, va_AO C U) ∧ va_Nw (.castable "[I" "java/lang/Object") U
/-- what lies below our cells, and is never written -/
def Pre (X : EX) (U : State) (H : Heap) : Prop :=
  (∀ i q, stW[i]? = some q → va_Z RX8 q.1 "[I" (.ref (xS X (i + 1))) (AA X) U H ∧ va_T .int (xS X (i + 1)) q.2.length (fun j => .int (q.2.getD j 0)) (AA X) U H) ∧
  va_T .int (xS X 6) (xN X) (fun j => .int (xs X j)) (AA X) U H ∧
  (va_Z RL "ORDERS" "[[I" (.ref (xS X 7)) (AA X) U H ∧ va_T (.array .int) (xS X 7) 6 (fun j => .ref (xS X (j + 8))) (AA X) U H) ∧
  (∀ i q, orW[i]? = some q → va_T .int (xS X (i + 8)) q.length (fun j => .int (q.getD j 0)) (AA X) U H) ∧
  va_Z RJx4a65c "DEFAULTCAPACITY_EMPTY_ELEMENTDATA" "[Ljava/lang/Object;" (.ref (xS X 14)) (AA X) U H ∧ va_T (.object "java/lang/Object") (xS X 14) 0 (fun _ => .null) (AA X) U H
/-- all of it -/
def Cor (X : EX) (h : HP) (U : State) : Prop := CorH X h U.heap ∧ Kn X U ∧ Pre X U U.heap
def rmd (d mc ms : Nat) : Room := { frames := d, cells := mc, slots := ms, locals := 40 * d }
def cw (y : MD) : Cond := .code y.1 y.2.1 y.2.2.1 y.2.2.2
def wsM (y : MD) : List Cond := cw y :: TT
def Qm (X : EX) (Q : Option VV → HP → Prop) : Array Value → State → Outcome → State → Prop := fun _ st oc t => (∃ (v : Option VV) (h' : HP), oc = .returned (v.map (cv X)) ∧ Q v h' ∧ Cor X h' t) ∧ va_F (AA X) st t
/-- A CONTRACT: y, begun with the arguments av over the heap h, returns with Q, at a depth of d calls, making mc cells of ms slots at most -/
def Ct (X : EX) (y : MD) (d mc ms : Nat) (av : List VV) (h : HP) (Q : Option VV → HP → Prop) : Prop :=
  Met (xl X) y.1 (wsM y) (rmd d mc ms) (va_Pc (av.map (cv X)) (fun U => Cor X h U)) (Qm X Q) mc ms (AA X)
/-- what holds of the method's own frame all the while -/
def Cx (X : EX) (y : MD) (p : Program) (s : State) (m : MethodId) (args : Array Value) (meth : Method) (c : Code) : Prop :=
  p.tables.exec = Jvm.exec ∧ c.code = y.2.1 ∧ c.maxLocals = y.2.2.1 ∧ meth.sig.returnType = y.2.2.2 ∧ s.vm.findClass y.1.cls = some m.cls ∧ (∀ w ∈ TT, w.before args s = true) ∧ meth.locks = false ∧ meth.name = y.1.name ∧ Kn X s ∧ Pre X s s.heap ∧ xb X ≤ s.heap.size
/-- the locals: the newest entry of a place counts; none: dead -/
abbrev ZL : Type := List (Nat × Option VV)
def gL : ZL → Nat → Option VV
  | [], _ => none
  | (j, v) :: r, i => if i = j then v else gL r i
def is2 : Option VV → Bool
  | some (.inr (.inl _)) => true
  | _ => false
/-- a store at i: a long that begins one place before dies -/
def stL (ls : ZL) (i : Nat) (v : VV) : ZL := match i with
  | 0 => (0, some v) :: ls
  | k + 1 => if is2 (gL ls k) then (k + 1, some v) :: (k, none) :: ls else (k + 1, some v) :: ls
def stL2 (ls : ZL) (i : Nat) (v : VV) : ZL := (i + 1, none) :: stL ls i v
def Lok (X : EX) (nL : Nat) (ls : ZL) (lsr : Array Slot) : Prop := ∃ lv : List (Nat × Value), lv_has lsr nL lv ∧ ∀ i v, gL ls i = some v → (i, cv X v) ∈ lv
def Ev (X : EX) (y : MD) (d mc ms : Nat) (Q : Option VV → HP → Prop) (cells slots pc : Nat) (ls : ZL) (st : List VV) (h : HP) : Prop :=
  ∀ (p : Program) (e : Env) (s : State) (m : MethodId) (args : Array Value) (below : List Frame) (meth : Method) (c : Code) (H : Heap) (locs : List Loc) (lsr : Array Slot),
    Cx X y p s m args meth c → CorH X h H → va_S (AA X) s.heap H locs → Lok X y.2.2.1 ls lsr →
    W p (xl X) e (rmd d mc ms) s m args below meth c H locs cells slots (MQ below (Qm X Q) args s mc ms (AA X)) (F0 m pc lsr (st.map (cv X)))
/-- an instruction, its length, the next place -/
def At (b : ByteArray) (pc : Nat) (i : Instr) (n pc' : Nat) : Prop := decode b pc = .ok (i, n) ∧ pc' = pc + n
def Br (b : ByteArray) (pc : Nat) (i : Instr) (off : Int) (pc' tgt : Nat) : Prop := decode b pc = .ok (i, 3) ∧ pc' = pc + 3 ∧ (pc : Int) + off = (tgt : Int)
end
section
/-! RULES: locals, constants, arithmetic, branches, returns (written by wip/p45/gen4.py) -/
theorem cv_cat {X : EX} {v : VV} : (cv X v).category = if is2 (some v) then 2 else 1 := by
  rcases v with x | x | r | r
  · rfl
  · rfl
  · cases r <;> rfl
  · cases r <;> rfl
theorem stL_in {X : EX} {lv : List (Nat × Value)} {ls : ZL} {i0 : Nat} {v0 : VV} (hg : ∀ i v, gL ls i = some v → (i, cv X v) ∈ lv) :
    ∀ i v, gL (stL ls i0 v0) i = some v → (i, cv X v) ∈ (i0, cv X v0) :: lv.filter (fun q => !(q.1 == i0) && !(q.1 + 1 == i0 && q.2.category == 2)) := by
  intro i v h
  by_cases hi : i = i0
  · subst hi
    have : v = v0 := by
      unfold stL at h
      cases i with
      | zero => simp [gL] at h; exact h.symm
      | succ k =>
        dsimp only at h
        split at h <;> simp [gL] at h <;> exact h.symm
    subst this
    exact List.mem_cons_self
  · refine List.mem_cons_of_mem _ (List.mem_filter.mpr ⟨?_, ?_⟩)
    · refine hg i v ?_
      unfold stL at h
      cases i0 with
      | zero => simpa [gL, hi] using h
      | succ k =>
        dsimp only at h
        split at h
        · simp only [gL, hi, if_false] at h
          by_cases hk : i = k
          · rw [if_pos hk] at h; cases h
          · rw [if_neg hk] at h; exact h
        · simpa [gL, hi] using h
    · simp only [Bool.and_eq_true, Bool.not_eq_true', beq_eq_false_iff_ne, ne_eq, hi, not_false_eq_true, true_and, Bool.and_eq_false_iff]
      by_cases hk : i + 1 = i0
      · right
        subst hk
        unfold stL at h
        dsimp only at h
        split at h
        · simp [gL] at h
        · next hn =>
          simp [gL] at h
          rw [h] at hn
          rw [cv_cat]
          simp [hn]
      · left; exact hk
theorem stL2_in {X : EX} {lv : List (Nat × Value)} {ls : ZL} {i0 : Nat} {v0 : VV} (hg : ∀ i v, gL ls i = some v → (i, cv X v) ∈ lv) :
    ∀ i v, gL (stL2 ls i0 v0) i = some v → (i, cv X v) ∈ (i0, cv X v0) :: lv.filter (fun q => !(q.1 == i0) && (!(q.1 == i0 + 1) && !(q.1 + 1 == i0 && q.2.category == 2))) := by
  intro i v h
  unfold stL2 at h
  simp only [gL] at h
  by_cases hi : i = i0 + 1
  · rw [if_pos hi] at h; cases h
  · rw [if_neg hi] at h
    rcases List.mem_cons.mp (stL_in hg i v h) with q | q
    · rw [q]; exact List.mem_cons_self
    · refine List.mem_cons_of_mem _ ?_
      rw [List.mem_filter] at q ⊢
      refine ⟨q.1, ?_⟩
      have q2 := q.2
      simp only [Bool.and_eq_true, Bool.not_eq_true', beq_eq_false_iff_ne, ne_eq] at q2 ⊢
      exact ⟨q2.1, hi, q2.2⟩
section R4
variable {X : EX} {y : MD} {d mc ms : Nat} {Q : Option VV → HP → Prop} {cells slots pc pc' : Nat} {ls : ZL} {st : List VV} {h : HP}

theorem e_iconst {n : Int} {v : Int32} (hd : At y.2.1 pc (.iconst n) 1 pc') (he : Int32.ofInt n = v) (k : Ev X y d mc ms Q cells slots pc' ls (vI v :: st) h) : Ev X y d mc ms Q cells slots pc ls (st) h := by
  obtain ⟨hd, rfl⟩ := hd
  intro p e s m args below meth c H locs lsr C hC hS hl
  obtain ⟨lv, hv, hg⟩ := id hl
  exact lv_iconst C.1 C.2.1 hd he (k p e s m args below meth c H locs lsr C hC hS hl)
theorem e_bipush {n : Int} {v : Int32} (hd : At y.2.1 pc (.bipush n) 2 pc') (he : (Int8.ofInt n).toInt32 = v) (k : Ev X y d mc ms Q cells slots pc' ls (vI v :: st) h) : Ev X y d mc ms Q cells slots pc ls (st) h := by
  obtain ⟨hd, rfl⟩ := hd
  intro p e s m args below meth c H locs lsr C hC hS hl
  obtain ⟨lv, hv, hg⟩ := id hl
  exact lv_bipush C.1 C.2.1 hd he (k p e s m args below meth c H locs lsr C hC hS hl)
theorem e_sipush {n : Int} {v : Int32} (hd : At y.2.1 pc (.sipush n) 3 pc') (he : (Int16.ofInt n).toInt32 = v) (k : Ev X y d mc ms Q cells slots pc' ls (vI v :: st) h) : Ev X y d mc ms Q cells slots pc ls (st) h := by
  obtain ⟨hd, rfl⟩ := hd
  intro p e s m args below meth c H locs lsr C hC hS hl
  obtain ⟨lv, hv, hg⟩ := id hl
  exact lv_sipush C.1 C.2.1 hd he (k p e s m args below meth c H locs lsr C hC hS hl)
theorem e_lconst {n : Fin 2} {v : Int64} (hd : At y.2.1 pc (.lconst n) 1 pc') (he : Int64.ofNat (n : Nat) = v) (k : Ev X y d mc ms Q cells slots pc' ls (vL v :: st) h) : Ev X y d mc ms Q cells slots pc ls (st) h := by
  obtain ⟨hd, rfl⟩ := hd
  intro p e s m args below meth c H locs lsr C hC hS hl
  obtain ⟨lv, hv, hg⟩ := id hl
  exact lv_lconst C.1 C.2.1 hd he (k p e s m args below meth c H locs lsr C hC hS hl)
theorem e_aconst_null  (hd : At y.2.1 pc (.aconst_null) 1 pc') (k : Ev X y d mc ms Q cells slots pc' ls (vR none :: st) h) : Ev X y d mc ms Q cells slots pc ls (st) h := by
  obtain ⟨hd, rfl⟩ := hd
  intro p e s m args below meth c H locs lsr C hC hS hl
  obtain ⟨lv, hv, hg⟩ := id hl
  exact lv_null C.1 C.2.1 hd (k p e s m args below meth c H locs lsr C hC hS hl)
theorem e_iload_n {n : Fin 4} {x : Int32} (hd : At y.2.1 pc (.iload_n n) 1 pc') (hx : gL ls (n : Nat) = some (vI x)) (k : Ev X y d mc ms Q cells slots pc' ls (vI x :: st) h) : Ev X y d mc ms Q cells slots pc ls (st) h := by
  obtain ⟨hd, rfl⟩ := hd
  intro p e s m args below meth c H locs lsr C hC hS hl
  obtain ⟨lv, hv, hg⟩ := id hl
  exact lv_iload_n C.1 C.2.1 hd rfl (hv.2.2 _ (hg _ _ hx)) (k p e s m args below meth c H locs lsr C hC hS hl)
theorem e_iload {n : Nat} {x : Int32} (hd : At y.2.1 pc (.iload n) 2 pc') (hx : gL ls n = some (vI x)) (k : Ev X y d mc ms Q cells slots pc' ls (vI x :: st) h) : Ev X y d mc ms Q cells slots pc ls (st) h := by
  obtain ⟨hd, rfl⟩ := hd
  intro p e s m args below meth c H locs lsr C hC hS hl
  obtain ⟨lv, hv, hg⟩ := id hl
  exact lv_iload C.1 C.2.1 hd (hv.2.2 _ (hg _ _ hx)) (k p e s m args below meth c H locs lsr C hC hS hl)
theorem e_lload_n {n : Fin 4} {x : Int64} (hd : At y.2.1 pc (.lload_n n) 1 pc') (hx : gL ls (n : Nat) = some (vL x)) (k : Ev X y d mc ms Q cells slots pc' ls (vL x :: st) h) : Ev X y d mc ms Q cells slots pc ls (st) h := by
  obtain ⟨hd, rfl⟩ := hd
  intro p e s m args below meth c H locs lsr C hC hS hl
  obtain ⟨lv, hv, hg⟩ := id hl
  exact lv_lload_n C.1 C.2.1 hd rfl (hv.2.2 _ (hg _ _ hx)) (k p e s m args below meth c H locs lsr C hC hS hl)
theorem e_lload {n : Nat} {x : Int64} (hd : At y.2.1 pc (.lload n) 2 pc') (hx : gL ls n = some (vL x)) (k : Ev X y d mc ms Q cells slots pc' ls (vL x :: st) h) : Ev X y d mc ms Q cells slots pc ls (st) h := by
  obtain ⟨hd, rfl⟩ := hd
  intro p e s m args below meth c H locs lsr C hC hS hl
  obtain ⟨lv, hv, hg⟩ := id hl
  exact lv_lload C.1 C.2.1 hd (hv.2.2 _ (hg _ _ hx)) (k p e s m args below meth c H locs lsr C hC hS hl)
theorem e_aload_n {n : Fin 4} {r : Option Nat} (hd : At y.2.1 pc (.aload_n n) 1 pc') (hx : gL ls (n : Nat) = some (vR r)) (k : Ev X y d mc ms Q cells slots pc' ls (vR r :: st) h) : Ev X y d mc ms Q cells slots pc ls (st) h := by
  obtain ⟨hd, rfl⟩ := hd
  intro p e s m args below meth c H locs lsr C hC hS hl
  obtain ⟨lv, hv, hg⟩ := id hl
  have hx' := hv.2.2 _ (hg _ _ hx)
  have kk := k p e s m args below meth c H locs lsr C hC hS hl
  cases r with
  | none => exact lv_aload_nN C.1 C.2.1 hd rfl hx' kk
  | some a => exact lv_aload_n C.1 C.2.1 hd rfl hx' kk
theorem e_aload {n : Nat} {r : Option Nat} (hd : At y.2.1 pc (.aload n) 2 pc') (hx : gL ls n = some (vR r)) (k : Ev X y d mc ms Q cells slots pc' ls (vR r :: st) h) : Ev X y d mc ms Q cells slots pc ls (st) h := by
  obtain ⟨hd, rfl⟩ := hd
  intro p e s m args below meth c H locs lsr C hC hS hl
  obtain ⟨lv, hv, hg⟩ := id hl
  have hx' := hv.2.2 _ (hg _ _ hx)
  have kk := k p e s m args below meth c H locs lsr C hC hS hl
  cases r with
  | none => exact lv_aloadN C.1 C.2.1 hd hx' kk
  | some a => exact lv_aload C.1 C.2.1 hd hx' kk
theorem e_istore_n {n : Fin 4} {x : Int32} (hd : At y.2.1 pc (.istore_n n) 1 pc') (hn : ((n : Nat) : Nat) < y.2.2.1) (k : Ev X y d mc ms Q cells slots pc' (stL ls (n : Nat) (vI x)) (st) h) : Ev X y d mc ms Q cells slots pc ls (vI x :: st) h := by
  obtain ⟨hd, rfl⟩ := hd
  intro p e s m args below meth c H locs lsr C hC hS hl
  obtain ⟨lv, hv, hg⟩ := id hl
  exact lv_istore_n C.1 C.2.1 hd rfl hv (by simpa using hn) rfl (fun ls' h' => k p e s m args below meth c H locs ls' C hC hS ⟨_, h', stL_in (v0 := vI x) hg⟩)
theorem e_istore {n : Nat} {x : Int32} (hd : At y.2.1 pc (.istore n) 2 pc') (hn : (n : Nat) < y.2.2.1) (k : Ev X y d mc ms Q cells slots pc' (stL ls n (vI x)) (st) h) : Ev X y d mc ms Q cells slots pc ls (vI x :: st) h := by
  obtain ⟨hd, rfl⟩ := hd
  intro p e s m args below meth c H locs lsr C hC hS hl
  obtain ⟨lv, hv, hg⟩ := id hl
  exact lv_istore C.1 C.2.1 hd hv (by simpa using hn) rfl (fun ls' h' => k p e s m args below meth c H locs ls' C hC hS ⟨_, h', stL_in (v0 := vI x) hg⟩)
theorem e_lstore_n {n : Fin 4} {x : Int64} (hd : At y.2.1 pc (.lstore_n n) 1 pc') (hn : ((n : Nat) + 1 : Nat) < y.2.2.1) (k : Ev X y d mc ms Q cells slots pc' (stL2 ls (n : Nat) (vL x)) (st) h) : Ev X y d mc ms Q cells slots pc ls (vL x :: st) h := by
  obtain ⟨hd, rfl⟩ := hd
  intro p e s m args below meth c H locs lsr C hC hS hl
  obtain ⟨lv, hv, hg⟩ := id hl
  exact lv_lstore_n C.1 C.2.1 hd rfl hv (by simpa using hn) rfl (fun ls' h' => k p e s m args below meth c H locs ls' C hC hS ⟨_, h', stL2_in (v0 := vL x) hg⟩)
theorem e_lstore {n : Nat} {x : Int64} (hd : At y.2.1 pc (.lstore n) 2 pc') (hn : (n + 1 : Nat) < y.2.2.1) (k : Ev X y d mc ms Q cells slots pc' (stL2 ls n (vL x)) (st) h) : Ev X y d mc ms Q cells slots pc ls (vL x :: st) h := by
  obtain ⟨hd, rfl⟩ := hd
  intro p e s m args below meth c H locs lsr C hC hS hl
  obtain ⟨lv, hv, hg⟩ := id hl
  exact lv_lstore C.1 C.2.1 hd hv (by simpa using hn) rfl (fun ls' h' => k p e s m args below meth c H locs ls' C hC hS ⟨_, h', stL2_in (v0 := vL x) hg⟩)
theorem e_astore_n {n : Fin 4} {r : Option Nat} (hd : At y.2.1 pc (.astore_n n) 1 pc') (hn : ((n : Nat) : Nat) < y.2.2.1) (k : Ev X y d mc ms Q cells slots pc' (stL ls (n : Nat) (vR r)) (st) h) : Ev X y d mc ms Q cells slots pc ls (vR r :: st) h := by
  obtain ⟨hd, rfl⟩ := hd
  intro p e s m args below meth c H locs lsr C hC hS hl
  obtain ⟨lv, hv, hg⟩ := id hl
  cases r with
  | none => exact lv_astore_nN C.1 C.2.1 hd rfl hv (by simpa using hn) rfl (fun ls' h' => k p e s m args below meth c H locs ls' C hC hS ⟨_, h', stL_in (v0 := vR none) hg⟩)
  | some a => exact lv_astore_n C.1 C.2.1 hd rfl hv (by simpa using hn) rfl (fun ls' h' => k p e s m args below meth c H locs ls' C hC hS ⟨_, h', stL_in (v0 := vR (some a)) hg⟩)
theorem e_astore {n : Nat} {r : Option Nat} (hd : At y.2.1 pc (.astore n) 2 pc') (hn : (n : Nat) < y.2.2.1) (k : Ev X y d mc ms Q cells slots pc' (stL ls n (vR r)) (st) h) : Ev X y d mc ms Q cells slots pc ls (vR r :: st) h := by
  obtain ⟨hd, rfl⟩ := hd
  intro p e s m args below meth c H locs lsr C hC hS hl
  obtain ⟨lv, hv, hg⟩ := id hl
  cases r with
  | none => exact lv_astoreN C.1 C.2.1 hd hv (by simpa using hn) rfl (fun ls' h' => k p e s m args below meth c H locs ls' C hC hS ⟨_, h', stL_in (v0 := vR none) hg⟩)
  | some a => exact lv_astore C.1 C.2.1 hd hv (by simpa using hn) rfl (fun ls' h' => k p e s m args below meth c H locs ls' C hC hS ⟨_, h', stL_in (v0 := vR (some a)) hg⟩)
theorem e_iinc {n : Nat} {z : Int} {x v : Int32} (hd : At y.2.1 pc (.iinc n z) 3 pc') (hx : gL ls n = some (vI x)) (he : x + Int32.ofInt z = v) (hn : n < y.2.2.1) (k : Ev X y d mc ms Q cells slots pc' (stL ls n (vI v)) (st) h) : Ev X y d mc ms Q cells slots pc ls (st) h := by
  obtain ⟨hd, rfl⟩ := hd
  intro p e s m args below meth c H locs lsr C hC hS hl
  obtain ⟨lv, hv, hg⟩ := id hl
  obtain ⟨k0, hk0⟩ := List.getElem?_of_mem (hg _ _ hx)
  exact lv_iinc C.1 C.2.1 hd hv hk0 he hn rfl (fun ls' h' => k p e s m args below meth c H locs ls' C hC hS ⟨_, h', stL_in (v0 := vI v) hg⟩)
theorem e_iadd {x y0 : Int32} (hd : At y.2.1 pc (.iadd) 1 pc') (k : Ev X y d mc ms Q cells slots pc' ls (vI (x + y0) :: st) h) : Ev X y d mc ms Q cells slots pc ls (vI y0 :: vI x :: st) h := by
  obtain ⟨hd, rfl⟩ := hd
  intro p e s m args below meth c H locs lsr C hC hS hl
  obtain ⟨lv, hv, hg⟩ := id hl
  exact lv_iadd C.1 C.2.1 hd (k p e s m args below meth c H locs lsr C hC hS hl)
theorem e_isub {x y0 : Int32} (hd : At y.2.1 pc (.isub) 1 pc') (k : Ev X y d mc ms Q cells slots pc' ls (vI (x - y0) :: st) h) : Ev X y d mc ms Q cells slots pc ls (vI y0 :: vI x :: st) h := by
  obtain ⟨hd, rfl⟩ := hd
  intro p e s m args below meth c H locs lsr C hC hS hl
  obtain ⟨lv, hv, hg⟩ := id hl
  exact lv_isub C.1 C.2.1 hd (k p e s m args below meth c H locs lsr C hC hS hl)
theorem e_imul {x y0 : Int32} (hd : At y.2.1 pc (.imul) 1 pc') (k : Ev X y d mc ms Q cells slots pc' ls (vI (x * y0) :: st) h) : Ev X y d mc ms Q cells slots pc ls (vI y0 :: vI x :: st) h := by
  obtain ⟨hd, rfl⟩ := hd
  intro p e s m args below meth c H locs lsr C hC hS hl
  obtain ⟨lv, hv, hg⟩ := id hl
  exact lv_imul C.1 C.2.1 hd (k p e s m args below meth c H locs lsr C hC hS hl)
theorem e_iand {x y0 : Int32} (hd : At y.2.1 pc (.iand) 1 pc') (k : Ev X y d mc ms Q cells slots pc' ls (vI (x &&& y0) :: st) h) : Ev X y d mc ms Q cells slots pc ls (vI y0 :: vI x :: st) h := by
  obtain ⟨hd, rfl⟩ := hd
  intro p e s m args below meth c H locs lsr C hC hS hl
  obtain ⟨lv, hv, hg⟩ := id hl
  exact lv_iand C.1 C.2.1 hd (k p e s m args below meth c H locs lsr C hC hS hl)
theorem e_ior {x y0 : Int32} (hd : At y.2.1 pc (.ior) 1 pc') (k : Ev X y d mc ms Q cells slots pc' ls (vI (x ||| y0) :: st) h) : Ev X y d mc ms Q cells slots pc ls (vI y0 :: vI x :: st) h := by
  obtain ⟨hd, rfl⟩ := hd
  intro p e s m args below meth c H locs lsr C hC hS hl
  obtain ⟨lv, hv, hg⟩ := id hl
  exact lv_ior C.1 C.2.1 hd (k p e s m args below meth c H locs lsr C hC hS hl)
theorem e_ixor {x y0 : Int32} (hd : At y.2.1 pc (.ixor) 1 pc') (k : Ev X y d mc ms Q cells slots pc' ls (vI (x ^^^ y0) :: st) h) : Ev X y d mc ms Q cells slots pc ls (vI y0 :: vI x :: st) h := by
  obtain ⟨hd, rfl⟩ := hd
  intro p e s m args below meth c H locs lsr C hC hS hl
  obtain ⟨lv, hv, hg⟩ := id hl
  exact lv_ixor C.1 C.2.1 hd (k p e s m args below meth c H locs lsr C hC hS hl)
theorem e_ladd {x y0 : Int64} (hd : At y.2.1 pc (.ladd) 1 pc') (k : Ev X y d mc ms Q cells slots pc' ls (vL (x + y0) :: st) h) : Ev X y d mc ms Q cells slots pc ls (vL y0 :: vL x :: st) h := by
  obtain ⟨hd, rfl⟩ := hd
  intro p e s m args below meth c H locs lsr C hC hS hl
  obtain ⟨lv, hv, hg⟩ := id hl
  exact lv_ladd C.1 C.2.1 hd (k p e s m args below meth c H locs lsr C hC hS hl)
theorem e_lsub {x y0 : Int64} (hd : At y.2.1 pc (.lsub) 1 pc') (k : Ev X y d mc ms Q cells slots pc' ls (vL (x - y0) :: st) h) : Ev X y d mc ms Q cells slots pc ls (vL y0 :: vL x :: st) h := by
  obtain ⟨hd, rfl⟩ := hd
  intro p e s m args below meth c H locs lsr C hC hS hl
  obtain ⟨lv, hv, hg⟩ := id hl
  exact lv_lsub C.1 C.2.1 hd (k p e s m args below meth c H locs lsr C hC hS hl)
theorem e_land {x y0 : Int64} (hd : At y.2.1 pc (.land) 1 pc') (k : Ev X y d mc ms Q cells slots pc' ls (vL (x &&& y0) :: st) h) : Ev X y d mc ms Q cells slots pc ls (vL y0 :: vL x :: st) h := by
  obtain ⟨hd, rfl⟩ := hd
  intro p e s m args below meth c H locs lsr C hC hS hl
  obtain ⟨lv, hv, hg⟩ := id hl
  exact lv_land C.1 C.2.1 hd (k p e s m args below meth c H locs lsr C hC hS hl)
theorem e_lor {x y0 : Int64} (hd : At y.2.1 pc (.lor) 1 pc') (k : Ev X y d mc ms Q cells slots pc' ls (vL (x ||| y0) :: st) h) : Ev X y d mc ms Q cells slots pc ls (vL y0 :: vL x :: st) h := by
  obtain ⟨hd, rfl⟩ := hd
  intro p e s m args below meth c H locs lsr C hC hS hl
  obtain ⟨lv, hv, hg⟩ := id hl
  exact lv_lor C.1 C.2.1 hd (k p e s m args below meth c H locs lsr C hC hS hl)
theorem e_lxor {x y0 : Int64} (hd : At y.2.1 pc (.lxor) 1 pc') (k : Ev X y d mc ms Q cells slots pc' ls (vL (x ^^^ y0) :: st) h) : Ev X y d mc ms Q cells slots pc ls (vL y0 :: vL x :: st) h := by
  obtain ⟨hd, rfl⟩ := hd
  intro p e s m args below meth c H locs lsr C hC hS hl
  obtain ⟨lv, hv, hg⟩ := id hl
  exact lv_lxor C.1 C.2.1 hd (k p e s m args below meth c H locs lsr C hC hS hl)
theorem e_ishl {x y0 : Int32} (hd : At y.2.1 pc (.ishl) 1 pc') (k : Ev X y d mc ms Q cells slots pc' ls (vI (x <<< (y0 &&& 31)) :: st) h) : Ev X y d mc ms Q cells slots pc ls (vI y0 :: vI x :: st) h := by
  obtain ⟨hd, rfl⟩ := hd
  intro p e s m args below meth c H locs lsr C hC hS hl
  obtain ⟨lv, hv, hg⟩ := id hl
  exact lv_ishl C.1 C.2.1 hd (k p e s m args below meth c H locs lsr C hC hS hl)
theorem e_ishr {x y0 : Int32} (hd : At y.2.1 pc (.ishr) 1 pc') (k : Ev X y d mc ms Q cells slots pc' ls (vI (x >>> (y0 &&& 31)) :: st) h) : Ev X y d mc ms Q cells slots pc ls (vI y0 :: vI x :: st) h := by
  obtain ⟨hd, rfl⟩ := hd
  intro p e s m args below meth c H locs lsr C hC hS hl
  obtain ⟨lv, hv, hg⟩ := id hl
  exact lv_ishr C.1 C.2.1 hd (k p e s m args below meth c H locs lsr C hC hS hl)
theorem e_idiv {x y0 : Int32} (hd : At y.2.1 pc (.idiv) 1 pc') (hne : ¬ y0 = 0) (k : Ev X y d mc ms Q cells slots pc' ls (vI (x / y0) :: st) h) : Ev X y d mc ms Q cells slots pc ls (vI y0 :: vI x :: st) h := by
  obtain ⟨hd, rfl⟩ := hd
  intro p e s m args below meth c H locs lsr C hC hS hl
  obtain ⟨lv, hv, hg⟩ := id hl
  exact lv_idiv C.1 C.2.1 hd hne (k p e s m args below meth c H locs lsr C hC hS hl)
theorem e_irem {x y0 : Int32} (hd : At y.2.1 pc (.irem) 1 pc') (hne : ¬ y0 = 0) (k : Ev X y d mc ms Q cells slots pc' ls (vI (x - x / y0 * y0) :: st) h) : Ev X y d mc ms Q cells slots pc ls (vI y0 :: vI x :: st) h := by
  obtain ⟨hd, rfl⟩ := hd
  intro p e s m args below meth c H locs lsr C hC hS hl
  obtain ⟨lv, hv, hg⟩ := id hl
  exact lv_irem C.1 C.2.1 hd hne (k p e s m args below meth c H locs lsr C hC hS hl)
theorem e_ineg {x : Int32} (hd : At y.2.1 pc (.ineg) 1 pc') (k : Ev X y d mc ms Q cells slots pc' ls (vI (-x) :: st) h) : Ev X y d mc ms Q cells slots pc ls (vI x :: st) h := by
  obtain ⟨hd, rfl⟩ := hd
  intro p e s m args below meth c H locs lsr C hC hS hl
  obtain ⟨lv, hv, hg⟩ := id hl
  exact lv_ineg C.1 C.2.1 hd (k p e s m args below meth c H locs lsr C hC hS hl)
theorem e_iushr {x y0 : Int32} (hd : At y.2.1 pc (.iushr) 1 pc') (k : Ev X y d mc ms Q cells slots pc' ls (vI ((x.toUInt32 >>> (y0.toUInt32 &&& Int32.toUInt32 31)).toInt32) :: st) h) : Ev X y d mc ms Q cells slots pc ls (vI y0 :: vI x :: st) h := by
  obtain ⟨hd, rfl⟩ := hd
  intro p e s m args below meth c H locs lsr C hC hS hl
  obtain ⟨lv, hv, hg⟩ := id hl
  exact lv_iushr C.1 C.2.1 hd rfl (k p e s m args below meth c H locs lsr C hC hS hl)
theorem e_lshl {x : Int64} {y0 : Int32} (hd : At y.2.1 pc (.lshl) 1 pc') (k : Ev X y d mc ms Q cells slots pc' ls (vL (x <<< (y0.toInt64 &&& 63)) :: st) h) : Ev X y d mc ms Q cells slots pc ls (vI y0 :: vL x :: st) h := by
  obtain ⟨hd, rfl⟩ := hd
  intro p e s m args below meth c H locs lsr C hC hS hl
  obtain ⟨lv, hv, hg⟩ := id hl
  exact lv_lshl C.1 C.2.1 hd rfl (k p e s m args below meth c H locs lsr C hC hS hl)
theorem e_lshr {x : Int64} {y0 : Int32} (hd : At y.2.1 pc (.lshr) 1 pc') (k : Ev X y d mc ms Q cells slots pc' ls (vL (x >>> (y0.toInt64 &&& 63)) :: st) h) : Ev X y d mc ms Q cells slots pc ls (vI y0 :: vL x :: st) h := by
  obtain ⟨hd, rfl⟩ := hd
  intro p e s m args below meth c H locs lsr C hC hS hl
  obtain ⟨lv, hv, hg⟩ := id hl
  exact lv_lshr C.1 C.2.1 hd rfl (k p e s m args below meth c H locs lsr C hC hS hl)
theorem e_i2l {x : Int32} (hd : At y.2.1 pc (.i2l) 1 pc') (k : Ev X y d mc ms Q cells slots pc' ls (vL x.toInt64 :: st) h) : Ev X y d mc ms Q cells slots pc ls (vI x :: st) h := by
  obtain ⟨hd, rfl⟩ := hd
  intro p e s m args below meth c H locs lsr C hC hS hl
  obtain ⟨lv, hv, hg⟩ := id hl
  exact lv_i2l C.1 C.2.1 hd rfl (k p e s m args below meth c H locs lsr C hC hS hl)
theorem e_l2i {x : Int64} (hd : At y.2.1 pc (.l2i) 1 pc') (k : Ev X y d mc ms Q cells slots pc' ls (vI x.toInt32 :: st) h) : Ev X y d mc ms Q cells slots pc ls (vL x :: st) h := by
  obtain ⟨hd, rfl⟩ := hd
  intro p e s m args below meth c H locs lsr C hC hS hl
  obtain ⟨lv, hv, hg⟩ := id hl
  exact lv_l2i C.1 C.2.1 hd rfl (k p e s m args below meth c H locs lsr C hC hS hl)
theorem e_i2b {x : Int32} (hd : At y.2.1 pc (.i2b) 1 pc') (k : Ev X y d mc ms Q cells slots pc' ls (vI x.toInt8.toInt32 :: st) h) : Ev X y d mc ms Q cells slots pc ls (vI x :: st) h := by
  obtain ⟨hd, rfl⟩ := hd
  intro p e s m args below meth c H locs lsr C hC hS hl
  obtain ⟨lv, hv, hg⟩ := id hl
  exact lv_i2b C.1 C.2.1 hd rfl (k p e s m args below meth c H locs lsr C hC hS hl)
theorem e_i2s {x : Int32} (hd : At y.2.1 pc (.i2s) 1 pc') (k : Ev X y d mc ms Q cells slots pc' ls (vI x.toInt16.toInt32 :: st) h) : Ev X y d mc ms Q cells slots pc ls (vI x :: st) h := by
  obtain ⟨hd, rfl⟩ := hd
  intro p e s m args below meth c H locs lsr C hC hS hl
  obtain ⟨lv, hv, hg⟩ := id hl
  exact lv_i2s C.1 C.2.1 hd rfl (k p e s m args below meth c H locs lsr C hC hS hl)
theorem e_lcmp {x y0 : Int64} (hd : At y.2.1 pc (.lcmp) 1 pc') (k : Ev X y d mc ms Q cells slots pc' ls (vI (lg_cmp x y0) :: st) h) : Ev X y d mc ms Q cells slots pc ls (vL y0 :: vL x :: st) h := by
  obtain ⟨hd, rfl⟩ := hd
  intro p e s m args below meth c H locs lsr C hC hS hl
  obtain ⟨lv, hv, hg⟩ := id hl
  exact W.lcmp C.1 C.2.1 hd (k p e s m args below meth c H locs lsr C hC hS hl)
theorem e_dup {v : VV} (hd : At y.2.1 pc (.dup) 1 pc') (hc : is2 (some v) = false) (k : Ev X y d mc ms Q cells slots pc' ls (v :: v :: st) h) : Ev X y d mc ms Q cells slots pc ls (v :: st) h := by
  obtain ⟨hd, rfl⟩ := hd
  intro p e s m args below meth c H locs lsr C hC hS hl
  obtain ⟨lv, hv, hg⟩ := id hl
  exact lv_dup C.1 C.2.1 hd (by rw [cv_cat, hc]; rfl) (k p e s m args below meth c H locs lsr C hC hS hl)
theorem e_pop {v : VV} (hd : At y.2.1 pc (.pop) 1 pc') (hc : is2 (some v) = false) (k : Ev X y d mc ms Q cells slots pc' ls (st) h) : Ev X y d mc ms Q cells slots pc ls (v :: st) h := by
  obtain ⟨hd, rfl⟩ := hd
  intro p e s m args below meth c H locs lsr C hC hS hl
  obtain ⟨lv, hv, hg⟩ := id hl
  exact lv_pop C.1 C.2.1 hd (by rw [cv_cat, hc]; rfl) (k p e s m args below meth c H locs lsr C hC hS hl)
theorem e_dup2 {v w : VV} (hd : At y.2.1 pc (.dup2) 1 pc') (hc : is2 (some v) = false) (hc2 : is2 (some w) = false) (k : Ev X y d mc ms Q cells slots pc' ls (v :: w :: v :: w :: st) h) : Ev X y d mc ms Q cells slots pc ls (v :: w :: st) h := by
  obtain ⟨hd, rfl⟩ := hd
  intro p e s m args below meth c H locs lsr C hC hS hl
  obtain ⟨lv, hv, hg⟩ := id hl
  exact lv_dup2_11 C.1 C.2.1 hd (by rw [cv_cat, hc]; rfl) (by rw [cv_cat, hc2]; rfl) (k p e s m args below meth c H locs lsr C hC hS hl)
theorem e_if_eq {x : Int32} {off : Int} {tgt : Nat} (hd : Br y.2.1 pc (.ifCond .eq off) off pc' tgt) (kt : x = 0 → Ev X y d mc ms Q cells slots tgt ls st h) (kf : ¬ x = 0 → Ev X y d mc ms Q cells slots pc' ls st h) : Ev X y d mc ms Q cells slots pc ls (vI x :: st) h := by
  obtain ⟨hd, rfl, ht⟩ := hd
  intro p e s m args below meth c H locs lsr C hC hS hl
  exact lv_if_eq C.1 C.2.1 hd ht (fun q => kt q p e s m args below meth c H locs lsr C hC hS hl) (fun q => kf q p e s m args below meth c H locs lsr C hC hS hl)
theorem e_icmp_eq {x y0 : Int32} {off : Int} {tgt : Nat} (hd : Br y.2.1 pc (.if_icmp .eq off) off pc' tgt) (kt : x = y0 → Ev X y d mc ms Q cells slots tgt ls st h) (kf : ¬ x = y0 → Ev X y d mc ms Q cells slots pc' ls st h) : Ev X y d mc ms Q cells slots pc ls (vI y0 :: vI x :: st) h := by
  obtain ⟨hd, rfl, ht⟩ := hd
  intro p e s m args below meth c H locs lsr C hC hS hl
  exact lv_icmp_eq C.1 C.2.1 hd ht (fun q => kt q p e s m args below meth c H locs lsr C hC hS hl) (fun q => kf q p e s m args below meth c H locs lsr C hC hS hl)
theorem e_if_ne {x : Int32} {off : Int} {tgt : Nat} (hd : Br y.2.1 pc (.ifCond .ne off) off pc' tgt) (kt : ¬ x = 0 → Ev X y d mc ms Q cells slots tgt ls st h) (kf : x = 0 → Ev X y d mc ms Q cells slots pc' ls st h) : Ev X y d mc ms Q cells slots pc ls (vI x :: st) h := by
  obtain ⟨hd, rfl, ht⟩ := hd
  intro p e s m args below meth c H locs lsr C hC hS hl
  exact lv_if_ne C.1 C.2.1 hd ht (fun q => kt q p e s m args below meth c H locs lsr C hC hS hl) (fun q => kf q p e s m args below meth c H locs lsr C hC hS hl)
theorem e_icmp_ne {x y0 : Int32} {off : Int} {tgt : Nat} (hd : Br y.2.1 pc (.if_icmp .ne off) off pc' tgt) (kt : ¬ x = y0 → Ev X y d mc ms Q cells slots tgt ls st h) (kf : x = y0 → Ev X y d mc ms Q cells slots pc' ls st h) : Ev X y d mc ms Q cells slots pc ls (vI y0 :: vI x :: st) h := by
  obtain ⟨hd, rfl, ht⟩ := hd
  intro p e s m args below meth c H locs lsr C hC hS hl
  exact lv_icmp_ne C.1 C.2.1 hd ht (fun q => kt q p e s m args below meth c H locs lsr C hC hS hl) (fun q => kf q p e s m args below meth c H locs lsr C hC hS hl)
theorem e_if_lt {x : Int32} {off : Int} {tgt : Nat} (hd : Br y.2.1 pc (.ifCond .lt off) off pc' tgt) (kt : x < 0 → Ev X y d mc ms Q cells slots tgt ls st h) (kf : ¬ x < 0 → Ev X y d mc ms Q cells slots pc' ls st h) : Ev X y d mc ms Q cells slots pc ls (vI x :: st) h := by
  obtain ⟨hd, rfl, ht⟩ := hd
  intro p e s m args below meth c H locs lsr C hC hS hl
  exact lv_if_lt C.1 C.2.1 hd ht (fun q => kt q p e s m args below meth c H locs lsr C hC hS hl) (fun q => kf q p e s m args below meth c H locs lsr C hC hS hl)
theorem e_icmp_lt {x y0 : Int32} {off : Int} {tgt : Nat} (hd : Br y.2.1 pc (.if_icmp .lt off) off pc' tgt) (kt : x < y0 → Ev X y d mc ms Q cells slots tgt ls st h) (kf : ¬ x < y0 → Ev X y d mc ms Q cells slots pc' ls st h) : Ev X y d mc ms Q cells slots pc ls (vI y0 :: vI x :: st) h := by
  obtain ⟨hd, rfl, ht⟩ := hd
  intro p e s m args below meth c H locs lsr C hC hS hl
  exact lv_icmp_lt C.1 C.2.1 hd ht (fun q => kt q p e s m args below meth c H locs lsr C hC hS hl) (fun q => kf q p e s m args below meth c H locs lsr C hC hS hl)
theorem e_if_ge {x : Int32} {off : Int} {tgt : Nat} (hd : Br y.2.1 pc (.ifCond .ge off) off pc' tgt) (kt : 0 ≤ x → Ev X y d mc ms Q cells slots tgt ls st h) (kf : ¬ 0 ≤ x → Ev X y d mc ms Q cells slots pc' ls st h) : Ev X y d mc ms Q cells slots pc ls (vI x :: st) h := by
  obtain ⟨hd, rfl, ht⟩ := hd
  intro p e s m args below meth c H locs lsr C hC hS hl
  exact lv_if_ge C.1 C.2.1 hd ht (fun q => kt q p e s m args below meth c H locs lsr C hC hS hl) (fun q => kf q p e s m args below meth c H locs lsr C hC hS hl)
theorem e_icmp_ge {x y0 : Int32} {off : Int} {tgt : Nat} (hd : Br y.2.1 pc (.if_icmp .ge off) off pc' tgt) (kt : y0 ≤ x → Ev X y d mc ms Q cells slots tgt ls st h) (kf : ¬ y0 ≤ x → Ev X y d mc ms Q cells slots pc' ls st h) : Ev X y d mc ms Q cells slots pc ls (vI y0 :: vI x :: st) h := by
  obtain ⟨hd, rfl, ht⟩ := hd
  intro p e s m args below meth c H locs lsr C hC hS hl
  exact lv_icmp_ge C.1 C.2.1 hd ht (fun q => kt q p e s m args below meth c H locs lsr C hC hS hl) (fun q => kf q p e s m args below meth c H locs lsr C hC hS hl)
theorem e_if_gt {x : Int32} {off : Int} {tgt : Nat} (hd : Br y.2.1 pc (.ifCond .gt off) off pc' tgt) (kt : 0 < x → Ev X y d mc ms Q cells slots tgt ls st h) (kf : ¬ 0 < x → Ev X y d mc ms Q cells slots pc' ls st h) : Ev X y d mc ms Q cells slots pc ls (vI x :: st) h := by
  obtain ⟨hd, rfl, ht⟩ := hd
  intro p e s m args below meth c H locs lsr C hC hS hl
  exact lv_if_gt C.1 C.2.1 hd ht (fun q => kt q p e s m args below meth c H locs lsr C hC hS hl) (fun q => kf q p e s m args below meth c H locs lsr C hC hS hl)
theorem e_icmp_gt {x y0 : Int32} {off : Int} {tgt : Nat} (hd : Br y.2.1 pc (.if_icmp .gt off) off pc' tgt) (kt : y0 < x → Ev X y d mc ms Q cells slots tgt ls st h) (kf : ¬ y0 < x → Ev X y d mc ms Q cells slots pc' ls st h) : Ev X y d mc ms Q cells slots pc ls (vI y0 :: vI x :: st) h := by
  obtain ⟨hd, rfl, ht⟩ := hd
  intro p e s m args below meth c H locs lsr C hC hS hl
  exact lv_icmp_gt C.1 C.2.1 hd ht (fun q => kt q p e s m args below meth c H locs lsr C hC hS hl) (fun q => kf q p e s m args below meth c H locs lsr C hC hS hl)
theorem e_if_le {x : Int32} {off : Int} {tgt : Nat} (hd : Br y.2.1 pc (.ifCond .le off) off pc' tgt) (kt : x ≤ 0 → Ev X y d mc ms Q cells slots tgt ls st h) (kf : ¬ x ≤ 0 → Ev X y d mc ms Q cells slots pc' ls st h) : Ev X y d mc ms Q cells slots pc ls (vI x :: st) h := by
  obtain ⟨hd, rfl, ht⟩ := hd
  intro p e s m args below meth c H locs lsr C hC hS hl
  exact lv_if_le C.1 C.2.1 hd ht (fun q => kt q p e s m args below meth c H locs lsr C hC hS hl) (fun q => kf q p e s m args below meth c H locs lsr C hC hS hl)
theorem e_icmp_le {x y0 : Int32} {off : Int} {tgt : Nat} (hd : Br y.2.1 pc (.if_icmp .le off) off pc' tgt) (kt : x ≤ y0 → Ev X y d mc ms Q cells slots tgt ls st h) (kf : ¬ x ≤ y0 → Ev X y d mc ms Q cells slots pc' ls st h) : Ev X y d mc ms Q cells slots pc ls (vI y0 :: vI x :: st) h := by
  obtain ⟨hd, rfl, ht⟩ := hd
  intro p e s m args below meth c H locs lsr C hC hS hl
  exact lv_icmp_le C.1 C.2.1 hd ht (fun q => kt q p e s m args below meth c H locs lsr C hC hS hl) (fun q => kf q p e s m args below meth c H locs lsr C hC hS hl)
theorem e_goto {off : Int} {tgt : Nat} (hd : Br y.2.1 pc (.goto off) off pc' tgt) (k : Ev X y d mc ms Q cells slots tgt ls st h) : Ev X y d mc ms Q cells slots pc ls st h := by
  obtain ⟨hd, rfl, ht⟩ := hd
  intro p e s m args below meth c H locs lsr C hC hS hl
  exact lv_goto C.1 C.2.1 hd ht (k p e s m args below meth c H locs lsr C hC hS hl)
theorem e_ifnull {r : Option Nat} {off : Int} {tgt : Nat} (hd : Br y.2.1 pc (.ifnull off) off pc' tgt) (kt : r = none → Ev X y d mc ms Q cells slots tgt ls st h) (kf : ∀ a, r = some a → Ev X y d mc ms Q cells slots pc' ls st h) : Ev X y d mc ms Q cells slots pc ls (vR r :: st) h := by
  obtain ⟨hd, rfl, ht⟩ := hd
  intro p e s m args below meth c H locs lsr C hC hS hl
  cases r with
  | none => exact lv_ifnullN C.1 C.2.1 hd ht (kt rfl p e s m args below meth c H locs lsr C hC hS hl)
  | some a => exact lv_ifnull C.1 C.2.1 hd (kf a rfl p e s m args below meth c H locs lsr C hC hS hl)
theorem e_ifnonnull {r : Option Nat} {off : Int} {tgt : Nat} (hd : Br y.2.1 pc (.ifnonnull off) off pc' tgt) (kt : ∀ a, r = some a → Ev X y d mc ms Q cells slots tgt ls st h) (kf : r = none → Ev X y d mc ms Q cells slots pc' ls st h) : Ev X y d mc ms Q cells slots pc ls (vR r :: st) h := by
  obtain ⟨hd, rfl, ht⟩ := hd
  intro p e s m args below meth c H locs lsr C hC hS hl
  cases r with
  | none => exact lv_ifnonnullN C.1 C.2.1 hd (kf rfl p e s m args below meth c H locs lsr C hC hS hl)
  | some a => exact lv_ifnonnull C.1 C.2.1 hd ht (kt a rfl p e s m args below meth c H locs lsr C hC hS hl)
theorem e_tableIn {dflt lo hi : Int} {offs : Array Int} {n : Nat} {x : Int32} {off : Int} {tgt : Nat} (hd : At y.2.1 pc (.tableswitch dflt lo hi offs) n pc') (h1 : ¬ x.toInt < lo) (h2 : ¬ hi < x.toInt) (ho : offs[(x.toInt - lo).toNat]? = some off) (ht : (pc : Int) + off = (tgt : Int)) (k : Ev X y d mc ms Q cells slots tgt ls st h) : Ev X y d mc ms Q cells slots pc ls (vI x :: st) h := by
  obtain ⟨hd, rfl⟩ := hd
  intro p e s m args below meth c H locs lsr C hC hS hl
  exact lv_tableIn C.1 C.2.1 hd h1 h2 ho ht (k p e s m args below meth c H locs lsr C hC hS hl)
theorem e_tableOut {dflt lo hi : Int} {offs : Array Int} {n : Nat} {x : Int32} {tgt : Nat} (hd : At y.2.1 pc (.tableswitch dflt lo hi offs) n pc') (h1 : x.toInt < lo ∨ hi < x.toInt) (ht : (pc : Int) + dflt = (tgt : Int)) (k : Ev X y d mc ms Q cells slots tgt ls st h) : Ev X y d mc ms Q cells slots pc ls (vI x :: st) h := by
  obtain ⟨hd, rfl⟩ := hd
  intro p e s m args below meth c H locs lsr C hC hS hl
  exact lv_tableOut C.1 C.2.1 hd h1 ht (k p e s m args below meth c H locs lsr C hC hS hl)
theorem e_lookup {dflt : Int} {ps : Array (Int × Int)} {n : Nat} {x : Int32} {off : Int} {tgt : Nat} (hd : At y.2.1 pc (.lookupswitch dflt ps) n pc') (hp : (ps.toList.zip (ps.toList.drop 1)).all (fun (a, next) => a.1 < next.1) = true) (ho : Op.lookupswitch.offset ps.toList dflt x.toInt = off) (ht : (pc : Int) + off = (tgt : Int)) (k : Ev X y d mc ms Q cells slots tgt ls st h) : Ev X y d mc ms Q cells slots pc ls (vI x :: st) h := by
  obtain ⟨hd, rfl⟩ := hd
  intro p e s m args below meth c H locs lsr C hC hS hl
  exact lv_lookup C.1 C.2.1 hd hp ho ht (k p e s m args below meth c H locs lsr C hC hS hl)
end R4
end
section
/-! what stays while the machine goes on; returns; contracts; calls -/
theorem Kn.warm {X : EX} {s U : State} (hW : s.WarmedH U.vm) (h : Kn X s) : Kn X U := by
  obtain ⟨h1, h2, h3, h4⟩ := h
  refine ⟨h1.moved hW.alike, fun w hw => ?_, fun C hC => (h3 C hC).moved hW.alike, va_Nw.warmC hW h4⟩
  have h5 := h2 w hw
  simp only [nestW, List.mem_cons, List.not_mem_nil, or_false] at hw
  rcases hw with rfl | rfl | rfl | rfl | rfl | rfl | rfl | rfl | rfl | rfl | rfl | rfl | rfl | rfl | rfl | rfl | rfl | rfl | rfl | rfl | rfl <;> first | exact va_Nw.warmM hW h5 | exact va_Nw.warmF hW h5
theorem Kn.same {X : EX} {u U : State} (hv : U.vm = u.vm) (h : Kn X u) : Kn X U := by
  obtain ⟨h1, h2, h3, h4⟩ := h
  have hal : u.vm.Alike U.vm := by rw [hv]; exact Vm.Alike.refl _
  refine ⟨h1.moved hal, fun w hw => ?_, fun C hC => (h3 C hC).moved hal, va_Nw.same rfl hv.symm h4⟩
  have h5 := h2 w hw
  simp only [nestW, List.mem_cons, List.not_mem_nil, or_false] at hw
  rcases hw with rfl | rfl | rfl | rfl | rfl | rfl | rfl | rfl | rfl | rfl | rfl | rfl | rfl | rfl | rfl | rfl | rfl | rfl | rfl | rfl | rfl <;> exact va_Nw.same rfl hv.symm h5
theorem Pre.moved {X : EX} {u U : State} {H : Heap} (hvm : u.vm.Alike U.vm) (h : Pre X u H) : Pre X U H := by
  obtain ⟨h1, h2, h3, h4, h5, h6⟩ := h
  exact ⟨fun i q hq => ⟨va_Z.moved hvm (h1 i q hq).1, va_T.moved hvm (h1 i q hq).2⟩, va_T.moved hvm h2, ⟨va_Z.moved hvm h3.1, va_T.moved hvm h3.2⟩, fun i q hq => va_T.moved hvm (h4 i q hq), va_Z.moved hvm h5, va_T.moved hvm h6⟩
theorem Pre.kept {X : EX} {U : State} {H H1 : Heap} (h : Pre X U H) (hq : ∀ a : Nat, a < H.size → ¬ AA X a → H1[a]? = H[a]?) : Pre X U H1 := by
  obtain ⟨h1, h2, h3, h4, h5, h6⟩ := h
  exact ⟨fun i q hi => ⟨va_Z.kept (h1 i q hi).1 hq, va_T.kept (h1 i q hi).2 hq⟩, va_T.kept h2 hq, ⟨va_Z.kept h3.1 hq, va_T.kept h3.2 hq⟩, fun i q hi => va_T.kept (h4 i q hi) hq, va_Z.kept h5 hq, va_T.kept h6 hq⟩
theorem cor_of {X : EX} {h : HP} {s t : State} {H : Heap} {locs : List Loc} (hK : Kn X s) (hP : Pre X s s.heap) (hC : CorH X h H) (hS : va_S (AA X) s.heap H locs) (ht : t.heap = H) (hW : s.WarmedH t.vm) : Cor X h t := by
  subst ht
  exact ⟨hC, hK.warm hW, (hP.moved hW.alike).kept hS.2.1⟩
theorem blind {X : EX} {h : HP} (av : List Value) : FrameBlind (va_Pc av (fun U => Cor X h U)) := fun a U g mk q => by
  obtain ⟨q1, q2, q3, q4⟩ := q
  exact ⟨q1, q2, Kn.same (u := U) (U := U.calling g mk a) rfl q3, q4.moved (U := U.calling g mk a) (Vm.Alike.refl _)⟩
/-- the locals at the beginning -/
def arL : Nat → List VV → ZL
  | _, [] => []
  | i, v :: vs => (i, some v) :: arL (if is2 (some v) then i + 2 else i + 1) vs
def szL : List VV → Nat
  | [] => 0
  | v :: vs => (if is2 (some v) then 2 else 1) + szL vs
theorem szL_eq {X : EX} (av : List VV) : (lg_sl (av.map (cv X))).length = szL av := by
  induction av with
  | nil => rfl
  | cons v vs ih =>
    unfold lg_sl at ih ⊢
    rw [List.map_cons, List.flatMap_cons, List.length_append, ih, cv_cat]
    show _ = (if is2 (some v) then 2 else 1) + szL vs
    cases is2 (some v) <;> simp
theorem arL_in {X : EX} (av : List VV) : ∀ (i0 i : Nat) (v : VV), gL (arL i0 av) i = some v → (i, cv X v) ∈ lv_args i0 (av.map (cv X)) := by
  induction av with
  | nil => intro i0 i v h; cases h
  | cons w vs ih =>
    intro i0 i v h
    unfold arL at h
    simp only [gL] at h
    rw [List.map_cons]
    unfold lv_args
    by_cases hi : i = i0
    · subst hi
      rw [if_pos rfl] at h
      cases h
      exact List.mem_cons_self
    · rw [if_neg hi] at h
      refine List.mem_cons_of_mem _ ?_
      have h2 := ih _ _ _ h
      rw [cv_cat]
      cases hw : is2 (some w)
      · rw [hw] at h2; exact h2
      · rw [hw] at h2; exact h2
theorem ct_of {X : EX} {y : MD} {d mc ms : Nat} {av : List VV} {h : HP} {Q : Option VV → HP → Prop} (hpl : plainName y.1.cls = true) (hlen : szL av ≤ y.2.2.1) (k : Ev X y d mc ms Q 0 0 0 (arL 0 av) [] h) : Ct X y d mc ms av h Q := by
  refine Met.ofW (cc := y.2.1) (maxL := y.2.2.1) (ret := y.2.2.2) (ws' := TT) hpl rfl ?_
  intro p e s m args below meth c s₁ B hml hv
  obtain ⟨rfl, hcor⟩ := hv
  have hts := atoms_spec (ws := wsM y) B.pre
  have hin := (name_of_methodNamed B.named B.method).1
  have hown : s.vm.findClass y.1.cls = some m.cls := findClass_of_methodNamed B.named
  rw [lg_entry_eq]
  refine k p e s m _ below meth c s.heap [] _ ⟨B.exec, B.bytes, hml, B.returns, hown, fun w hw => hts w (List.mem_cons_of_mem _ hw), B.notSynchronized, hin, hcor.2.1, hcor.2.2, ?_⟩ hcor.1 va_S.rf ⟨_, lv_entry (av.map (cv X)) (by rw [szL_eq]; exact hlen), arL_in av 0⟩
  rw [hcor.1.1]
  omega
section R5
variable {X : EX} {y : MD} {d mc ms : Nat} {Q : Option VV → HP → Prop} {cells slots pc pc' : Nat} {ls : ZL} {st : List VV} {h : HP}
theorem e_nret {x : Int32} {ty : FieldType} (hd : At y.2.1 pc .ireturn 1 pc') (hr : y.2.2.2 = some ty) (hn : narrow ty (.int x) = .int x) (hc : cells ≤ mc) (hs : slots ≤ ms) (hQ : Q (some (vI x)) h) : Ev X y d mc ms Q cells slots pc ls [vI x] h := by
  obtain ⟨hd, rfl⟩ := hd
  intro p e s m args below meth c H locs lsr C hC hS hl
  obtain ⟨hx, hb, hml, hret, hown, hts, hlk, hnm, hK, hP, hsz⟩ := C
  refine W.widen hc hs ?_
  exact W.zret (ty := ty) hx hb (hret.trans hr) hn (fun t ht hW => ⟨⟨some (vI x), h, rfl, hQ, cor_of hK hP hC hS ht hW⟩, hS.F ht⟩) hS.2.2 hd
theorem e_ireturn {x : Int32} (hd : At y.2.1 pc .ireturn 1 pc') (hr : y.2.2.2 = some .int) (hc : cells ≤ mc) (hs : slots ≤ ms) (hQ : Q (some (vI x)) h) : Ev X y d mc ms Q cells slots pc ls [vI x] h := e_nret hd hr rfl hc hs hQ
theorem e_zreturn {x : Int32} (hd : At y.2.1 pc .ireturn 1 pc') (hr : y.2.2.2 = some .boolean) (hx : x = 0 ∨ x = 1) (hc : cells ≤ mc) (hs : slots ≤ ms) (hQ : Q (some (vI x)) h) : Ev X y d mc ms Q cells slots pc ls [vI x] h := e_nret hd hr (by rcases hx with rfl | rfl <;> decide) hc hs hQ
theorem e_lreturn {x : Int64} (hd : At y.2.1 pc .lreturn 1 pc') (hr : y.2.2.2 = some .long) (hc : cells ≤ mc) (hs : slots ≤ ms) (hQ : Q (some (vL x)) h) : Ev X y d mc ms Q cells slots pc ls [vL x] h := by
  obtain ⟨hd, rfl⟩ := hd
  intro p e s m args below meth c H locs lsr C hC hS hl
  obtain ⟨hx, hb, hml, hret, hown, hts, hlk, hnm, hK, hP, hsz⟩ := C
  refine W.widen hc hs ?_
  exact W.lret hx hb (hret.trans hr) (fun t ht hW => ⟨⟨some (vL x), h, rfl, hQ, cor_of hK hP hC hS ht hW⟩, hS.F ht⟩) hS.2.2 hd
theorem e_areturn {r : Option Nat} {C0 : String} (hd : At y.2.1 pc .areturn 1 pc') (hr : y.2.2.2 = some (.object C0)) (hc : cells ≤ mc) (hs : slots ≤ ms) (hQ : Q (some (vR r)) h) : Ev X y d mc ms Q cells slots pc ls [vR r] h := by
  obtain ⟨hd, rfl⟩ := hd
  intro p e s m args below meth c H locs lsr C hC hS hl
  obtain ⟨hx, hb, hml, hret, hown, hts, hlk, hnm, hK, hP, hsz⟩ := C
  refine W.widen hc hs ?_
  refine W.aret (v := cv X (vR r)) hx hb (hret.trans hr) (Or.inl ⟨_, rfl⟩) ?_ (fun t ht hW => ⟨⟨some (vR r), h, rfl, hQ, cor_of hK hP hC hS ht hW⟩, hS.F ht⟩) hS.2.2 hd
  cases r with
  | none => exact Or.inl rfl
  | some a => exact Or.inr ⟨_, rfl⟩
theorem e_areturnA {r : Option Nat} {C0 : FieldType} (hd : At y.2.1 pc .areturn 1 pc') (hr : y.2.2.2 = some (.array C0)) (hc : cells ≤ mc) (hs : slots ≤ ms) (hQ : Q (some (vR r)) h) : Ev X y d mc ms Q cells slots pc ls [vR r] h := by
  obtain ⟨hd, rfl⟩ := hd
  intro p e s m args below meth c H locs lsr C hC hS hl
  obtain ⟨hx, hb, hml, hret, hown, hts, hlk, hnm, hK, hP, hsz⟩ := C
  refine W.widen hc hs ?_
  refine W.aret (v := cv X (vR r)) hx hb (hret.trans hr) (Or.inr ⟨_, rfl⟩) ?_ (fun t ht hW => ⟨⟨some (vR r), h, rfl, hQ, cor_of hK hP hC hS ht hW⟩, hS.F ht⟩) hS.2.2 hd
  cases r with
  | none => exact Or.inl rfl
  | some a => exact Or.inr ⟨_, rfl⟩
theorem e_return (hd : At y.2.1 pc .return_ 1 pc') (hr : y.2.2.2 = none) (hc : cells ≤ mc) (hs : slots ≤ ms) (hQ : Q none h) : Ev X y d mc ms Q cells slots pc ls [] h := by
  obtain ⟨hd, rfl⟩ := hd
  intro p e s m args below meth c H locs lsr C hC hS hl
  obtain ⟨hx, hb, hml, hret, hown, hts, hlk, hnm, hK, hP, hsz⟩ := C
  refine W.widen hc hs ?_
  exact W.vret hx hb (hret.trans hr) (fun t ht hW => ⟨⟨none, h, rfl, hQ, cor_of hK hP hC hS ht hW⟩, hS.F ht⟩) hS.2.2 hd
theorem e_widen {k n : Nat} (h1 : cells ≤ k) (h2 : slots ≤ n) (kk : Ev X y d mc ms Q k n pc ls st h) : Ev X y d mc ms Q cells slots pc ls st h := by
  intro p e s m args below meth c H locs lsr C hC hS hl
  exact W.widen h1 h2 (kk p e s m args below meth c H locs lsr C hC hS hl)
end R5
/-- an object or array of kind t of ours -/
def Is (h : HP) (a t : Nat) : Prop := 32 ≤ a ∧ a < hZ h ∧ hT h a = t
theorem ent_obj {X : EX} {h : HP} {a ci : Nat} (hc : ci < 11) (h1 : hT h a = ci + 1) : ent X h a = .inr (ci, (List.range (nF ci)).map (fun i => if isR ci i then va_rf ((hR h a i).map (ad X)) else .int (hI h a i))) := by
  unfold ent
  rw [h1, if_pos (by omega)]
  rfl
theorem ent_int {X : EX} {h : HP} {a t : Nat} (ht : t = 12 ∨ t = 13) (h1 : hT h a = t) : ent X h a = .inl (xA X t, hN h a, .inl (hI h a)) := by
  unfold ent
  rw [h1, if_neg (by omega), if_neg (by omega), if_pos (by omega)]
theorem ent_long {X : EX} {h : HP} {a : Nat} (h1 : hT h a = 14) : ent X h a = .inl (xA X 14, hN h a, .inr (.inl (hL h a))) := by
  unfold ent
  rw [h1, if_neg (by omega), if_pos rfl]
theorem ent_ref {X : EX} {h : HP} {a t : Nat} (ht : 16 ≤ t) (h1 : hT h a = t) : ent X h a = .inl (xA X t, hN h a, .inr (.inr (.inr (.inr (fun i => (hR h a i).map (ad X)))))) := by
  unfold ent
  rw [h1, if_neg (by omega), if_neg (by omega), if_neg (by omega)]
/-- a class of the table -/
def Cl (ci : Nat) (C : String) : Prop := ci < 11 ∧ ∃ r, vwCl[ci]? = some r ∧ r.1 = C
/-- links of calls, and what the tables say of the callee -/
def MdOk (y : MD) : Prop := cw y ∈ TT ∧ (y.1.cls ≠ "java/lang/invoke/MethodHandle" ∧ y.1.cls ≠ "java/lang/invoke/VarHandle") ∧ .initialized y.1.cls ∈ TT
def npar (y : MD) (n : Nat) : Prop := (parseMethodDescriptor y.1.desc).map (fun d => d.parameters.length) = some n
def CalV (own : String) (ix ci : Nat) (y : MD) (n : Nat) : Prop := MdOk y ∧ npar y n ∧ Cl ci y.1.cls ∧ .methodLink own ix y.1 ∈ TT ∧ .instanceMethod y.1 ∈ TT ∧ .selects y.1.cls y.1 y.1 ∈ TT
def CalS (own : String) (ix : Nat) (y : MD) (n : Nat) : Prop := MdOk y ∧ npar y n ∧ .methodLink own ix y.1 ∈ TT ∧ .static y.1 ∈ TT
def CalSN (own : String) (ix : Nat) (y : MD) (n : Nat) : Prop := MdOk y ∧ npar y n ∧ (∃ H : String, .methodLinkNest own ix y.1 H ∈ nestW) ∧ .static y.1 ∈ TT
def CalI (own : String) (ix : Nat) (y : MD) (n : Nat) : Prop := MdOk y ∧ npar y n ∧ y.2.2.2 = none ∧ y.1.name = "<init>" ∧ .methodLink own ix y.1 ∈ TT ∧ .instanceMethod y.1 ∈ TT
def CalIN (own : String) (ix : Nat) (y : MD) (n : Nat) : Prop := MdOk y ∧ npar y n ∧ y.2.2.2 = none ∧ y.1.name = "<init>" ∧ (∃ H : String, .methodLinkNest own ix y.1 H ∈ nestW) ∧ .instanceMethod y.1 ∈ TT
theorem goodM {y : MD} (h : MdOk y) : ∀ w ∈ wsM y, w ∈ TT := fun w hw => by
  rcases List.mem_cons.mp hw with rfl | hw
  · exact h.1
  · exact hw
/-- categories of the stack below a call -/
def catL (st : List VV) : Nat := (st.map (fun v => if is2 (some v) then 2 else 1)).sum
theorem catL_eq {X : EX} (st : List VV) : ((st.map (cv X)).map fun v => v.category).sum = catL st := by
  unfold catL
  rw [List.map_map]
  congr 1
  apply List.map_congr_left
  intro v _
  exact cv_cat
section R6
variable {p : Program} {l : Launch} {e : Env} {R : Room} {s : State} {m : MethodId} {args : Array Value} {below : List Frame} {meth : Method} {c : Code} {H : Heap} {locs : List Loc} {cells slots : Nat} {Qs : State → Prop}
theorem ev_call {X : EX} {Q' : Option VV → HP → Prop} {pc : Nat} {lsr : Array Slot} {st0 rest : List Value} {mc ms : Nat} {a : Array Value} (hr : va_Run p l e R s m args below meth c H locs cells slots mc ms (F0 m pc lsr st0) rest (Qm X Q' a) (AA X)) (hS : va_S (AA X) s.heap H locs)
    (kk : ∀ (v : Option VV) (h' : HP) (H1 : Heap) (locs1 : List Loc), Q' v h' → CorH X h' H1 → va_S (AA X) s.heap H1 locs1 → W p l e R s m args below meth c H1 locs1 (cells + mc) (slots + ms) Qs (F0 m (pc + 3) lsr ((v.map (cv X)).toList ++ rest))) : W p l e R s m args below meth c H locs cells slots Qs (F0 m pc lsr st0) := by
  intro T hT X0
  obtain ⟨v, st₀, t, T', L, h0, X', hL, e1, e2, ⟨⟨v', h', hv, hq, hc⟩, hz, hk⟩, st⟩ := hr T hT X0
  cases hv
  rw [h0] at hz hk
  obtain ⟨t2, a1, b1⟩ := kk v' h' T'.heap (locs ++ L) hq (by rw [e1]; exact hc.1)
    ⟨Nat.le_trans hS.1 (by rw [e1]; exact hz), fun q h1 h2 => by rw [e1, hk q (Nat.lt_of_lt_of_le h1 hS.1) h2]; exact hS.2.1 q h1 h2, fun q hq => by
      rcases List.mem_append.mp hq with h | h
      · exact hS.2.2 q h
      · exact hL q h⟩ T' rfl X'
  exact ⟨t2, st t2 a1, b1⟩
end R6
section R7
variable {X : EX} {y : MD} {d mc ms : Nat} {Q : Option VV → HP → Prop} {cells slots pc pc' : Nat} {ls : ZL} {st rest : List VV} {h : HP} {y' : MD} {d' mc' ms' n ix ci : Nat} {as : List VV} {Q' : Option VV → HP → Prop}
theorem rest_cons {X : EX} (v : Option VV) (rest : List VV) : (v.map (cv X)).toList ++ rest.map (cv X) = (v.toList ++ rest).map (cv X) := by
  cases v <;> rfl
theorem cor_call {X : EX} {h : HP} {s : State} {H : Heap} {locs : List Loc} (hK : Kn X s) (hP : Pre X s s.heap) (hC : CorH X h H) (hS : va_S (AA X) s.heap H locs) (As : List Value) : PreS s H (va_Pc As (fun U => Cor X h U)) As :=
  ⟨blind As, fun U hU hW => ⟨rfl, cor_of hK hP hC hS hU hW⟩⟩
theorem room_ok {y' : MD} (hml : y'.2.2.1 ≤ 12) (hdd : d' + 1 ≤ d) : (rmd d' mc' ms').frames + 1 ≤ (rmd d mc ms).frames ∧ 8 + (y'.2.2.1 + 11) + (rmd d' mc' ms').locals ≤ (rmd d mc ms).locals := by
  refine ⟨hdd, ?_⟩
  show 8 + (y'.2.2.1 + 11) + 40 * d' ≤ 40 * d
  omega
theorem e_invv {a : Nat} (hd : At y.2.1 pc (.invokevirtual ix) 3 pc') (cal : CalV y.1.cls ix ci y' n) (hc : Ct X y' d' mc' ms' (vR (some a) :: as) h Q') (hst : st = as.reverse ++ vR (some a) :: rest) (hn : as.length = n) (hT : Is h a (ci + 1)) (hml : y'.2.2.1 ≤ 12) (hdd : d' + 1 ≤ d) (hcc : cells + mc' ≤ mc) (hss : slots + ms' ≤ ms) (hcat : catL rest ≤ 8)
    (k : ∀ v h', Q' v h' → Ev X y d mc ms Q (cells + mc') (slots + ms') pc' ls (v.toList ++ rest) h') : Ev X y d mc ms Q cells slots pc ls st h := by
  obtain ⟨hd, rfl⟩ := hd
  intro p e s m args below meth c H locs lsr C hC hS hl
  obtain ⟨lv, hv, -⟩ := id hl
  obtain ⟨hx, hb, hmx, hret, hown, hts, hlk, hnm, hK, hP, hsz⟩ := id C
  obtain ⟨hok, hnp, ⟨hci, r, hr, hrc⟩, w1, w2, w3⟩ := cal
  have he := wl_get (X := X) hT.1 hT.2.1
  rw [ent_obj hci hT.2.2] at he
  have hgood : GoodIn TT (wsV y.1.cls ix y'.1.cls y'.1 (wsM y')) := tt_goodIn (fun w hw => by
    rcases List.mem_append.mp hw with hw | hw
    · simp only [List.mem_cons, List.not_mem_nil, or_false] at hw
      rcases hw with rfl | rfl | rfl | rfl
      · exact w1
      · exact w2
      · exact w3
      · exact hok.2.2
    · exact goodM hok w hw)
  have hrv := va_recv hK.1 hC.2.2 hr he
  rw [hrc] at hrv
  have hpr : PreV s H y'.1.cls (ad X a) (va_Pc ((vR (some a) :: as).map (cv X)) (fun U => Cor X h U)) (as.map (cv X)) := ⟨blind _, hrv, fun U hU hW => ⟨rfl, cor_of hK hP hC hS hU hW⟩⟩
  have hstk : st.map (cv X) = (as.map (cv X)).reverse ++ .ref (ad X a) :: rest.map (cv X) := by
    rw [hst, List.map_append, List.map_reverse]
    rfl
  have run := va_runV (l := xl X) (e := e) (R := rmd d mc ms) (below := below) (meth := meth) (locs := locs) (cells := cells) (slots := slots) (rest := rest.map (cv X)) (g := F0 m pc lsr (st.map (cv X))) ⟨hx, hb, hmx, hown, hts⟩ hc
    (cwV n hts hgood rfl rfl rfl ⟨rfl, hok.2.1.1, hok.2.1.2, hnp⟩ (room_ok hml hdd)) hpr rfl (by rw [List.length_map]; exact hn) hv.1 hstk (lv_room (by rw [catL_eq]; exact hcat)) (by rw [hb] at *; exact hd) ⟨hcc, hss⟩
  refine ev_call run hS (fun v h' H1 locs1 q hC' hS' => ?_)
  rw [rest_cons]
  exact k v h' q p e s m args below meth c H1 locs1 lsr C hC' hS' hl
theorem e_invs (hd : At y.2.1 pc (.invokestatic ix) 3 pc') (cal : CalS y.1.cls ix y' n) (hc : Ct X y' d' mc' ms' as h Q') (hst : st = as.reverse ++ rest) (hn : as.length = n) (hml : y'.2.2.1 ≤ 12) (hdd : d' + 1 ≤ d) (hcc : cells + mc' ≤ mc) (hss : slots + ms' ≤ ms) (hcat : catL rest ≤ 8)
    (k : ∀ v h', Q' v h' → Ev X y d mc ms Q (cells + mc') (slots + ms') pc' ls (v.toList ++ rest) h') : Ev X y d mc ms Q cells slots pc ls st h := by
  obtain ⟨hd, rfl⟩ := hd
  intro p e s m args below meth c H locs lsr C hC hS hl
  obtain ⟨lv, hv, -⟩ := id hl
  obtain ⟨hx, hb, hmx, hret, hown, hts, hlk, hnm, hK, hP, hsz⟩ := id C
  obtain ⟨hok, hnp, w1, w2⟩ := cal
  have hgood : GoodIn TT (va_wsS y.1.cls ix y'.1 (wsM y')) := tt_goodIn (fun w hw => by
    rcases List.mem_append.mp hw with hw | hw
    · simp only [List.mem_cons, List.not_mem_nil, or_false] at hw
      rcases hw with rfl | rfl | rfl
      · exact w1
      · exact w2
      · exact hok.2.2
    · exact goodM hok w hw)
  have hstk : st.map (cv X) = (as.map (cv X)).reverse ++ rest.map (cv X) := by
    rw [hst, List.map_append, List.map_reverse]
  have run := va_runS (l := xl X) (e := e) (R := rmd d mc ms) (below := below) (meth := meth) (locs := locs) (cells := cells) (slots := slots) (rest := rest.map (cv X)) (g := F0 m pc lsr (st.map (cv X))) ⟨hx, hb, hmx, hown, hts⟩ hc
    (va_cwS n hts hgood rfl rfl rfl ⟨hok.2.1.1, hok.2.1.2, hnp⟩ (room_ok hml hdd)) (cor_call hK hP hC hS _) rfl (by rw [List.length_map]; exact hn) hv.1 hstk (lv_room (by rw [catL_eq]; exact hcat)) hd ⟨hcc, hss⟩
  refine ev_call run hS (fun v h' H1 locs1 q hC' hS' => ?_)
  rw [rest_cons]
  exact k v h' q p e s m args below meth c H1 locs1 lsr C hC' hS' hl
theorem e_invsN (hd : At y.2.1 pc (.invokestatic ix) 3 pc') (cal : CalSN y.1.cls ix y' n) (hc : Ct X y' d' mc' ms' as h Q') (hst : st = as.reverse ++ rest) (hn : as.length = n) (hml : y'.2.2.1 ≤ 12) (hdd : d' + 1 ≤ d) (hcc : cells + mc' ≤ mc) (hss : slots + ms' ≤ ms) (hcat : catL rest ≤ 8)
    (k : ∀ v h', Q' v h' → Ev X y d mc ms Q (cells + mc') (slots + ms') pc' ls (v.toList ++ rest) h') : Ev X y d mc ms Q cells slots pc ls st h := by
  obtain ⟨hd, rfl⟩ := hd
  intro p e s m args below meth c H locs lsr C hC hS hl
  obtain ⟨lv, hv, -⟩ := id hl
  obtain ⟨hx, hb, hmx, hret, hown, hts, hlk, hnm, hK, hP, hsz⟩ := id C
  obtain ⟨hok, hnp, ⟨_, w1⟩, w2⟩ := cal
  have hstk : st.map (cv X) = (as.map (cv X)).reverse ++ rest.map (cv X) := by
    rw [hst, List.map_append, List.map_reverse]
  have run := va_runSN (l := xl X) (e := e) (R := rmd d mc ms) (below := below) (meth := meth) (locs := locs) (cells := cells) (slots := slots) (rest := rest.map (cv X)) (g := F0 m pc lsr (st.map (cv X))) ⟨hx, hb, hmx, hown, hts⟩ hc
    ⟨va_cnB (y := y'.1) n hts (tt_goodIn (goodM hok)) rfl rfl rfl (hK.2.1 _ w1) (hts _ hok.2.2) ⟨hok.2.1.1, hok.2.1.2, hnp⟩ (room_ok hml hdd), hts _ w2, trivial⟩ (cor_call hK hP hC hS _) rfl (by rw [List.length_map]; exact hn) hv.1 hstk (lv_room (by rw [catL_eq]; exact hcat)) hd ⟨hcc, hss⟩
  refine ev_call run hS (fun v h' H1 locs1 q hC' hS' => ?_)
  rw [rest_cons]
  exact k v h' q p e s m args below meth c H1 locs1 lsr C hC' hS' hl
theorem e_invi {a : Nat} (hd : At y.2.1 pc (.invokespecial ix) 3 pc') (cal : CalI y.1.cls ix y' n) (hc : Ct X y' d' mc' ms' (vR (some a) :: as) h Q') (hst : st = as.reverse ++ vR (some a) :: rest) (hn : as.length = n) (hml : y'.2.2.1 ≤ 12) (hdd : d' + 1 ≤ d) (hcc : cells + mc' ≤ mc) (hss : slots + ms' ≤ ms) (hcat : catL rest ≤ 8)
    (k : ∀ v h', Q' v h' → Ev X y d mc ms Q (cells + mc') (slots + ms') pc' ls (v.toList ++ rest) h') : Ev X y d mc ms Q cells slots pc ls st h := by
  obtain ⟨hd, rfl⟩ := hd
  intro p e s m args below meth c H locs lsr C hC hS hl
  obtain ⟨lv, hv, -⟩ := id hl
  obtain ⟨hx, hb, hmx, hret, hown, hts, hlk, hnm, hK, hP, hsz⟩ := id C
  obtain ⟨hok, hnp, hrn, hy1, w1, w2⟩ := cal
  have hstk : st.map (cv X) = (as.map (cv X)).reverse ++ .ref (ad X a) :: rest.map (cv X) := by
    rw [hst, List.map_append, List.map_reverse]
    rfl
  have hcw : wsM y' = Cond.code y'.1 y'.2.1 y'.2.2.1 none :: TT := by unfold wsM cw; rw [hrn]
  have run := va_runI (l := xl X) (e := e) (R := rmd d mc ms) (below := below) (meth := meth) (locs := locs) (cells := cells) (slots := slots) (b := ad X a) (As := as.map (cv X)) (rest := rest.map (cv X)) (g := F0 m pc lsr (st.map (cv X))) ⟨hx, hb, hmx, hown, hts⟩ hc
    (cwI n hts (tt_goodIn (goodM hok)) hcw rfl rfl (hts _ hok.2.2) (hts _ w1) (hts _ w2) hy1 ⟨hok.2.1.1, hok.2.1.2, hnp⟩ (room_ok hml hdd)) (cor_call hK hP hC hS _) rfl (by rw [List.length_map]; exact hn) hv.1 hstk (lv_room (by rw [catL_eq]; exact hcat)) hd ⟨hcc, hss⟩
  refine ev_call run hS (fun v h' H1 locs1 q hC' hS' => ?_)
  rw [rest_cons]
  exact k v h' q p e s m args below meth c H1 locs1 lsr C hC' hS' hl
theorem e_inviN {a : Nat} (hd : At y.2.1 pc (.invokespecial ix) 3 pc') (cal : CalIN y.1.cls ix y' n) (hc : Ct X y' d' mc' ms' (vR (some a) :: as) h Q') (hst : st = as.reverse ++ vR (some a) :: rest) (hn : as.length = n) (hml : y'.2.2.1 ≤ 12) (hdd : d' + 1 ≤ d) (hcc : cells + mc' ≤ mc) (hss : slots + ms' ≤ ms) (hcat : catL rest ≤ 8)
    (k : ∀ v h', Q' v h' → Ev X y d mc ms Q (cells + mc') (slots + ms') pc' ls (v.toList ++ rest) h') : Ev X y d mc ms Q cells slots pc ls st h := by
  obtain ⟨hd, rfl⟩ := hd
  intro p e s m args below meth c H locs lsr C hC hS hl
  obtain ⟨lv, hv, -⟩ := id hl
  obtain ⟨hx, hb, hmx, hret, hown, hts, hlk, hnm, hK, hP, hsz⟩ := id C
  obtain ⟨hok, hnp, hrn, hy1, ⟨_, w1⟩, w2⟩ := cal
  have hstk : st.map (cv X) = (as.map (cv X)).reverse ++ .ref (ad X a) :: rest.map (cv X) := by
    rw [hst, List.map_append, List.map_reverse]
    rfl
  have hcw : wsM y' = Cond.code y'.1 y'.2.1 y'.2.2.1 none :: TT := by unfold wsM cw; rw [hrn]
  have run := va_runIN (l := xl X) (e := e) (R := rmd d mc ms) (below := below) (meth := meth) (locs := locs) (cells := cells) (slots := slots) (b := ad X a) (As := as.map (cv X)) (rest := rest.map (cv X)) (g := F0 m pc lsr (st.map (cv X))) ⟨hx, hb, hmx, hown, hts⟩ hc
    ⟨va_cnB (y := y'.1) n hts (tt_goodIn (goodM hok)) hcw rfl rfl (hK.2.1 _ w1) (hts _ hok.2.2) ⟨hok.2.1.1, hok.2.1.2, hnp⟩ (room_ok hml hdd), hy1, hts _ w2⟩ (cor_call hK hP hC hS _) rfl (by rw [List.length_map]; exact hn) hv.1 hstk (lv_room (by rw [catL_eq]; exact hcat)) hd ⟨hcc, hss⟩
  refine ev_call run hS (fun v h' H1 locs1 q hC' hS' => ?_)
  rw [rest_cons]
  exact k v h' q p e s m args below meth c H1 locs1 lsr C hC' hS' hl
/-- invokespecial java/lang/Object.<init> -/
theorem e_objInit {a : Nat} (hd : At y.2.1 pc (.invokespecial ix) 3 pc') (w1 : .methodLink y.1.cls ix Lib.objectInit ∈ TT) (w2 : .instanceMethod Lib.objectInit ∈ TT) (w3 : .code Lib.objectInit ⟨#[0xb1]⟩ 1 none ∈ TT) (hdd : 1 ≤ d) (hcat : catL st ≤ 8)
    (k : Ev X y d mc ms Q cells slots pc' ls st h) : Ev X y d mc ms Q cells slots pc ls (vR (some a) :: st) h := by
  obtain ⟨hd, rfl⟩ := hd
  intro p e s m args below meth c H locs lsr C hC hS hl
  obtain ⟨lv, hv, -⟩ := id hl
  obtain ⟨hx, hb, hmx, hret, hown, hts, hlk, hnm, hK, hP, hsz⟩ := id C
  refine W.objInit hx hb hown (hts _ w1) (hts _ w2) (hts _ w3) rfl (by rw [hmx]; exact hv.1) rfl hd hdd ?_ (k p e s m args below meth c H locs lsr C hC hS hl)
  rw [catL_eq]
  show 2 * 0 + catL st + 12 ≤ 40 * d
  omega
end R7
end
section
/-! RULES over the heap: fields, arrays, new cells (written by wip/p45/gen6.py) -/
theorem uw_0 : u_ws RX0 TX0 6 = ([68, 70, 72, 74, 76, 78] : List Nat).filterMap (fun i => lw_tbl[i]?) := by decide +kernel
theorem uv_0 : ∀ w ∈ u_ws RX0 TX0 6, w ∈ TT := by
  intro w hw
  have hg : (u_ws RX0 TX0 6).all goodWord = true := by decide +kernel
  have h1 := List.all_eq_true.mp hg w hw
  rw [uw_0] at hw
  obtain ⟨j, -, hj⟩ := List.mem_filterMap.mp hw
  exact tt_of j hj h1
theorem uw_1 : u_ws RX1 TX1 7 = ([701, 703, 705, 707, 709, 711, 713] : List Nat).filterMap (fun i => lw_tbl[i]?) := by decide +kernel
theorem uv_1 : ∀ w ∈ u_ws RX1 TX1 7, w ∈ TT := by
  intro w hw
  have hg : (u_ws RX1 TX1 7).all goodWord = true := by decide +kernel
  have h1 := List.all_eq_true.mp hg w hw
  rw [uw_1] at hw
  obtain ⟨j, -, hj⟩ := List.mem_filterMap.mp hw
  exact tt_of j hj h1
theorem uw_2 : u_ws RX2 TX2 1 = ([90] : List Nat).filterMap (fun i => lw_tbl[i]?) := by decide +kernel
theorem uv_2 : ∀ w ∈ u_ws RX2 TX2 1, w ∈ TT := by
  intro w hw
  have hg : (u_ws RX2 TX2 1).all goodWord = true := by decide +kernel
  have h1 := List.all_eq_true.mp hg w hw
  rw [uw_2] at hw
  obtain ⟨j, -, hj⟩ := List.mem_filterMap.mp hw
  exact tt_of j hj h1
theorem uw_3 : u_ws RX3 TX3 4 = ([134, 136, 138, 140] : List Nat).filterMap (fun i => lw_tbl[i]?) := by decide +kernel
theorem uv_3 : ∀ w ∈ u_ws RX3 TX3 4, w ∈ TT := by
  intro w hw
  have hg : (u_ws RX3 TX3 4).all goodWord = true := by decide +kernel
  have h1 := List.all_eq_true.mp hg w hw
  rw [uw_3] at hw
  obtain ⟨j, -, hj⟩ := List.mem_filterMap.mp hw
  exact tt_of j hj h1
theorem uw_4 : u_ws RX4 TX4 4 = ([372, 374, 376, 378] : List Nat).filterMap (fun i => lw_tbl[i]?) := by decide +kernel
theorem uv_4 : ∀ w ∈ u_ws RX4 TX4 4, w ∈ TT := by
  intro w hw
  have hg : (u_ws RX4 TX4 4).all goodWord = true := by decide +kernel
  have h1 := List.all_eq_true.mp hg w hw
  rw [uw_4] at hw
  obtain ⟨j, -, hj⟩ := List.mem_filterMap.mp hw
  exact tt_of j hj h1
theorem uw_5 : u_ws RX5 TX5 3 = ([156, 158, 160] : List Nat).filterMap (fun i => lw_tbl[i]?) := by decide +kernel
theorem uv_5 : ∀ w ∈ u_ws RX5 TX5 3, w ∈ TT := by
  intro w hw
  have hg : (u_ws RX5 TX5 3).all goodWord = true := by decide +kernel
  have h1 := List.all_eq_true.mp hg w hw
  rw [uw_5] at hw
  obtain ⟨j, -, hj⟩ := List.mem_filterMap.mp hw
  exact tt_of j hj h1
theorem uw_6 : u_ws RX6 TX6 1 = ([126] : List Nat).filterMap (fun i => lw_tbl[i]?) := by decide +kernel
theorem uv_6 : ∀ w ∈ u_ws RX6 TX6 1, w ∈ TT := by
  intro w hw
  have hg : (u_ws RX6 TX6 1).all goodWord = true := by decide +kernel
  have h1 := List.all_eq_true.mp hg w hw
  rw [uw_6] at hw
  obtain ⟨j, -, hj⟩ := List.mem_filterMap.mp hw
  exact tt_of j hj h1
theorem uw_7 : u_ws RX7 TX7 4 = ([107, 109, 111, 113] : List Nat).filterMap (fun i => lw_tbl[i]?) := by decide +kernel
theorem uv_7 : ∀ w ∈ u_ws RX7 TX7 4, w ∈ TT := by
  intro w hw
  have hg : (u_ws RX7 TX7 4).all goodWord = true := by decide +kernel
  have h1 := List.all_eq_true.mp hg w hw
  rw [uw_7] at hw
  obtain ⟨j, -, hj⟩ := List.mem_filterMap.mp hw
  exact tt_of j hj h1
theorem uw_8 : u_ws RX8 TX8 9 = ([177, 179, 181, 183, 185, 187, 189, 191, 193] : List Nat).filterMap (fun i => lw_tbl[i]?) := by decide +kernel
theorem uv_8 : ∀ w ∈ u_ws RX8 TX8 9, w ∈ TT := by
  intro w hw
  have hg : (u_ws RX8 TX8 9).all goodWord = true := by decide +kernel
  have h1 := List.all_eq_true.mp hg w hw
  rw [uw_8] at hw
  obtain ⟨j, -, hj⟩ := List.mem_filterMap.mp hw
  exact tt_of j hj h1
theorem uw_9 : u_ws RX9 TX9 11 = ([507, 509, 511, 513, 515, 517, 519, 521, 523, 525, 527] : List Nat).filterMap (fun i => lw_tbl[i]?) := by decide +kernel
theorem uv_9 : ∀ w ∈ u_ws RX9 TX9 11, w ∈ TT := by
  intro w hw
  have hg : (u_ws RX9 TX9 11).all goodWord = true := by decide +kernel
  have h1 := List.all_eq_true.mp hg w hw
  rw [uw_9] at hw
  obtain ⟨j, -, hj⟩ := List.mem_filterMap.mp hw
  exact tt_of j hj h1
theorem uw_10 : u_ws RJx4a65c TJx4a65c 3 = ([484, 480, 482] : List Nat).filterMap (fun i => lw_tbl[i]?) := by decide +kernel
theorem uv_10 : ∀ w ∈ u_ws RJx4a65c TJx4a65c 3, w ∈ TT := by
  intro w hw
  have hg : (u_ws RJx4a65c TJx4a65c 3).all goodWord = true := by decide +kernel
  have h1 := List.all_eq_true.mp hg w hw
  rw [uw_10] at hw
  obtain ⟨j, -, hj⟩ := List.mem_filterMap.mp hw
  exact tt_of j hj h1
theorem cl_ok : ∀ (ci : Nat) (r : vw_C), vwCl[ci]? = some r → (∀ w ∈ u_ws r.1 r.2.1 r.2.2, w ∈ TT) ∧ (∀ k, k < r.2.2 → parseFieldDescriptor (r.2.1 k).2.2.1 = some (tyF ci k)) ∧ (∀ a, a < r.2.2 → ∀ b, b < r.2.2 → a ≠ b → (r.2.1 a).2.1 ≠ (r.2.1 b).2.1) ∧ r.2.2 = nF ci ∧ ci < 11 := by
  intro ci r h
  match ci, h with
  | 0, h => cases h; exact ⟨uv_0, tyX0_ok, nmX0, rfl, by decide⟩
  | 1, h => cases h; exact ⟨uv_1, tyX1_ok, nmX1, rfl, by decide⟩
  | 2, h => cases h; exact ⟨uv_2, tyX2_ok, nmX2, rfl, by decide⟩
  | 3, h => cases h; exact ⟨uv_3, tyX3_ok, nmX3, rfl, by decide⟩
  | 4, h => cases h; exact ⟨uv_4, tyX4_ok, nmX4, rfl, by decide⟩
  | 5, h => cases h; exact ⟨uv_5, tyX5_ok, nmX5, rfl, by decide⟩
  | 6, h => cases h; exact ⟨uv_6, tyX6_ok, nmX6, rfl, by decide⟩
  | 7, h => cases h; exact ⟨uv_7, tyX7_ok, nmX7, rfl, by decide⟩
  | 8, h => cases h; exact ⟨uv_8, tyX8_ok, nmX8, rfl, by decide⟩
  | 9, h => cases h; exact ⟨uv_9, tyX9_ok, nmX9, rfl, by decide⟩
  | 10, h => cases h; exact ⟨uv_10, tyJx4a65c_ok, nmJx4a65c, rfl, by decide⟩
  | n + 11, h => simp [vwCl] at h
/-- a field: through the constant ix of own's pool, field k of the class ci -/
def Fld (own : String) (ix ci k : Nat) (ty : FieldType) (fin : Bool) : Prop := ∃ r, vwCl[ci]? = some r ∧ k < r.2.2 ∧ (∃ ref : String, .fieldLink own ix ref (r.2.1 k).2.1 (r.2.1 k).2.2.1 ∈ TT ∧ (ref = (r.2.1 k).1 ∨ (.sameField ref (r.2.1 k).1 (r.2.1 k).2.1 (r.2.1 k).2.2.1 ∈ TT ∧ fin = false))) ∧ tyF ci k = ty ∧ (r.2.1 k).2.2.2 = fin ∧ (fin = true → (r.2.1 k).1 = r.1)
/-- a field of a nest mate's -/
def FldN (own : String) (ix ci k : Nat) (ty : FieldType) (fin : Bool) : Prop := ∃ r, vwCl[ci]? = some r ∧ k < r.2.2 ∧ (∃ H : String, .fieldLinkNest own ix (r.2.1 k).1 (r.2.1 k).2.1 (r.2.1 k).2.2.1 H ∈ nestW) ∧ tyF ci k = ty ∧ (r.2.1 k).2.2.2 = fin
theorem f_same {r : vw_C} {k : Nat} {ref : String} {fin : Bool} {args : Array Value} {s : State} (hts : ∀ w ∈ TT, w.before args s = true) (q : ref = (r.2.1 k).1 ∨ (.sameField ref (r.2.1 k).1 (r.2.1 k).2.1 (r.2.1 k).2.2.1 ∈ TT ∧ fin = false)) : ∀ x, s.fieldFound? (r.2.1 k).1 (r.2.1 k).2.1 (r.2.1 k).2.2.1 = some x → s.fieldFound? ref (r.2.1 k).2.1 (r.2.1 k).2.2.1 = some x := by
  rcases q with rfl | ⟨q, -⟩
  · exact fun _ z => z
  · exact fun x z => u_same (hts _ q) x z
theorem fs_at {X : EX} {h : HP} {a ci k : Nat} (hk : k < nF ci) : ((List.range (nF ci)).map (fun i => if isR ci i then va_rf ((hR h a i).map (ad X)) else .int (hI h a i)))[k]? = some (if isR ci k then va_rf ((hR h a k).map (ad X)) else .int (hI h a k)) := by
  rw [List.getElem?_map, List.getElem?_range hk]; rfl
theorem fs_set {X : EX} {h h' : HP} {a ci k : Nat} {v : Value} (hk : k < nF ci) (hv : (if isR ci k then va_rf ((hR h' a k).map (ad X)) else .int (hI h' a k)) = v) (ho : ∀ j, j ≠ k → hI h' a j = hI h a j ∧ hR h' a j = hR h a j) :
    ((List.range (nF ci)).map (fun i => if isR ci i then va_rf ((hR h a i).map (ad X)) else .int (hI h a i))).set k v = (List.range (nF ci)).map (fun i => if isR ci i then va_rf ((hR h' a i).map (ad X)) else .int (hI h' a i)) := by
  apply List.ext_getElem?
  intro j
  rw [List.getElem?_set]
  by_cases hj : j < nF ci
  · rw [fs_at hj, fs_at hj, List.length_map, List.length_range]
    by_cases hjk : k = j
    · subst hjk
      rw [if_pos rfl, if_pos hk, hv]
    · rw [if_neg hjk, (ho j (fun q => hjk q.symm)).1, (ho j (fun q => hjk q.symm)).2]
  · rw [if_neg (by omega), List.getElem?_eq_none (by simp; omega), List.getElem?_eq_none (by simp; omega)]
theorem corH_set {X : EX} {h h' : HP} {H H1 : Heap} {a : Nat} (hC : CorH X h H) (h1 : 32 ≤ a) (h2 : a < hZ h) (hz : hZ h' = hZ h) (he : va_at (xD X) vwCl (ad X a, ent X h' a) H1) (ho : ∀ k, k ≠ a → ent X h' k = ent X h k) (z : H1.size = H.size) (oq : ∀ q : Nat, q ≠ ad X a → H1[q]? = H[q]?) : CorH X h' H1 := by
  obtain ⟨q1, q2, q3⟩ := hC
  refine ⟨by rw [z, q1, hz], by rw [hz]; exact q2, ?_⟩
  rw [← wl_set h1 h2 hz rfl ho]
  exact q3.set (wl_D X h) (wl_get h1 h2) he oq
theorem corH_push {X : EX} {h h' : HP} {H H1 : Heap} (hC : CorH X h H) (hz : hZ h' = hZ h + 1) (he : va_at (xD X) vwCl (ad X (hZ h), ent X h' (hZ h)) H1) (ho : ∀ k, k < hZ h → ent X h' k = ent X h k) (z : H1.size = H.size + 1) (oq : ∀ q : Nat, q < H.size → H1[q]? = H[q]?) : CorH X h' H1 := by
  obtain ⟨q1, q2, q3⟩ := hC
  refine ⟨by rw [z, q1, hz]; omega, by omega, ?_⟩
  rw [← wl_push q2 hz rfl ho]
  refine (q3.kept (fun k q hq => oq _ ((q3 k q hq).lt))).app (fun k q hq => ?_)
  have hk : k = 0 := by
    have := (List.getElem?_eq_some_iff.mp hq).1
    simpa using this
  subst hk
  cases hq
  exact he
theorem ent_wI {X : EX} {h : HP} {a i k : Nat} {v : Int32} (hk : k ≠ a) : ent X (wI h a i v) k = ent X h k := by
  have e : hI (wI h a i v) k = hI h k := funext fun j => up2_a hk
  unfold ent
  rw [e]
  rfl
theorem ent_wL {X : EX} {h : HP} {a i k : Nat} {v : Int64} (hk : k ≠ a) : ent X (wL h a i v) k = ent X h k := by
  have e : hL (wL h a i v) k = hL h k := funext fun j => up2_a hk
  unfold ent
  rw [e]
  rfl
theorem ent_wR {X : EX} {h : HP} {a i k : Nat} {v : Option Nat} (hk : k ≠ a) : ent X (wR h a i v) k = ent X h k := by
  have e : hR (wR h a i v) k = hR h k := funext fun j => up2_a hk
  unfold ent
  rw [e]
  rfl
theorem ad_A {X : EX} {a : Nat} (h : 32 ≤ a) : AA X (ad X a) := by
  unfold ad AA
  rw [if_neg (by omega)]
  omega
theorem ad_sz {X : EX} {h : HP} {H : Heap} (hC : CorH X h H) : ad X (hZ h) = H.size := by
  unfold ad
  have := hC.2.1
  rw [if_neg (by omega), hC.1]
section R8
variable {X : EX} {y : MD} {d mc ms : Nat} {Q : Option VV → HP → Prop} {cells slots pc pc' : Nat} {ls : ZL} {st : List VV} {h : HP} {ix ci kf a : Nat}
theorem e_getI {ty : FieldType} {fin : Bool} (hd : At y.2.1 pc (.getfield ix) 3 pc') (F : Fld y.1.cls ix ci kf ty fin) (hr : isR ci kf = false) (ok : Is h a (ci + 1)) (k : Ev X y d mc ms Q cells slots pc' ls (vI (hI h a kf) :: st) h) : Ev X y d mc ms Q cells slots pc ls (vR (some a) :: st) h := by
  obtain ⟨hd, rfl⟩ := hd
  intro p e s m args below meth c H locs lsr C hC hS hl
  have kk := k p e s m args below meth c H locs lsr C hC hS hl
  obtain ⟨hx, hb, hmx, hret, hown, hts, hlk, hnm, hK, hP, hsz⟩ := C
  obtain ⟨r, q1, q2, ⟨ref, q3, qs⟩, q4, q5, q6⟩ := F
  obtain ⟨c1, c2, c3, c4, c5⟩ := cl_ok ci r q1
  have he := wl_get (X := X) ok.1 ok.2.1
  rw [ent_obj c5 ok.2.2] at he
  refine va_get (C := r.1) (T := r.2.1) (N := r.2.2) hx hb hts c1 hown hK.1 hC.2.2 _ he q1 kf q2 (hts _ q3) (f_same hts qs) (v := .int (hI h a kf)) ?_ hd kk
  rw [fs_at (by rw [← c4]; exact q2), hr]
  rfl
theorem e_getR {ty : FieldType} {fin : Bool} (hd : At y.2.1 pc (.getfield ix) 3 pc') (F : Fld y.1.cls ix ci kf ty fin) (hr : isR ci kf = true) (ok : Is h a (ci + 1)) (k : Ev X y d mc ms Q cells slots pc' ls (vR (hR h a kf) :: st) h) : Ev X y d mc ms Q cells slots pc ls (vR (some a) :: st) h := by
  obtain ⟨hd, rfl⟩ := hd
  intro p e s m args below meth c H locs lsr C hC hS hl
  have kk := k p e s m args below meth c H locs lsr C hC hS hl
  obtain ⟨hx, hb, hmx, hret, hown, hts, hlk, hnm, hK, hP, hsz⟩ := C
  obtain ⟨r, q1, q2, ⟨ref, q3, qs⟩, q4, q5, q6⟩ := F
  obtain ⟨c1, c2, c3, c4, c5⟩ := cl_ok ci r q1
  have he := wl_get (X := X) ok.1 ok.2.1
  rw [ent_obj c5 ok.2.2] at he
  refine va_get (C := r.1) (T := r.2.1) (N := r.2.2) hx hb hts c1 hown hK.1 hC.2.2 _ he q1 kf q2 (hts _ q3) (f_same hts qs) (v := va_rf ((hR h a kf).map (ad X))) ?_ hd kk
  rw [fs_at (by rw [← c4]; exact q2), hr]
  rfl
theorem e_getIN {ty : FieldType} {fin : Bool} (hd : At y.2.1 pc (.getfield ix) 3 pc') (F : FldN y.1.cls ix ci kf ty fin) (hr : isR ci kf = false) (ok : Is h a (ci + 1)) (k : Ev X y d mc ms Q cells slots pc' ls (vI (hI h a kf) :: st) h) : Ev X y d mc ms Q cells slots pc ls (vR (some a) :: st) h := by
  obtain ⟨hd, rfl⟩ := hd
  intro p e s m args below meth c H locs lsr C hC hS hl
  have kk := k p e s m args below meth c H locs lsr C hC hS hl
  obtain ⟨hx, hb, hmx, hret, hown, hts, hlk, hnm, hK, hP, hsz⟩ := C
  obtain ⟨r, q1, q2, ⟨H9, q3⟩, q4, q5⟩ := F
  obtain ⟨c1, c2, c3, c4, c5⟩ := cl_ok ci r q1
  have he := wl_get (X := X) ok.1 ok.2.1
  rw [ent_obj c5 ok.2.2] at he
  refine va_getN (C := r.1) (T := r.2.1) (N := r.2.2) hx hb hts c1 hown hK.1 hC.2.2 _ he q1 kf q2 (va_Nw.use rfl (hK.2.1 _ q3)) (fun _ z => z) (v := .int (hI h a kf)) ?_ hd kk
  rw [fs_at (by rw [← c4]; exact q2), hr]
  rfl
theorem e_getRN {ty : FieldType} {fin : Bool} (hd : At y.2.1 pc (.getfield ix) 3 pc') (F : FldN y.1.cls ix ci kf ty fin) (hr : isR ci kf = true) (ok : Is h a (ci + 1)) (k : Ev X y d mc ms Q cells slots pc' ls (vR (hR h a kf) :: st) h) : Ev X y d mc ms Q cells slots pc ls (vR (some a) :: st) h := by
  obtain ⟨hd, rfl⟩ := hd
  intro p e s m args below meth c H locs lsr C hC hS hl
  have kk := k p e s m args below meth c H locs lsr C hC hS hl
  obtain ⟨hx, hb, hmx, hret, hown, hts, hlk, hnm, hK, hP, hsz⟩ := C
  obtain ⟨r, q1, q2, ⟨H9, q3⟩, q4, q5⟩ := F
  obtain ⟨c1, c2, c3, c4, c5⟩ := cl_ok ci r q1
  have he := wl_get (X := X) ok.1 ok.2.1
  rw [ent_obj c5 ok.2.2] at he
  refine va_getN (C := r.1) (T := r.2.1) (N := r.2.2) hx hb hts c1 hown hK.1 hC.2.2 _ he q1 kf q2 (va_Nw.use rfl (hK.2.1 _ q3)) (fun _ z => z) (v := va_rf ((hR h a kf).map (ad X))) ?_ hd kk
  rw [fs_at (by rw [← c4]; exact q2), hr]
  rfl
/-- a field's store, of any kind -/
theorem put_core {v : VV} {h' : HP} {ty : FieldType} {fin : Bool} (hd : decode y.2.1 pc = .ok (.putfield ix, 3)) (F : Fld y.1.cls ix ci kf ty fin) (ok : Is h a (ci + 1)) (hfin : fin = false ∨ (y.1.name = "<init>" ∧ ∀ r, vwCl[ci]? = some r → r.1 = y.1.cls))
    (hn : narrow ty (cv X v) = cv X v) (hf : fits ty (cv X v) = true) (hz : hZ h' = hZ h) (hv : (if isR ci kf then va_rf ((hR h' a kf).map (ad X)) else .int (hI h' a kf)) = cv X v) (ho : ∀ j, j ≠ kf → hI h' a j = hI h a j ∧ hR h' a j = hR h a j) (ht : hT h' a = hT h a) (he' : ∀ q, q ≠ a → ent X h' q = ent X h q)
    (k : Ev X y d mc ms Q cells slots (pc + 3) ls st h') : Ev X y d mc ms Q cells slots pc ls (v :: vR (some a) :: st) h := by
  intro p e s m args below meth c H locs lsr C hC hS hl
  have kk := fun H1 locs1 hC1 hS1 => k p e s m args below meth c H1 locs1 lsr C hC1 hS1 hl
  obtain ⟨hx, hb, hmx, hret, hown, hts, hlk, hnm, hK, hP, hsz⟩ := C
  obtain ⟨r, q1, q2, ⟨ref, q3, qs⟩, q4, q5, q6⟩ := F
  obtain ⟨c1, c2, c3, c4, c5⟩ := cl_ok ci r q1
  have he := wl_get (X := X) ok.1 ok.2.1
  rw [ent_obj c5 ok.2.2] at he
  have hap := va_apart (own := y.1.cls) hts c1 (tyF ci) c2 c3 hK.1 q1
  obtain ⟨r', h1, cell, g1, g2, g3, g4⟩ := hC.2.2 _ _ he
  have hrr : r' = r := Option.some.inj (h1.symm.trans q1)
  subst hrr
  obtain ⟨hSl, hfc, kC, hkC, hkind⟩ := hK.1.1 ci _ q1
  obtain ⟨cf, kf0, fi, f, hi, hsl⟩ := hSl kf q2
  have hlay := hts _ (c1 _ (u_in_lay q2))
  have hst := (u_facts hfc hkC (u_lays hts c1 q2) hi).1
  have hd0 : parseFieldDescriptor (r'.2.1 kf).2.2.1 = some ty := by rw [c2 kf q2, q4]
  have hlen : kf < ((List.range (nF ci)).map (fun i => if isR ci i then va_rf ((hR h a i).map (ad X)) else .int (hI h a i))).length := by
    rw [List.length_map, List.length_range, ← c4]; exact q2
  have fin2 : ∀ H1 : Heap, H1[ad X a]? = some (cell.setSlot f.slot (cv X v)) → H1.size = H.size → (∀ q, q ≠ ad X a → H1[q]? = H[q]?) →
      W p (xl X) e (rmd d mc ms) s m args below meth c H1 (locs ++ [⟨ad X a, f.slot⟩]) cells slots (MQ below (Qm X Q) args s mc ms (AA X)) (F0 m (pc + 3) lsr (st.map (cv X))) := by
    intro H1 e1 e2 e3
    rw [hsl] at e1
    refine kk H1 _ (corH_set hC ok.1 ok.2.1 hz ?_ he' e2 e3) (hS.put e2 e3 (ad_A ok.1))
    rw [ent_obj c5 (ht.trans ok.2.2)]
    refine ⟨r', q1, ?_⟩
    have hset := fs_set (X := X) (h := h) (h' := h') (a := a) (ci := ci) (k := kf) (v := cv X v) (by rw [← c4]; exact q2) hv ho
    show t_OB (ad X a) _ _ _ H1 (vp_V ((List.range (nF ci)).map _))
    rw [← hset]
    exact t_OB.to (V := updV (vp_V _) kf (cv X v)) ⟨_, e1, g2, g3, t_set g4 hap q2 (cv X v)⟩ (fun j _ => vp_updV_set hlen (cv X v) j)
  have hslot : f.slot < cell.slots.size := by rw [hsl]; exact k2_hasslot (g4 kf q2)
  unfold u_lay at hlay
  rcases hfin with hfin | ⟨hin, hown2⟩
  · rw [if_neg (by rw [q5, hfin]; decide)] at hlay
    exact W.putK hx hb (f := f) ⟨hown, hts _ q3, ⟨_, _, _, f_same hts qs _ hi⟩, hst⟩ (by rw [g2]; exact u_store hfc hkC hkind hlay hi hd0 hn hf) g1 g3 hslot rfl rfl hd fin2
  · cases hfb : fin with
    | false =>
      rw [if_neg (by rw [q5, hfb]; decide)] at hlay
      exact W.putK hx hb (f := f) ⟨hown, hts _ q3, ⟨_, _, _, f_same hts qs _ hi⟩, hst⟩ (by rw [g2]; exact u_store hfc hkC hkind hlay hi hd0 hn hf) g1 g3 hslot rfl rfl hd fin2
    | true =>
      rw [if_pos (by rw [q5, hfb])] at hlay
      have hcf : m.cls = cf := by
        obtain ⟨_, _, c', _, _, _, -, -, hf', -, -, -, hown3, -⟩ := Cond.laysFinal_spec hlay
        have e1 : c' = cf := by have := hi.symm.trans hf'; simp at this; exact this.1.symm
        rw [q6 hfb, hown2 _ q1] at hown3
        rw [← e1]; exact Option.some.inj (hown.symm.trans hown3)
      exact W.putFinK hx hb hown (hts _ q3) (f_same hts qs _ hi) hst hcf (hnm.trans hin) (by rw [g2]; exact u_fits hfc hkC hkind (Or.inr hlay) hi hd0 hn hf) g1 g3 hslot rfl rfl hd fin2
theorem e_putI {x : Int32} {fin : Bool} (hd : At y.2.1 pc (.putfield ix) 3 pc') (F : Fld y.1.cls ix ci kf .int fin) (hr : isR ci kf = false) (ok : Is h a (ci + 1)) (hfin : fin = false ∨ (y.1.name = "<init>" ∧ ∀ r, vwCl[ci]? = some r → r.1 = y.1.cls)) (k : Ev X y d mc ms Q cells slots pc' ls st (wI h a kf x)) : Ev X y d mc ms Q cells slots pc ls (vI x :: vR (some a) :: st) h := by
  obtain ⟨hd, rfl⟩ := hd
  refine put_core (v := vI x) (h' := wI h a kf x) hd F ok hfin rfl rfl rfl ?_ (fun j hj => ⟨up2_i hj, rfl⟩) rfl (fun q hq => ent_wI hq) k
  rw [hr]
  show Value.int (up2 _ _ _ _ _ _) = _
  rw [up2_s]
  rfl
theorem e_putZ {x : Int32} {fin : Bool} (hd : At y.2.1 pc (.putfield ix) 3 pc') (F : Fld y.1.cls ix ci kf .boolean fin) (hr : isR ci kf = false) (ok : Is h a (ci + 1)) (hfin : fin = false ∨ (y.1.name = "<init>" ∧ ∀ r, vwCl[ci]? = some r → r.1 = y.1.cls)) (hx : x = 0 ∨ x = 1) (k : Ev X y d mc ms Q cells slots pc' ls st (wI h a kf x)) : Ev X y d mc ms Q cells slots pc ls (vI x :: vR (some a) :: st) h := by
  obtain ⟨hd, rfl⟩ := hd
  refine put_core (v := vI x) (h' := wI h a kf x) hd F ok hfin (by rcases hx with rfl | rfl <;> rfl) (by rcases hx with rfl | rfl <;> rfl) rfl ?_ (fun j hj => ⟨up2_i hj, rfl⟩) rfl (fun q hq => ent_wI hq) k
  rw [hr]
  show Value.int (up2 _ _ _ _ _ _) = _
  rw [up2_s]
  rfl
theorem e_putR {r0 : Option Nat} {ty : FieldType} {fin : Bool} (hd : At y.2.1 pc (.putfield ix) 3 pc') (F : Fld y.1.cls ix ci kf ty fin) (hr : isR ci kf = true) (ok : Is h a (ci + 1)) (hfin : fin = false ∨ (y.1.name = "<init>" ∧ ∀ r, vwCl[ci]? = some r → r.1 = y.1.cls)) (k : Ev X y d mc ms Q cells slots pc' ls st (wR h a kf r0)) : Ev X y d mc ms Q cells slots pc ls (vR r0 :: vR (some a) :: st) h := by
  obtain ⟨hd, rfl⟩ := hd
  have hty : (∃ n, ty = .object n) ∨ ∃ t, ty = .array t := by
    obtain ⟨r, q1, q2, q3, q4, q5, q6⟩ := F
    unfold isR at hr
    rw [q4] at hr
    cases ty <;> first | exact Or.inl ⟨_, rfl⟩ | exact Or.inr ⟨_, rfl⟩ | cases hr
  refine put_core (v := vR r0) (h' := wR h a kf r0) hd F ok hfin ?_ ?_ rfl ?_ (fun j hj => ⟨rfl, up2_i hj⟩) rfl (fun q hq => ent_wR hq) k
  · cases r0 <;> rcases hty with ⟨n, rfl⟩ | ⟨t, rfl⟩ <;> rfl
  · cases r0 <;> rcases hty with ⟨n, rfl⟩ | ⟨t, rfl⟩ <;> rfl
  · rw [hr]
    show va_rf (Option.map _ (up2 _ _ _ _ _ _)) = _
    rw [up2_s]
    rfl
theorem put_coreN {v : VV} {h' : HP} {ty : FieldType} (hd : decode y.2.1 pc = .ok (.putfield ix, 3)) (F : FldN y.1.cls ix ci kf ty false) (ok : Is h a (ci + 1))
    (hn : narrow ty (cv X v) = cv X v) (hf : fits ty (cv X v) = true) (hz : hZ h' = hZ h) (hv : (if isR ci kf then va_rf ((hR h' a kf).map (ad X)) else .int (hI h' a kf)) = cv X v) (ho : ∀ j, j ≠ kf → hI h' a j = hI h a j ∧ hR h' a j = hR h a j) (ht : hT h' a = hT h a) (he' : ∀ q, q ≠ a → ent X h' q = ent X h q)
    (k : Ev X y d mc ms Q cells slots (pc + 3) ls st h') : Ev X y d mc ms Q cells slots pc ls (v :: vR (some a) :: st) h := by
  intro p e s m args below meth c H locs lsr C hC hS hl
  have kk := fun H1 locs1 hC1 hS1 => k p e s m args below meth c H1 locs1 lsr C hC1 hS1 hl
  obtain ⟨hx, hb, hmx, hret, hown, hts, hlk, hnm, hK, hP, hsz⟩ := C
  obtain ⟨r, q1, q2, ⟨H9, q3⟩, q4, q5⟩ := F
  obtain ⟨c1, c2, c3, c4, c5⟩ := cl_ok ci r q1
  have he := wl_get (X := X) ok.1 ok.2.1
  rw [ent_obj c5 ok.2.2] at he
  have hap := va_apart (own := y.1.cls) hts c1 (tyF ci) c2 c3 hK.1 q1
  obtain ⟨r', h1, cell, g1, g2, g3, g4⟩ := hC.2.2 _ _ he
  have hrr : r' = r := Option.some.inj (h1.symm.trans q1)
  subst hrr
  obtain ⟨hSl, hfc, kC, hkC, hkind⟩ := hK.1.1 ci _ q1
  obtain ⟨cf, kf0, fi, f, hi, hsl⟩ := hSl kf q2
  have hlay := hts _ (c1 _ (u_in_lay q2))
  have hst := (u_facts hfc hkC (u_lays hts c1 q2) hi).1
  have hd0 : parseFieldDescriptor (r'.2.1 kf).2.2.1 = some ty := by rw [c2 kf q2, q4]
  have hlen : kf < ((List.range (nF ci)).map (fun i => if isR ci i then va_rf ((hR h a i).map (ad X)) else .int (hI h a i))).length := by
    rw [List.length_map, List.length_range, ← c4]; exact q2
  have fin2 : ∀ H1 : Heap, H1[ad X a]? = some (cell.setSlot f.slot (cv X v)) → H1.size = H.size → (∀ q, q ≠ ad X a → H1[q]? = H[q]?) →
      W p (xl X) e (rmd d mc ms) s m args below meth c H1 (locs ++ [⟨ad X a, f.slot⟩]) cells slots (MQ below (Qm X Q) args s mc ms (AA X)) (F0 m (pc + 3) lsr (st.map (cv X))) := by
    intro H1 e1 e2 e3
    rw [hsl] at e1
    refine kk H1 _ (corH_set hC ok.1 ok.2.1 hz ?_ he' e2 e3) (hS.put e2 e3 (ad_A ok.1))
    rw [ent_obj c5 (ht.trans ok.2.2)]
    refine ⟨r', q1, ?_⟩
    have hset := fs_set (X := X) (h := h) (h' := h') (a := a) (ci := ci) (k := kf) (v := cv X v) (by rw [← c4]; exact q2) hv ho
    show t_OB (ad X a) _ _ _ H1 (vp_V ((List.range (nF ci)).map _))
    rw [← hset]
    exact t_OB.to (V := updV (vp_V _) kf (cv X v)) ⟨_, e1, g2, g3, t_set g4 hap q2 (cv X v)⟩ (fun j _ => vp_updV_set hlen (cv X v) j)
  have hslot : f.slot < cell.slots.size := by rw [hsl]; exact k2_hasslot (g4 kf q2)
  unfold u_lay at hlay
  rw [if_neg (by rw [q5]; decide)] at hlay
  exact va_WputK hx hb (f := f) hown (va_Nw.use rfl (hK.2.1 _ q3)) hi hst (by rw [g2]; exact u_store hfc hkC hkind hlay hi hd0 hn hf) g1 g3 hslot rfl rfl hd fin2
theorem e_putIN {x : Int32} (hd : At y.2.1 pc (.putfield ix) 3 pc') (F : FldN y.1.cls ix ci kf .int false) (hr : isR ci kf = false) (ok : Is h a (ci + 1)) (k : Ev X y d mc ms Q cells slots pc' ls st (wI h a kf x)) : Ev X y d mc ms Q cells slots pc ls (vI x :: vR (some a) :: st) h := by
  obtain ⟨hd, rfl⟩ := hd
  refine put_coreN (v := vI x) (h' := wI h a kf x) hd F ok rfl rfl rfl ?_ (fun j hj => ⟨up2_i hj, rfl⟩) rfl (fun q hq => ent_wI hq) k
  rw [hr]
  show Value.int (up2 _ _ _ _ _ _) = _
  rw [up2_s]
  rfl
end R8
end
section
/-! RULES: arrays, new cells, statics, the pool's constants, JDK members (written by wip/p45/gen7.py) -/
section R9
variable {X : EX} {y : MD} {d mc ms : Nat} {Q : Option VV → HP → Prop} {cells slots pc pc' : Nat} {ls : ZL} {st : List VV} {h : HP} {ix a : Nat}
theorem e_iaload {i : Int32} (hd : At y.2.1 pc (.iaload) 1 pc') (ok : Is h a 13) (hin : vp_in i (hN h a)) (k : Ev X y d mc ms Q cells slots pc' ls (vI (hI h a i.toNatClampNeg) :: st) h) : Ev X y d mc ms Q cells slots pc ls (vI i :: vR (some a) :: st) h := by
  obtain ⟨hd, rfl⟩ := hd
  intro p e s m args below meth c H locs lsr C hC hS hl
  have kk := k p e s m args below meth c H locs lsr C hC hS hl
  obtain ⟨hx, hb, hmx, hret, hown, hts, hlk, hnm, hK, hP, hsz⟩ := C
  have he := wl_get (X := X) ok.1 ok.2.1
  rw [ent_int (by decide) ok.2.2] at he
  exact va_iald hx hb hK.1 hC.2.2 _ 2 he rfl hin hd kk
theorem e_baload {i : Int32} (hd : At y.2.1 pc (.baload) 1 pc') (ok : Is h a 12) (hin : vp_in i (hN h a)) (k : Ev X y d mc ms Q cells slots pc' ls (vI (hI h a i.toNatClampNeg) :: st) h) : Ev X y d mc ms Q cells slots pc ls (vI i :: vR (some a) :: st) h := by
  obtain ⟨hd, rfl⟩ := hd
  intro p e s m args below meth c H locs lsr C hC hS hl
  have kk := k p e s m args below meth c H locs lsr C hC hS hl
  obtain ⟨hx, hb, hmx, hret, hown, hts, hlk, hnm, hK, hP, hsz⟩ := C
  have he := wl_get (X := X) ok.1 ok.2.1
  rw [ent_int (by decide) ok.2.2] at he
  exact va_bald hx hb hK.1 hC.2.2 _ 1 he rfl hin hd kk
theorem e_laload {i : Int32} (hd : At y.2.1 pc (.laload) 1 pc') (ok : Is h a 14) (hin : vp_in i (hN h a)) (k : Ev X y d mc ms Q cells slots pc' ls (vL (hL h a i.toNatClampNeg) :: st) h) : Ev X y d mc ms Q cells slots pc ls (vI i :: vR (some a) :: st) h := by
  obtain ⟨hd, rfl⟩ := hd
  intro p e s m args below meth c H locs lsr C hC hS hl
  have kk := k p e s m args below meth c H locs lsr C hC hS hl
  obtain ⟨hx, hb, hmx, hret, hown, hts, hlk, hnm, hK, hP, hsz⟩ := C
  have he := wl_get (X := X) ok.1 ok.2.1
  rw [ent_long ok.2.2] at he
  exact va_lald hx hb hK.1 hC.2.2 _ 3 he rfl hin hd kk
/-- the kinds of arrays of references: their class -/
def rfC : Nat → Nat × String
  | 16 => (0, RX0) | 17 => (1, RX1) | 18 => (5, RX5) | 19 => (6, RX6) | _ => (11, "java/lang/Object")
theorem rf_ty {X : EX} {t : Nat} (h1 : 16 ≤ t) (h2 : t ≤ 20) : (tys X)[t - 11]? = some (xA X t, .object (rfC t).2) := by
  have : t = 16 ∨ t = 17 ∨ t = 18 ∨ t = 19 ∨ t = 20 := by omega
  rcases this with rfl | rfl | rfl | rfl | rfl <;> rfl
theorem rf_cl {t : Nat} (h1 : 16 ≤ t) (h2 : t ≤ 19) : ∃ r, vwCl[(rfC t).1]? = some r ∧ r.1 = (rfC t).2 ∧ (rfC t).1 < 11 := by
  have : t = 16 ∨ t = 17 ∨ t = 18 ∨ t = 19 := by omega
  rcases this with rfl | rfl | rfl | rfl <;> exact ⟨_, rfl, rfl, by decide⟩
theorem e_aaload {i : Int32} {t : Nat} (hd : At y.2.1 pc (.aaload) 1 pc') (ok : Is h a t) (h1 : 16 ≤ t) (h2 : t ≤ 20) (hin : vp_in i (hN h a)) (k : Ev X y d mc ms Q cells slots pc' ls (vR (hR h a i.toNatClampNeg) :: st) h) : Ev X y d mc ms Q cells slots pc ls (vI i :: vR (some a) :: st) h := by
  obtain ⟨hd, rfl⟩ := hd
  intro p e s m args below meth c H locs lsr C hC hS hl
  have kk := k p e s m args below meth c H locs lsr C hC hS hl
  obtain ⟨hx, hb, hmx, hret, hown, hts, hlk, hnm, hK, hP, hsz⟩ := C
  have he := wl_get (X := X) ok.1 ok.2.1
  rw [ent_ref h1 ok.2.2] at he
  exact va_aldq hx hb hK.1 hC.2.2 _ (t - 11) he (rf_ty h1 h2) hin hd kk
theorem cell_size {cA : ClassId} {i : Int32} {n : Nat} {f : Nat → Value} (hin : vp_in i n) : ¬ (i < 0 ∨ (arrV cA n f).slots.size ≤ i.toNatClampNeg) := by
  rw [arrV_size]; exact hin
theorem e_iastore {i x : Int32} (hd : At y.2.1 pc (.iastore) 1 pc') (ok : Is h a 13) (hin : vp_in i (hN h a)) (k : Ev X y d mc ms Q cells slots pc' ls st (wI h a i.toNatClampNeg x)) : Ev X y d mc ms Q cells slots pc ls (vI x :: vI i :: vR (some a) :: st) h := by
  obtain ⟨hd, rfl⟩ := hd
  intro p e s m args below meth c H locs lsr C hC hS hl
  have kk := fun H1 locs1 hC1 hS1 => k p e s m args below meth c H1 locs1 lsr C hC1 hS1 hl
  obtain ⟨hx, hb, hmx, hret, hown, hts, hlk, hnm, hK, hP, hsz⟩ := C
  have he := wl_get (X := X) ok.1 ok.2.1
  rw [ent_int (by decide) ok.2.2] at he
  refine W.iast hx hb (hC.2.2 _ _ he) ((hK.1.2 2 _ rfl).1 (hN h a) (fun j => .int (hI h a j))) (fun q => by cases q) (cell_size hin) rfl rfl hd fun H1 e1 z oq => ?_
  refine kk H1 _ (corH_set hC ok.1 ok.2.1 rfl ?_ (fun q hq => ent_wI hq) z oq) (hS.put z oq (ad_A ok.1))
  have ok' : hT (wI h a i.toNatClampNeg x) a = 13 := ok.2.2
  rw [ent_int (by decide) ok']
  show H1[ad X a]? = some (vp_cell _ _)
  rw [e1, vp_cell_i, vp_cell_i, arrV_store]
  congr 2
  funext q
  by_cases hq : q = i.toNatClampNeg
  · subst hq
    simp [updV, up2, hI, wI]
    try rfl
  · simp [updV, hI, wI, up2, hq]
theorem e_lastore {i : Int32} {x : Int64} (hd : At y.2.1 pc (.lastore) 1 pc') (ok : Is h a 14) (hin : vp_in i (hN h a)) (k : Ev X y d mc ms Q cells slots pc' ls st (wL h a i.toNatClampNeg x)) : Ev X y d mc ms Q cells slots pc ls (vL x :: vI i :: vR (some a) :: st) h := by
  obtain ⟨hd, rfl⟩ := hd
  intro p e s m args below meth c H locs lsr C hC hS hl
  have kk := fun H1 locs1 hC1 hS1 => k p e s m args below meth c H1 locs1 lsr C hC1 hS1 hl
  obtain ⟨hx, hb, hmx, hret, hown, hts, hlk, hnm, hK, hP, hsz⟩ := C
  have he := wl_get (X := X) ok.1 ok.2.1
  rw [ent_long ok.2.2] at he
  refine W.last hx hb (hC.2.2 _ _ he) ((hK.1.2 3 _ rfl).1 (hN h a) (fun j => .long (hL h a j))) (fun q => by cases q) (cell_size hin) rfl rfl hd fun H1 e1 z oq => ?_
  refine kk H1 _ (corH_set hC ok.1 ok.2.1 rfl ?_ (fun q hq => ent_wL hq) z oq) (hS.put z oq (ad_A ok.1))
  have ok' : hT (wL h a i.toNatClampNeg x) a = 14 := ok.2.2
  rw [ent_long ok']
  show H1[ad X a]? = some (vp_cell _ _)
  rw [e1, vp_cell_l, vp_cell_l, arrV_store]
  congr 2
  funext q
  by_cases hq : q = i.toNatClampNeg
  · subst hq
    simp [updV, up2, hL, wL]
    try rfl
  · simp [updV, hL, wL, up2, hq]
theorem e_aastoreN {i : Int32} {t : Nat} (hd : At y.2.1 pc (.aastore) 1 pc') (ok : Is h a t) (h1 : 16 ≤ t) (h2 : t ≤ 20) (hin : vp_in i (hN h a)) (k : Ev X y d mc ms Q cells slots pc' ls st (wR h a i.toNatClampNeg none)) : Ev X y d mc ms Q cells slots pc ls (vR none :: vI i :: vR (some a) :: st) h := by
  obtain ⟨hd, rfl⟩ := hd
  intro p e s m args below meth c H locs lsr C hC hS hl
  have kk := fun H1 locs1 hC1 hS1 => k p e s m args below meth c H1 locs1 lsr C hC1 hS1 hl
  obtain ⟨hx, hb, hmx, hret, hown, hts, hlk, hnm, hK, hP, hsz⟩ := C
  have he := wl_get (X := X) ok.1 ok.2.1
  rw [ent_ref h1 ok.2.2] at he
  refine va_WaastN (C := (rfC t).2) hx hb (hC.2.2 _ _ he) ((hK.1.2 (t - 11) _ (rf_ty h1 h2)).1 (hN h a) (fun j => va_rf ((hR h a j).map (ad X)))) (fun h => by cases h) (cell_size hin) rfl rfl hd fun H1 e1 z oq => ?_
  refine kk H1 _ (corH_set hC ok.1 ok.2.1 rfl ?_ (fun q hq => ent_wR hq) z oq) (hS.put z oq (ad_A ok.1))
  have ok' : hT (wR h a i.toNatClampNeg none) a = t := ok.2.2
  rw [ent_ref h1 ok']
  show H1[ad X a]? = some (vp_cell _ _)
  rw [e1, vp_cell_q, vp_cell_q, arrV_store]
  congr 2
  funext q
  by_cases hq : q = i.toNatClampNeg
  · subst hq
    simp [updV, up2, hR, wR, va_rf]
  · simp [updV, hR, wR, up2, hq]
theorem e_aastore {i : Int32} {t b : Nat} (hd : At y.2.1 pc (.aastore) 1 pc') (ok : Is h a t) (h1 : 16 ≤ t) (h2 : t ≤ 19) (ok2 : Is h b ((rfC t).1 + 1)) (hin : vp_in i (hN h a)) (k : Ev X y d mc ms Q cells slots pc' ls st (wR h a i.toNatClampNeg (some b))) : Ev X y d mc ms Q cells slots pc ls (vR (some b) :: vI i :: vR (some a) :: st) h := by
  obtain ⟨hd, rfl⟩ := hd
  intro p e s m args below meth c H locs lsr C hC hS hl
  have kk := fun H1 locs1 hC1 hS1 => k p e s m args below meth c H1 locs1 lsr C hC1 hS1 hl
  obtain ⟨hx, hb, hmx, hret, hown, hts, hlk, hnm, hK, hP, hsz⟩ := C
  have he := wl_get (X := X) ok.1 ok.2.1
  rw [ent_ref h1 ok.2.2] at he
  obtain ⟨r, hr, hr2, hr3⟩ := rf_cl h1 h2
  have hv := wl_get (X := X) ok2.1 ok2.2.1
  rw [ent_obj hr3 ok2.2.2] at hv
  obtain ⟨r', hr', cellV, g1, g2, g3, -⟩ := hC.2.2 _ _ hv
  have hcls := (hK.1.1 _ r hr).2
  rw [hr2] at hcls
  obtain ⟨kA, comp, k1, k2, k3, -⟩ := (hK.1.2 (t - 11) _ (rf_ty h1 (Nat.le_succ_of_le h2))).2
  have hcomp : comp = (xD X).1 (rfC t).1 := Option.some.inj (k3.symm.trans hcls.1)
  subst hcomp
  obtain ⟨kC, hkC, -⟩ := hcls.2
  have hlt : i.toNatClampNeg < hN h a := Nat.not_le.mp fun q => hin (Or.inr q)
  have h0 : ¬ i < 0 := fun q => hin (Or.inl q)
  refine W.aast hx hb (hC.2.2 _ _ he) (fun q h => by cases h) (fun h => by cases h) k1 k2 rfl hkC ⟨h0, by show _ < (arrV _ _ _).slots.size; rw [arrV_size]; exact hlt⟩ g1 (fun q h => by rw [g3] at h; cases h) (by rw [g2]; exact hkC) (by rw [g2]; exact va_assign hcls) rfl rfl hd fun H1 e1 z oq => ?_
  refine kk H1 _ (corH_set hC ok.1 ok.2.1 rfl ?_ (fun q hq => ent_wR hq) z oq) (hS.put z oq (ad_A ok.1))
  have ok' : hT (wR h a i.toNatClampNeg (some b)) a = t := ok.2.2
  rw [ent_ref h1 ok']
  show H1[ad X a]? = some (vp_cell _ _)
  rw [e1, vp_cell_q, vp_cell_q, arrV_store]
  congr 2
  funext q
  by_cases hq : q = i.toNatClampNeg
  · subst hq
    simp [updV, up2, hR, wR, va_rf]
  · simp [updV, hR, wR, up2, hq]
theorem e_alen {t : Nat} (hd : At y.2.1 pc (.arraylength) 1 pc') (ok : Is h a t) (h1 : 12 ≤ t) (h2 : t ≤ 20) (h15 : t ≠ 15) (k : Ev X y d mc ms Q cells slots pc' ls (vI (Int32.ofNat (hN h a)) :: st) h) : Ev X y d mc ms Q cells slots pc ls (vR (some a) :: st) h := by
  obtain ⟨hd, rfl⟩ := hd
  intro p e s m args below meth c H locs lsr C hC hS hl
  have kk := k p e s m args below meth c H locs lsr C hC hS hl
  obtain ⟨hx, hb, hmx, hret, hown, hts, hlk, hnm, hK, hP, hsz⟩ := C
  have he := wl_get (X := X) ok.1 ok.2.1
  by_cases h14 : t = 14
  · subst h14
    rw [ent_long ok.2.2] at he
    exact va_alen hx hb hK.1 hC.2.2 _ 3 he rfl rfl hd kk
  · by_cases h16 : 16 ≤ t
    · rw [ent_ref h16 ok.2.2] at he
      exact va_alen hx hb hK.1 hC.2.2 _ (t - 11) he (rf_ty h16 h2) rfl hd kk
    · have : t = 12 ∨ t = 13 := by omega
      rw [ent_int this ok.2.2] at he
      rcases this with rfl | rfl
      · exact va_alen hx hb hK.1 hC.2.2 _ 0 he rfl rfl hd kk
      · exact va_alen hx hb hK.1 hC.2.2 _ 2 he rfl rfl hd kk
/-! new cells -/
theorem ent_nw {X : EX} {h : HP} {t n k : Nat} (hk : k < hZ h) : ent X (nw h t n) k = ent X h k := by
  have hne : k ≠ hZ h := Nat.ne_of_lt hk
  have e1 : hI (nw h t n) k = hI h k := by funext j; simp [nw, hI, hne]
  have e2 : hL (nw h t n) k = hL h k := by funext j; simp [nw, hL, hne]
  have e3 : hR (nw h t n) k = hR h k := by funext j; simp [nw, hR, hne]
  have e4 : hT (nw h t n) k = hT h k := by simp [nw, hT, hne]
  have e5 : hN (nw h t n) k = hN h k := by simp [nw, hN, hne]
  unfold ent
  rw [e1, e2, e3, e4, e5]
def NewOk (own : String) (ix ci : Nat) : Prop := ∃ r, vwCl[ci]? = some r ∧ .classLink own ix r.1 ∈ TT ∧ .instantiable r.1 r.2.2 ∈ TT ∧ .initialized r.1 ∈ TT
theorem dflt_ok : ∀ (ci : Nat) (r : vw_C), vwCl[ci]? = some r → ∀ k, k < r.2.2 → defaultValue (tyF ci k) = (if isR ci k then va_rf none else .int 0) := by
  intro ci r h
  match ci, h with
  | 0, h => cases h; decide +kernel
  | 1, h => cases h; decide +kernel
  | 2, h => cases h; decide +kernel
  | 3, h => cases h; decide +kernel
  | 4, h => cases h; decide +kernel
  | 5, h => cases h; decide +kernel
  | 6, h => cases h; decide +kernel
  | 7, h => cases h; decide +kernel
  | 8, h => cases h; decide +kernel
  | 9, h => cases h; decide +kernel
  | 10, h => cases h; decide +kernel
  | n + 11, h => simp [vwCl] at h
theorem e_new {ci : Nat} (hd : At y.2.1 pc (.new ix) 3 pc') (N : NewOk y.1.cls ix ci) (hcc : cells + 1 ≤ mc) (hss : slots + nF ci ≤ ms) (k : Ev X y d mc ms Q (cells + 1) (slots + nF ci) pc' ls (vR (some (hZ h)) :: st) (nw h (ci + 1) 0)) : Ev X y d mc ms Q cells slots pc ls st h := by
  obtain ⟨hd, rfl⟩ := hd
  intro p e s m args below meth c H locs lsr C hC hS hl
  have kk := fun H1 hC1 hS1 => k p e s m args below meth c H1 locs lsr C hC1 hS1 hl
  obtain ⟨hx, hb, hmx, hret, hown, hts, hlk, hnm, hK, hP, hsz⟩ := C
  obtain ⟨r, hr, w1, w2, w3⟩ := N
  obtain ⟨c1, c2, c3, c4, c5⟩ := cl_ok ci r hr
  have hKn := hK.1.1 ci _ hr
  refine W.newcK (n := nF ci) hx hb hown (hts _ w1) (by rw [← c4]; exact hts _ w2) (hts _ w3) rfl hd hcc hss hKn.2.1 rfl fun H1 kC hkC e1 z1 o1 => ?_
  have hH : (F0 m (pc + 3) lsr (.ref H.size :: st.map (cv X))) = F0 m (pc + 3) lsr ((vR (some (hZ h)) :: st).map (cv X)) := by
    show _ = F0 m (pc + 3) lsr (.ref (ad X (hZ h)) :: st.map (cv X))
    rw [ad_sz hC]
  refine W.eq hH (kk H1 (corH_push hC rfl ?_ (fun q hq => ent_nw hq) z1 o1) ⟨Nat.le_trans hS.1 (by omega), fun x h1 h2 => (o1 x (Nat.lt_of_lt_of_le h1 hS.1)).trans (hS.2.1 x h1 h2), hS.2.2⟩)
  rw [ent_obj (ci := ci) c5 (by simp [nw, hT])]
  refine ⟨r, hr, ?_⟩
  rw [ad_sz hC]
  refine (u_born (tyF ci) hts c1 hKn hkC e1 c2).to (fun j hj => ?_)
  dsimp only
  rw [dflt_ok ci r hr j hj]
  have hv : ((List.range (nF ci)).map (fun i => if isR ci i then va_rf ((hR (nw h (ci + 1) 0) (hZ h) i).map (ad X)) else .int (hI (nw h (ci + 1) 0) (hZ h) i)))[j]? = some (if isR ci j then va_rf none else .int 0) := by
    rw [fs_at (by rw [← c4]; exact hj)]
    simp [nw, hI, hR]
  show _ = List.getD _ j Value.null
  rw [List.getD_eq_getElem?_getD, hv]
  rfl
theorem e_newI {n : Int32} {N' : Nat} (hd : At y.2.1 pc (.newarray .int) 2 pc') (w : .arrayClass .int ∈ TT) (hn : ¬ n < 0) (hN' : n.toNatClampNeg = N') (hbig : N' ≤ 60000000) (hcc : cells + 1 ≤ mc) (hss : slots + N' ≤ ms) (k : Ev X y d mc ms Q (cells + 1) (slots + N') pc' ls (vR (some (hZ h)) :: st) (nw h 13 N')) : Ev X y d mc ms Q cells slots pc ls (vI n :: st) h := by
  obtain ⟨hd, rfl⟩ := hd
  intro p e s m args below meth c H locs lsr C hC hS hl
  have kk := fun H1 hC1 hS1 => k p e s m args below meth c H1 locs lsr C hC1 hS1 hl
  obtain ⟨hx, hb, hmx, hret, hown, hts, hlk, hnm, hK, hP, hsz⟩ := C
  refine va_newaK (atype := .int) hx hb (hts _ w) rfl hd rfl hn hN' (by show N' * _ ≤ _; simp only [newarray.typeOf, componentBytes]; omega) hcc hss rfl fun H1 cA e1 z1 o1 hAr hNm => ?_
  have hcA : cA = xA X 13 := Option.some.inj (hNm.symm.trans (hK.1.2 2 _ rfl).2)
  have hH : (F0 m (pc + 2) lsr (.ref H.size :: st.map (cv X))) = F0 m (pc + 2) lsr ((vR (some (hZ h)) :: st).map (cv X)) := by
    show _ = F0 m (pc + 2) lsr (.ref (ad X (hZ h)) :: st.map (cv X))
    rw [ad_sz hC]
  refine W.eq hH (kk H1 (corH_push hC rfl ?_ (fun q hq => ent_nw hq) z1 o1) ⟨Nat.le_trans hS.1 (by omega), fun x h1 h2 => (o1 x (Nat.lt_of_lt_of_le h1 hS.1)).trans (hS.2.1 x h1 h2), hS.2.2⟩)
  rw [ent_int (t := 13) (by decide) (by simp [nw, hT])]
  show H1[ad X (hZ h)]? = some (vp_cell _ _)
  rw [ad_sz hC, e1, vp_cell_i, hcA]
  have e5 : hN (nw h 13 N') (hZ h) = N' := by simp [nw, hN]
  rw [e5]
  congr 2
  funext q
  simp [hI, nw, newarray.typeOf, defaultValue]
theorem e_newB {n : Int32} {N' : Nat} (hd : At y.2.1 pc (.newarray .byte) 2 pc') (w : .arrayClass .byte ∈ TT) (hn : ¬ n < 0) (hN' : n.toNatClampNeg = N') (hbig : N' ≤ 60000000) (hcc : cells + 1 ≤ mc) (hss : slots + N' ≤ ms) (k : Ev X y d mc ms Q (cells + 1) (slots + N') pc' ls (vR (some (hZ h)) :: st) (nw h 12 N')) : Ev X y d mc ms Q cells slots pc ls (vI n :: st) h := by
  obtain ⟨hd, rfl⟩ := hd
  intro p e s m args below meth c H locs lsr C hC hS hl
  have kk := fun H1 hC1 hS1 => k p e s m args below meth c H1 locs lsr C hC1 hS1 hl
  obtain ⟨hx, hb, hmx, hret, hown, hts, hlk, hnm, hK, hP, hsz⟩ := C
  refine va_newaK (atype := .byte) hx hb (hts _ w) rfl hd rfl hn hN' (by show N' * _ ≤ _; simp only [newarray.typeOf, componentBytes]; omega) hcc hss rfl fun H1 cA e1 z1 o1 hAr hNm => ?_
  have hcA : cA = xA X 12 := Option.some.inj (hNm.symm.trans (hK.1.2 1 _ rfl).2)
  have hH : (F0 m (pc + 2) lsr (.ref H.size :: st.map (cv X))) = F0 m (pc + 2) lsr ((vR (some (hZ h)) :: st).map (cv X)) := by
    show _ = F0 m (pc + 2) lsr (.ref (ad X (hZ h)) :: st.map (cv X))
    rw [ad_sz hC]
  refine W.eq hH (kk H1 (corH_push hC rfl ?_ (fun q hq => ent_nw hq) z1 o1) ⟨Nat.le_trans hS.1 (by omega), fun x h1 h2 => (o1 x (Nat.lt_of_lt_of_le h1 hS.1)).trans (hS.2.1 x h1 h2), hS.2.2⟩)
  rw [ent_int (t := 12) (by decide) (by simp [nw, hT])]
  show H1[ad X (hZ h)]? = some (vp_cell _ _)
  rw [ad_sz hC, e1, vp_cell_i, hcA]
  have e5 : hN (nw h 12 N') (hZ h) = N' := by simp [nw, hN]
  rw [e5]
  congr 2
  funext q
  simp [hI, nw, newarray.typeOf, defaultValue]
theorem e_newL {n : Int32} {N' : Nat} (hd : At y.2.1 pc (.newarray .long) 2 pc') (w : .arrayClass .long ∈ TT) (hn : ¬ n < 0) (hN' : n.toNatClampNeg = N') (hbig : N' ≤ 60000000) (hcc : cells + 1 ≤ mc) (hss : slots + N' ≤ ms) (k : Ev X y d mc ms Q (cells + 1) (slots + N') pc' ls (vR (some (hZ h)) :: st) (nw h 14 N')) : Ev X y d mc ms Q cells slots pc ls (vI n :: st) h := by
  obtain ⟨hd, rfl⟩ := hd
  intro p e s m args below meth c H locs lsr C hC hS hl
  have kk := fun H1 hC1 hS1 => k p e s m args below meth c H1 locs lsr C hC1 hS1 hl
  obtain ⟨hx, hb, hmx, hret, hown, hts, hlk, hnm, hK, hP, hsz⟩ := C
  refine va_newaK (atype := .long) hx hb (hts _ w) rfl hd rfl hn hN' (by show N' * _ ≤ _; simp only [newarray.typeOf, componentBytes]; omega) hcc hss rfl fun H1 cA e1 z1 o1 hAr hNm => ?_
  have hcA : cA = xA X 14 := Option.some.inj (hNm.symm.trans (hK.1.2 3 _ rfl).2)
  have hH : (F0 m (pc + 2) lsr (.ref H.size :: st.map (cv X))) = F0 m (pc + 2) lsr ((vR (some (hZ h)) :: st).map (cv X)) := by
    show _ = F0 m (pc + 2) lsr (.ref (ad X (hZ h)) :: st.map (cv X))
    rw [ad_sz hC]
  refine W.eq hH (kk H1 (corH_push hC rfl ?_ (fun q hq => ent_nw hq) z1 o1) ⟨Nat.le_trans hS.1 (by omega), fun x h1 h2 => (o1 x (Nat.lt_of_lt_of_le h1 hS.1)).trans (hS.2.1 x h1 h2), hS.2.2⟩)
  rw [ent_long (by simp [nw, hT])]
  show H1[ad X (hZ h)]? = some (vp_cell _ _)
  rw [ad_sz hC, e1, vp_cell_l, hcA]
  have e5 : hN (nw h 14 N') (hZ h) = N' := by simp [nw, hN]
  rw [e5]
  congr 2
  funext q
  simp [hL, nw, newarray.typeOf, defaultValue]
theorem e_newR {n : Int32} {N' t : Nat} (hd : At y.2.1 pc (.anewarray ix) 3 pc') (h1 : 16 ≤ t) (h2 : t ≤ 20) (w : .classLink y.1.cls ix (rfC t).2 ∈ TT) (hn : ¬ n < 0) (hN' : n.toNatClampNeg = N') (hbig : N' ≤ 60000000) (hcc : cells + 1 ≤ mc) (hss : slots + N' ≤ ms) (k : Ev X y d mc ms Q (cells + 1) (slots + N') pc' ls (vR (some (hZ h)) :: st) (nw h t N')) : Ev X y d mc ms Q cells slots pc ls (vI n :: st) h := by
  obtain ⟨hd, rfl⟩ := hd
  intro p e s m args below meth c H locs lsr C hC hS hl
  have kk := fun H1 hC1 hS1 => k p e s m args below meth c H1 locs lsr C hC1 hS1 hl
  obtain ⟨hx, hb, hmx, hret, hown, hts, hlk, hnm, hK, hP, hsz⟩ := C
  have hao : va_AO (rfC t).2 s := hK.2.2.1 _ (by
    have : t = 16 ∨ t = 17 ∨ t = 18 ∨ t = 19 ∨ t = 20 := by omega
    rcases this with rfl | rfl | rfl | rfl | rfl <;> simp [aoW, rfC])
  subst hN'
  refine W.anew hx hb hown (hts _ w) (va_AO.use hao) rfl hd rfl hn (by omega) hcc hss fun cA kA comp f1 f2 f3 f4 => ?_
  generalize hH1 : H.push ({ cls := cA, slots := Array.replicate n.toNatClampNeg .null, vm := .none } : Cell) = H1
  have z1 : H1.size = H.size + 1 := by rw [← hH1, Array.size_push]
  have e1 : H1[H.size]? = some (arrV cA n.toNatClampNeg (fun _ => .null)) := by rw [← hH1, Array.getElem?_push_size, ← arrV_new]
  have o1 : ∀ q : Nat, q < H.size → H1[q]? = H[q]? := fun q hq => by rw [← hH1, Array.getElem?_push, if_neg (Nat.ne_of_lt hq)]
  obtain ⟨kA2, comp2, k1, k2, k3, k4⟩ := (hK.1.2 (t - 11) _ (rf_ty h1 h2)).2
  have hcA : cA = xA X t := by first | exact Option.some.inj (f1.symm.trans k4) | exact Option.some.inj (f4.symm.trans k4)
  have hH : (F0 m (pc + 3) lsr (.ref H.size :: st.map (cv X))) = F0 m (pc + 3) lsr ((vR (some (hZ h)) :: st).map (cv X)) := by
    show _ = F0 m (pc + 3) lsr (.ref (ad X (hZ h)) :: st.map (cv X))
    rw [ad_sz hC]
  refine W.eq hH (kk H1 (corH_push hC rfl ?_ (fun q hq => ent_nw hq) z1 o1) ⟨Nat.le_trans hS.1 (by omega), fun x h1 h2 => (o1 x (Nat.lt_of_lt_of_le h1 hS.1)).trans (hS.2.1 x h1 h2), hS.2.2⟩)
  rw [ent_ref (t := t) h1 (by simp [nw, hT])]
  show H1[ad X (hZ h)]? = some (vp_cell _ _)
  rw [ad_sz hC, e1, vp_cell_q, hcA]
  have e5 : hN (nw h t n.toNatClampNeg) (hZ h) = n.toNatClampNeg := by simp [nw, hN]
  rw [e5]
  congr 2
  funext q
  simp [hR, nw, va_rf]
/-! statics, the pool's constants -/
theorem e_gets {i : Nat} {q : String × List Int32} (hd : At y.2.1 pc (.getstatic ix) 3 pc') (hq : stW[i]? = some q) (w : .fieldLink y.1.cls ix RX8 q.1 "[I" ∈ TT) (k : Ev X y d mc ms Q cells slots pc' ls (vR (some (i + 1)) :: st) h) : Ev X y d mc ms Q cells slots pc ls st h := by
  obtain ⟨hd, rfl⟩ := hd
  intro p e s m args below meth c H locs lsr C hC hS hl
  have kk := k p e s m args below meth c H locs lsr C hC hS hl
  obtain ⟨hx, hb, hmx, hret, hown, hts, hlk, hnm, hK, hP, hsz⟩ := C
  have hi : i < 3 := (List.getElem?_eq_some_iff.mp hq).1
  have e0 : ad X (i + 1) = xS X (i + 1) := by unfold ad; rw [if_pos (by omega)]
  have e1 : (vR (some (i + 1)) :: st).map (cv X) = .ref (xS X (i + 1)) :: st.map (cv X) := by rw [← e0]; rfl
  rw [e1] at kk
  exact va_gets hx hb (hP.1 i q hq).1 hS hown (hts _ w) (fun _ z => z) hd kk
theorem e_getsN {i : Nat} {q : String × List Int32} (hd : At y.2.1 pc (.getstatic ix) 3 pc') (hq : stW[i]? = some q) (w : .fieldLinkNest y.1.cls ix RX8 q.1 "[I" RX8 ∈ nestW) (k : Ev X y d mc ms Q cells slots pc' ls (vR (some (i + 1)) :: st) h) : Ev X y d mc ms Q cells slots pc ls st h := by
  obtain ⟨hd, rfl⟩ := hd
  intro p e s m args below meth c H locs lsr C hC hS hl
  have kk := k p e s m args below meth c H locs lsr C hC hS hl
  obtain ⟨hx, hb, hmx, hret, hown, hts, hlk, hnm, hK, hP, hsz⟩ := C
  have hi : i < 3 := (List.getElem?_eq_some_iff.mp hq).1
  have e0 : ad X (i + 1) = xS X (i + 1) := by unfold ad; rw [if_pos (by omega)]
  have e1 : (vR (some (i + 1)) :: st).map (cv X) = .ref (xS X (i + 1)) :: st.map (cv X) := by rw [← e0]; rfl
  rw [e1] at kk
  exact va_getsN hx hb (hP.1 i q hq).1 hS hown (va_Nw.use rfl (hK.2.1 _ w)) (fun _ z => z) hd kk
/-- an element of a static array -/
theorem e_ialoadS {i0 : Nat} {q : String × List Int32} {i : Int32} (hd : At y.2.1 pc (.iaload) 1 pc') (hq : stW[i0]? = some q) (hin : vp_in i q.2.length) (k : Ev X y d mc ms Q cells slots pc' ls (vI (q.2.getD i.toNatClampNeg 0) :: st) h) : Ev X y d mc ms Q cells slots pc ls (vI i :: vR (some (i0 + 1)) :: st) h := by
  obtain ⟨hd, rfl⟩ := hd
  intro p e s m args below meth c H locs lsr C hC hS hl
  have kk := k p e s m args below meth c H locs lsr C hC hS hl
  obtain ⟨hx, hb, hmx, hret, hown, hts, hlk, hnm, hK, hP, hsz⟩ := C
  have hi : i0 < 3 := (List.getElem?_eq_some_iff.mp hq).1
  have e0 : ad X (i0 + 1) = xS X (i0 + 1) := by unfold ad; rw [if_pos (by omega)]
  show W _ _ _ _ _ _ _ _ _ _ _ _ _ _ _ (F0 m pc lsr (.int i :: .ref (ad X (i0 + 1)) :: st.map (cv X)))
  rw [e0]
  exact va_ti hx hb (hP.1 i0 q hq).2 hS hin rfl hd kk
theorem e_ialoadX {i : Int32} (hd : At y.2.1 pc (.iaload) 1 pc') (hin : vp_in i (xN X)) (k : Ev X y d mc ms Q cells slots pc' ls (vI (xs X i.toNatClampNeg) :: st) h) : Ev X y d mc ms Q cells slots pc ls (vI i :: vR (some 6) :: st) h := by
  obtain ⟨hd, rfl⟩ := hd
  intro p e s m args below meth c H locs lsr C hC hS hl
  have kk := k p e s m args below meth c H locs lsr C hC hS hl
  obtain ⟨hx, hb, hmx, hret, hown, hts, hlk, hnm, hK, hP, hsz⟩ := C
  exact va_ti hx hb hP.2.1 hS hin rfl hd kk
theorem e_alenX (hd : At y.2.1 pc (.arraylength) 1 pc') (k : Ev X y d mc ms Q cells slots pc' ls (vI (Int32.ofNat (xN X)) :: st) h) : Ev X y d mc ms Q cells slots pc ls (vR (some 6) :: st) h := by
  obtain ⟨hd, rfl⟩ := hd
  intro p e s m args below meth c H locs lsr C hC hS hl
  have kk := k p e s m args below meth c H locs lsr C hC hS hl
  obtain ⟨hx, hb, hmx, hret, hown, hts, hlk, hnm, hK, hP, hsz⟩ := C
  exact va_tlen hx hb hP.2.1 hS rfl hd kk
theorem e_ldc {v : Int32} (hd : At y.2.1 pc (.ldc ix) 2 pc') (w : .constant y.1.cls ix v ∈ TT) (k : Ev X y d mc ms Q cells slots pc' ls (vI v :: st) h) : Ev X y d mc ms Q cells slots pc ls st h := by
  obtain ⟨hd, rfl⟩ := hd
  intro p e s m args below meth c H locs lsr C hC hS hl
  have kk := k p e s m args below meth c H locs lsr C hC hS hl
  exact lv_ldc C.1 C.2.1 C.2.2.2.2.1 (C.2.2.2.2.2.1 _ w) hd kk
theorem e_ldcw {v : Int32} (hd : At y.2.1 pc (.ldc_w ix) 3 pc') (w : .constant y.1.cls ix v ∈ TT) (k : Ev X y d mc ms Q cells slots pc' ls (vI v :: st) h) : Ev X y d mc ms Q cells slots pc ls st h := by
  obtain ⟨hd, rfl⟩ := hd
  intro p e s m args below meth c H locs lsr C hC hS hl
  have kk := k p e s m args below meth c H locs lsr C hC hS hl
  exact lv_ldcw C.1 C.2.1 C.2.2.2.2.1 (C.2.2.2.2.2.1 _ w) hd kk
theorem e_ldc2 {v : Int64} (hd : At y.2.1 pc (.ldc2_w ix) 3 pc') (w : .constantLong y.1.cls ix v ∈ TT) (k : Ev X y d mc ms Q cells slots pc' ls (vL v :: st) h) : Ev X y d mc ms Q cells slots pc ls st h := by
  obtain ⟨hd, rfl⟩ := hd
  intro p e s m args below meth c H locs lsr C hC hS hl
  have kk := k p e s m args below meth c H locs lsr C hC hS hl
  exact lv_ldc2 C.1 C.2.1 C.2.2.2.2.1 (C.2.2.2.2.2.1 _ w) hd kk
/-! two references -/
theorem ad_inj {X : EX} {a b : Nat} (h1 : 32 ≤ a) (h2 : 32 ≤ b) : ad X a = ad X b ↔ a = b := by
  unfold ad
  rw [if_neg (by omega), if_neg (by omega)]
  omega
theorem e_acmpne {r1 r2 : Option Nat} {off : Int} {tgt : Nat} (hd : Br y.2.1 pc (.if_acmp .ne off) off pc' tgt) (g1 : ∀ a, r1 = some a → 32 ≤ a) (g2 : ∀ a, r2 = some a → 32 ≤ a) (kt : ¬ r1 = r2 → Ev X y d mc ms Q cells slots tgt ls st h) (kf : r1 = r2 → Ev X y d mc ms Q cells slots pc' ls st h) : Ev X y d mc ms Q cells slots pc ls (vR r2 :: vR r1 :: st) h := by
  obtain ⟨hd, rfl, ht⟩ := hd
  intro p e s m args below meth c H locs lsr C hC hS hl
  have key : r1.map (ad X) = r2.map (ad X) ↔ r1 = r2 := by
    cases r1 with
    | none => cases r2 <;> simp
    | some a => cases r2 with
      | none => simp
      | some b =>
        have := ad_inj (X := X) (g1 a rfl) (g2 b rfl)
        simp [this]
  exact lv_acmp_ne C.1 C.2.1 hd ht (fun q => kt (fun z => q (key.mpr z)) p e s m args below meth c H locs lsr C hC hS hl) (fun q => kf (key.mp q) p e s m args below meth c H locs lsr C hC hS hl)
theorem e_acmpeqT {r0 : Option Nat} {off : Int} {tgt : Nat} (hd : Br y.2.1 pc (.if_acmp .eq off) off pc' tgt) (kt : Ev X y d mc ms Q cells slots tgt ls st h) : Ev X y d mc ms Q cells slots pc ls (vR r0 :: vR r0 :: st) h := by
  obtain ⟨hd, rfl, ht⟩ := hd
  intro p e s m args below meth c H locs lsr C hC hS hl
  exact lv_acmp_eq C.1 C.2.1 hd ht (fun q => kt p e s m args below meth c H locs lsr C hC hS hl) (fun q => absurd rfl q)
/-! the law's ORDERS; the platform's empty row -/
theorem e_getsO (hd : At y.2.1 pc (.getstatic ix) 3 pc') (w : .fieldLink y.1.cls ix RL "ORDERS" "[[I" ∈ TT) (k : Ev X y d mc ms Q cells slots pc' ls (vR (some 7) :: st) h) : Ev X y d mc ms Q cells slots pc ls st h := by
  obtain ⟨hd, rfl⟩ := hd
  intro p e s m args below meth c H locs lsr C hC hS hl
  have kk := k p e s m args below meth c H locs lsr C hC hS hl
  obtain ⟨hx, hb, hmx, hret, hown, hts, hlk, hnm, hK, hP, hsz⟩ := C
  exact va_gets hx hb hP.2.2.1.1 hS hown (hts _ w) (fun _ z => z) hd kk
theorem e_getsD (hd : At y.2.1 pc (.getstatic ix) 3 pc') (w : .fieldLink y.1.cls ix RJx4a65c "DEFAULTCAPACITY_EMPTY_ELEMENTDATA" "[Ljava/lang/Object;" ∈ TT) (k : Ev X y d mc ms Q cells slots pc' ls (vR (some 14) :: st) h) : Ev X y d mc ms Q cells slots pc ls st h := by
  obtain ⟨hd, rfl⟩ := hd
  intro p e s m args below meth c H locs lsr C hC hS hl
  have kk := k p e s m args below meth c H locs lsr C hC hS hl
  obtain ⟨hx, hb, hmx, hret, hown, hts, hlk, hnm, hK, hP, hsz⟩ := C
  exact va_gets hx hb hP.2.2.2.2.1 hS hown (hts _ w) (fun _ z => z) hd kk
theorem e_alenD (hd : At y.2.1 pc (.arraylength) 1 pc') (k : Ev X y d mc ms Q cells slots pc' ls (vI 0 :: st) h) : Ev X y d mc ms Q cells slots pc ls (vR (some 14) :: st) h := by
  obtain ⟨hd, rfl⟩ := hd
  intro p e s m args below meth c H locs lsr C hC hS hl
  have kk := k p e s m args below meth c H locs lsr C hC hS hl
  obtain ⟨hx, hb, hmx, hret, hown, hts, hlk, hnm, hK, hP, hsz⟩ := C
  exact va_tlen hx hb hP.2.2.2.2.2 hS rfl hd kk
theorem va_tq {p : Program} {l : Launch} {e : Env} {R : Room} {s : State} {m : MethodId} {args : Array Value} {below : List Frame} {meth : Method} {c : Code} {H : Heap} {locs : List Loc} {Qs : State → Prop} {cc : ByteArray} {lsr : Array Slot} {rest : List Value} {A : Nat → Prop} {t N : Nat} {f : Nat → Value} (hexec : p.tables.exec = Jvm.exec) (hb : c.code = cc) (hT : va_T (.array .int) t N f A s s.heap) (hS : va_S A s.heap H locs) {i : Int32} (hin : vp_in i N) {v : Value} (hv : f i.toNatClampNeg = v) (hdg : decode cc pc = .ok (.aaload, 1))
    (kk : W p l e R s m args below meth c H locs cells slots Qs (F0 m (pc + 1) lsr (v :: rest))) : W p l e R s m args below meth c H locs cells slots Qs (F0 m pc lsr (.int i :: .ref t :: rest)) := by
  obtain ⟨cell, h1, h2, h3, h4, h5, h6, h7⟩ := hT
  have hlt : i.toNatClampNeg < N := Nat.not_le.mp fun q => hin (Or.inr q)
  have hin' : ¬ (i < 0 ∨ cell.slots.size ≤ i.toNatClampNeg) := by
    intro q
    rcases q with q | q
    · exact hin (Or.inl q)
    · omega
  exact W.aald (v := v) (ty := .array .int) hexec hb (by rw [hS.2.1 t (Array.getElem?_eq_some_iff.mp h1).1 h7]; exact h1) h2 rfl h3 hin' (by rw [h6 _ hlt, hv]) rfl rfl hdg kk
theorem e_aaloadO {i : Int32} {i0 : Nat} (hd : At y.2.1 pc (.aaload) 1 pc') (hin : vp_in i 6) (hi : i.toNatClampNeg = i0) (k : Ev X y d mc ms Q cells slots pc' ls (vR (some (i0 + 8)) :: st) h) : Ev X y d mc ms Q cells slots pc ls (vI i :: vR (some 7) :: st) h := by
  obtain ⟨hd, rfl⟩ := hd
  intro p e s m args below meth c H locs lsr C hC hS hl
  have kk := k p e s m args below meth c H locs lsr C hC hS hl
  obtain ⟨hx, hb, hmx, hret, hown, hts, hlk, hnm, hK, hP, hsz⟩ := C
  have h6 : i.toNatClampNeg < 6 := Nat.not_le.mp fun q => hin (Or.inr q)
  have e0 : ad X (i0 + 8) = xS X (i0 + 8) := by unfold ad; rw [if_pos (by omega)]
  refine va_tq hx hb hP.2.2.1.2 hS hin (v := .ref (xS X (i0 + 8))) (by rw [hi]) hd ?_
  rw [← e0]
  exact kk
theorem e_ialoadO {i0 : Nat} {q : List Int32} {i : Int32} (hd : At y.2.1 pc (.iaload) 1 pc') (hq : orW[i0]? = some q) (hin : vp_in i q.length) (k : Ev X y d mc ms Q cells slots pc' ls (vI (q.getD i.toNatClampNeg 0) :: st) h) : Ev X y d mc ms Q cells slots pc ls (vI i :: vR (some (i0 + 8)) :: st) h := by
  obtain ⟨hd, rfl⟩ := hd
  intro p e s m args below meth c H locs lsr C hC hS hl
  have kk := k p e s m args below meth c H locs lsr C hC hS hl
  obtain ⟨hx, hb, hmx, hret, hown, hts, hlk, hnm, hK, hP, hsz⟩ := C
  have hi : i0 < 6 := (List.getElem?_eq_some_iff.mp hq).1
  have e0 : ad X (i0 + 8) = xS X (i0 + 8) := by unfold ad; rw [if_pos (by omega)]
  show W _ _ _ _ _ _ _ _ _ _ _ _ _ _ _ (F0 m pc lsr (.int i :: .ref (ad X (i0 + 8)) :: st.map (cv X)))
  rw [e0]
  exact va_ti hx hb (hP.2.2.2.1 i0 q hq) hS hin rfl hd kk
/-! rows of Object: a store of a row of ints; casts to it -/
theorem e_aastoreO {i : Int32} {b : Nat} (hd : At y.2.1 pc (.aastore) 1 pc') (ok : Is h a 20) (ok2 : Is h b 13) (hin : vp_in i (hN h a)) (k : Ev X y d mc ms Q cells slots pc' ls st (wR h a i.toNatClampNeg (some b))) : Ev X y d mc ms Q cells slots pc ls (vR (some b) :: vI i :: vR (some a) :: st) h := by
  obtain ⟨hd, rfl⟩ := hd
  intro p e s m args below meth c H locs lsr C hC hS hl
  have kk := fun H1 locs1 hC1 hS1 => k p e s m args below meth c H1 locs1 lsr C hC1 hS1 hl
  obtain ⟨hx, hb, hmx, hret, hown, hts, hlk, hnm, hK, hP, hsz⟩ := C
  have he := wl_get (X := X) ok.1 ok.2.1
  rw [ent_ref (by decide) ok.2.2] at he
  have hv := wl_get (X := X) ok2.1 ok2.2.1
  rw [ent_int (by decide) ok2.2.2] at hv
  have hc2 : H[ad X b]? = some (vp_cell (xA X 13) (hN h b, .inl (hI h b))) := hC.2.2 _ _ hv
  obtain ⟨kA, comp, k1, k2, k3, -⟩ := (hK.1.2 9 _ rfl).2
  obtain ⟨kE, hkE, -⟩ := Vm.findClass_spec k3
  obtain ⟨c0, t1, f1, f2, f3⟩ := Cond.castable_spec (va_Nw.use (A := args) rfl hK.2.2.2)
  obtain ⟨-, kI, hkI, -⟩ := (hK.1.2 2 _ rfl).1 0 (fun _ => .null)
  have hkI : s.vm.classes[xA X 13]? = some kI := hkI
  have e1 : xA X 13 = c0 := Option.some.inj ((hK.1.2 2 _ rfl).2.symm.trans f1)
  have e2 : comp = t1 := Option.some.inj (k3.symm.trans f2)
  have hlt : i.toNatClampNeg < hN h a := Nat.not_le.mp fun q => hin (Or.inr q)
  have h0 : ¬ i < 0 := fun q => hin (Or.inl q)
  refine W.aast hx hb (hC.2.2 _ _ he) (fun q h => by cases h) (fun h => by cases h) k1 k2 rfl hkE ⟨h0, by show _ < (arrV _ _ _).slots.size; rw [arrV_size]; exact hlt⟩ hc2 (fun q h => by cases h) hkI (by rw [e2]; show s.vm.assignable (xA X 13) t1 = true; rw [e1]; exact f3) rfl rfl hd fun H1 e1 z oq => ?_
  refine kk H1 _ (corH_set hC ok.1 ok.2.1 rfl ?_ (fun q hq => ent_wR hq) z oq) (hS.put z oq (ad_A ok.1))
  have ok' : hT (wR h a i.toNatClampNeg (some b)) a = 20 := ok.2.2
  rw [ent_ref (by decide) ok']
  show H1[ad X a]? = some (vp_cell _ _)
  rw [e1, vp_cell_q, vp_cell_q, arrV_store]
  congr 2
  funext q
  by_cases hq : q = i.toNatClampNeg
  · subst hq
    simp [updV, up2, hR, wR, va_rf]
  · simp [updV, hR, wR, up2, hq]
theorem e_castA {b : Nat} (hd : At y.2.1 pc (.checkcast ix) 3 pc') (w : .classLink y.1.cls ix "[I" ∈ TT) (ok : Is h b 13) (k : Ev X y d mc ms Q cells slots pc' ls (vR (some b) :: st) h) : Ev X y d mc ms Q cells slots pc ls (vR (some b) :: st) h := by
  obtain ⟨hd, rfl⟩ := hd
  intro p e s m args below meth c H locs lsr C hC hS hl
  have kk := k p e s m args below meth c H locs lsr C hC hS hl
  obtain ⟨hx, hb, hmx, hret, hown, hts, hlk, hnm, hK, hP, hsz⟩ := C
  have he := wl_get (X := X) ok.1 ok.2.1
  rw [ent_int (by decide) ok.2.2] at he
  exact va_castA hx hb hown (hts _ w) hC.2.2 _ he (hK.1.2 2 _ rfl).2 hd kk
theorem e_castN (hd : At y.2.1 pc (.checkcast ix) 3 pc') (k : Ev X y d mc ms Q cells slots pc' ls (vR none :: st) h) : Ev X y d mc ms Q cells slots pc ls (vR none :: st) h := by
  obtain ⟨hd, rfl⟩ := hd
  intro p e s m args below meth c H locs lsr C hC hS hl
  have kk := k p e s m args below meth c H locs lsr C hC hS hl
  exact lv_castN C.1 C.2.1 hd kk
/-! Math.min -/
theorem e_min {x y0 : Int32} (hd : At y.2.1 pc (.invokestatic ix) 3 pc') (w1 : .methodLink y.1.cls ix Lib.Math.min.name ∈ TT) (w2 : .static Lib.Math.min.name ∈ TT) (w3 : .initialized "java/lang/Math" ∈ TT) (w4 : .code Lib.Math.min.name Lib.Math.min.code 2 (some .int) ∈ TT) (hdd : 1 ≤ d) (hcc : cells ≤ mc) (hss : slots ≤ ms) (hcat : catL st ≤ 8) (k : Ev X y d mc ms Q cells slots pc' ls (vI (if y0 < x then y0 else x) :: st) h) : Ev X y d mc ms Q cells slots pc ls (vI y0 :: vI x :: st) h := by
  obtain ⟨hd, rfl⟩ := hd
  intro p e s m args below meth c H locs lsr C hC hS hl
  have kk := k p e s m args below meth c H locs lsr C hC hS hl
  obtain ⟨lv, hv, -⟩ := id hl
  obtain ⟨hx, hb, hmx, hret, hown, hts, hlk, hnm, hK, hP, hsz⟩ := C
  exact va_mmin hx hb (by rw [hmx]; exact hv.1.symm) hown (hts _ w1) (hts _ w2) (hts _ w3) (hts _ w4) hdd (by rw [catL_eq]; show catL st + 13 ≤ 40 * d; omega) hcc hss hd kk
end R9
end
section
/-! System.arraycopy (ints, longs) (written by wip/p45/gen8.py) -/
def cpI (h : HP) (a b sp dp n : Nat) : HP := (fun q j => if q = b then va_cpy (hI h a) (hI h b) sp dp n j else hI h q j, h.2)
def cpL (h : HP) (a b sp dp n : Nat) : HP := (h.1, fun q j => if q = b then va_cpy (hL h a) (hL h b) sp dp n j else hL h q j, h.2.2)
theorem nn_int {z : Int32} (hz : ¬ z < 0) : z.toInt = (z.toNatClampNeg : Int) := by
  have h0 : (0 : Int) ≤ z.toInt := by
    have := Int32.le_iff_toInt_le.mp (Int32.not_lt.mp hz)
    simpa using this
  show z.toInt = ((z.toInt.toNat : Nat) : Int)
  omega
section R10
variable {X : EX} {y : MD} {d mc ms : Nat} {Q : Option VV → HP → Prop} {cells slots pc pc' : Nat} {ls : ZL} {st : List VV} {h : HP} {ix a b : Nat}
theorem e_copyI {sp dp n : Int32} (hd : At y.2.1 pc (.invokestatic ix) 3 pc') (w1 : .methodLink y.1.cls ix arraycopyName ∈ TT) (w2 : .native arraycopyName ∈ TT) (w3 : .static arraycopyName ∈ TT) (w4 : .initialized "java/lang/System" ∈ TT) (ok1 : Is h a 13) (ok2 : Is h b 13) (h1 : ¬ sp < 0) (h2 : ¬ dp < 0) (h3 : ¬ n < 0) (h4 : sp.toNatClampNeg + n.toNatClampNeg ≤ hN h a) (h5 : dp.toNatClampNeg + n.toNatClampNeg ≤ hN h b)
    (hdd : 1 ≤ d) (hcat : catL st ≤ 8) (k : Ev X y d mc ms Q cells slots pc' ls st (cpI h a b sp.toNatClampNeg dp.toNatClampNeg n.toNatClampNeg)) : Ev X y d mc ms Q cells slots pc ls (vI n :: vI dp :: vR (some b) :: vI sp :: vR (some a) :: st) h := by
  obtain ⟨hd, rfl⟩ := hd
  intro p e s m args below meth c H locs lsr C hC hS hl
  have kk := fun H1 locs1 hC1 hS1 => k p e s m args below meth c H1 locs1 lsr C hC1 hS1 hl
  obtain ⟨lv, hv, -⟩ := id hl
  obtain ⟨hx, hb, hmx, hret, hown, hts, hlk, hnm, hK, hP, hsz⟩ := C
  have he1 := wl_get (X := X) ok1.1 ok1.2.1
  have he2 := wl_get (X := X) ok2.1 ok2.2.1
  rw [ent_int (t := 13) (by decide) ok1.2.2] at he1
  rw [ent_int (t := 13) (by decide) ok2.2.2] at he2
  have hc1 : H[ad X a]? = some (vp_cell (xA X 13) (hN h a, .inl (hI h a))) := hC.2.2 _ _ he1
  have hc2 : H[ad X b]? = some (vp_cell (xA X 13) (hN h b, .inl (hI h b))) := hC.2.2 _ _ he2
  obtain ⟨-, k1, hk1, cm1, hkk1⟩ := (hK.1.2 2 _ rfl).1 0 (fun _ => .null)
  have hk1 : s.vm.classes[xA X 13]? = some k1 := hk1
  have hkk1 : k1.kind = .array cm1 .int := hkk1
  intro T hT X0
  obtain ⟨vm', X', step⟩ := X0.arraycopy hx hown (hts _ w1) (hts _ w2) (hts _ w3) (hts _ w4) (src := ad X a) (dst := ad X b) (cs := vp_cell (xA X 13) (hN h a, .inl (hI h a))) (cd := vp_cell (xA X 13) (hN h b, .inl (hI h b))) (srcPos := sp) (destPos := dp) (n := n) (by rw [hT]; exact hc1) (by rw [hT]; exact hc2)
    (fun _ h => by cases h) (fun _ h => by cases h) (fun h => by cases h) (fun h => by cases h) hk1 hk1 hkk1 hkk1 (by simp [refKind]) h1 h2 h3
    (by rw [nn_int h1, nn_int h3]; show ¬ _ > ((arrV _ _ (fun j => .int (hI h a j))).slots.size : Int); rw [arrV_size]; omega)
    (by rw [nn_int h2, nn_int h3]; show ¬ _ > ((arrV _ _ (fun j => .int (hI h b j))).slots.size : Int); rw [arrV_size]; omega)
    (fun vm₁ _ i hi => by
      have e9 : (vp_cell (xA X 13) (hN h a, .inl (hI h a))).slots.getD (sp.toNatClampNeg + i) .null = .int (hI h a (sp.toNatClampNeg + i)) := by
        show (arrV _ _ (fun j => .int (hI h a j))).slots.getD _ _ = _
        rw [Array.getD_eq_getD_getElem?, arrV_read _ _ (by omega)]
        rfl
      refine ⟨?_, ?_⟩
      · rw [e9]; rfl
      · rw [e9]; exact trivial)
    (g := F0 m pc lsr (.int n :: .int dp :: .ref (ad X b) :: .int sp :: .ref (ad X a) :: st.map (cv X))) rfl (by rw [hmx]; exact hv.1) (rest := st.map (cv X)) rfl (by rw [hb]; exact hd) hdd
    (by rw [catL_eq]; have hnf : nativeFrameWords "java/lang/System" "arraycopy" 5 ≤ 20 := by decide
        show 2 * 0 + catL st + (nativeFrameWords "java/lang/System" "arraycopy" 5 + 11) ≤ 40 * d; omega)
  have e1 : copied (vp_cell (xA X 13) (hN h a, .inl (hI h a))) (vp_cell (xA X 13) (hN h b, .inl (hI h b))) sp dp n = vp_cell (xA X 13) (hN h b, .inl (va_cpy (hI h a) (hI h b) sp.toNatClampNeg dp.toNatClampNeg n.toNatClampNeg)) := va_copied (fun z => .int z) _ _ (hI h a) (hI h b) h4
  rw [e1] at X' step
  have hlt : ad X b < H.size := (Array.getElem?_eq_some_iff.mp hc2).1
  generalize hnew : vp_cell (xA X 13) (hN h b, .inl (va_cpy (hI h a) (hI h b) sp.toNatClampNeg dp.toNatClampNeg n.toNatClampNeg)) = cN at X' step
  have hheap : ((T.setVm vm').setCell (ad X b) cN).heap = H.setIfInBounds (ad X b) cN := by rw [← hT]; rfl
  have oq : ∀ q : Nat, q ≠ ad X b → (H.setIfInBounds (ad X b) cN)[q]? = H[q]? := fun q hq => by simp [Array.getElem?_setIfInBounds, Ne.symm hq]
  have hz : (H.setIfInBounds (ad X b) cN).size = H.size := by simp
  have hcor : CorH X (cpI h a b sp.toNatClampNeg dp.toNatClampNeg n.toNatClampNeg) (H.setIfInBounds (ad X b) cN) := by
    refine corH_set (a := b) hC ok2.1 ok2.2.1 rfl ?_ ?_ hz oq
    · have ok' : (cpI h a b sp.toNatClampNeg dp.toNatClampNeg n.toNatClampNeg).2.2.2.1 b = 13 := ok2.2.2
      rw [ent_int (t := 13) (by decide) ok']
      have e5 : hI (cpI h a b sp.toNatClampNeg dp.toNatClampNeg n.toNatClampNeg) b = va_cpy (hI h a) (hI h b) sp.toNatClampNeg dp.toNatClampNeg n.toNatClampNeg := by
        funext j
        exact if_pos rfl
      rw [e5]
      show (H.setIfInBounds (ad X b) cN)[ad X b]? = some (vp_cell (xA X 13) (hN h b, _))
      rw [hnew]
      simp [Array.getElem?_setIfInBounds, hlt]
    · intro q hq
      have e5 : hI (cpI h a b sp.toNatClampNeg dp.toNatClampNeg n.toNatClampNeg) q = hI h q := by
        funext j
        exact if_neg hq
      unfold ent
      rw [e5]
      rfl
  obtain ⟨t, a1, b1⟩ := kk (H.setIfInBounds (ad X b) cN) _ hcor ⟨by rw [hz]; exact hS.1, fun q g1 g2 => by
      rw [oq q (fun e => g2 (by rw [e]; exact ad_A ok2.1))]
      exact hS.2.1 q g1 g2, fun q hq => by
      rcases List.mem_append.mp hq with h | h
      · exact hS.2.2 q h
      · obtain ⟨z, -, hz⟩ := List.mem_map.mp h
        rw [← hz]
        exact ad_A ok2.1⟩ _ hheap X'
  exact ⟨t, step t a1, b1⟩
theorem e_copyL {sp dp n : Int32} (hd : At y.2.1 pc (.invokestatic ix) 3 pc') (w1 : .methodLink y.1.cls ix arraycopyName ∈ TT) (w2 : .native arraycopyName ∈ TT) (w3 : .static arraycopyName ∈ TT) (w4 : .initialized "java/lang/System" ∈ TT) (ok1 : Is h a 14) (ok2 : Is h b 14) (h1 : ¬ sp < 0) (h2 : ¬ dp < 0) (h3 : ¬ n < 0) (h4 : sp.toNatClampNeg + n.toNatClampNeg ≤ hN h a) (h5 : dp.toNatClampNeg + n.toNatClampNeg ≤ hN h b)
    (hdd : 1 ≤ d) (hcat : catL st ≤ 8) (k : Ev X y d mc ms Q cells slots pc' ls st (cpL h a b sp.toNatClampNeg dp.toNatClampNeg n.toNatClampNeg)) : Ev X y d mc ms Q cells slots pc ls (vI n :: vI dp :: vR (some b) :: vI sp :: vR (some a) :: st) h := by
  obtain ⟨hd, rfl⟩ := hd
  intro p e s m args below meth c H locs lsr C hC hS hl
  have kk := fun H1 locs1 hC1 hS1 => k p e s m args below meth c H1 locs1 lsr C hC1 hS1 hl
  obtain ⟨lv, hv, -⟩ := id hl
  obtain ⟨hx, hb, hmx, hret, hown, hts, hlk, hnm, hK, hP, hsz⟩ := C
  have he1 := wl_get (X := X) ok1.1 ok1.2.1
  have he2 := wl_get (X := X) ok2.1 ok2.2.1
  rw [ent_long ok1.2.2] at he1
  rw [ent_long ok2.2.2] at he2
  have hc1 : H[ad X a]? = some (vp_cell (xA X 14) (hN h a, .inr (.inl (hL h a)))) := hC.2.2 _ _ he1
  have hc2 : H[ad X b]? = some (vp_cell (xA X 14) (hN h b, .inr (.inl (hL h b)))) := hC.2.2 _ _ he2
  obtain ⟨-, k1, hk1, cm1, hkk1⟩ := (hK.1.2 3 _ rfl).1 0 (fun _ => .null)
  have hk1 : s.vm.classes[xA X 14]? = some k1 := hk1
  have hkk1 : k1.kind = .array cm1 .long := hkk1
  intro T hT X0
  obtain ⟨vm', X', step⟩ := X0.arraycopy hx hown (hts _ w1) (hts _ w2) (hts _ w3) (hts _ w4) (src := ad X a) (dst := ad X b) (cs := vp_cell (xA X 14) (hN h a, .inr (.inl (hL h a)))) (cd := vp_cell (xA X 14) (hN h b, .inr (.inl (hL h b)))) (srcPos := sp) (destPos := dp) (n := n) (by rw [hT]; exact hc1) (by rw [hT]; exact hc2)
    (fun _ h => by cases h) (fun _ h => by cases h) (fun h => by cases h) (fun h => by cases h) hk1 hk1 hkk1 hkk1 (by simp [refKind]) h1 h2 h3
    (by rw [nn_int h1, nn_int h3]; show ¬ _ > ((arrV _ _ (fun j => .long (hL h a j))).slots.size : Int); rw [arrV_size]; omega)
    (by rw [nn_int h2, nn_int h3]; show ¬ _ > ((arrV _ _ (fun j => .long (hL h b j))).slots.size : Int); rw [arrV_size]; omega)
    (fun vm₁ _ i hi => by
      have e9 : (vp_cell (xA X 14) (hN h a, .inr (.inl (hL h a)))).slots.getD (sp.toNatClampNeg + i) .null = .long (hL h a (sp.toNatClampNeg + i)) := by
        show (arrV _ _ (fun j => .long (hL h a j))).slots.getD _ _ = _
        rw [Array.getD_eq_getD_getElem?, arrV_read _ _ (by omega)]
        rfl
      refine ⟨?_, ?_⟩
      · rw [e9]; rfl
      · rw [e9]; exact trivial)
    (g := F0 m pc lsr (.int n :: .int dp :: .ref (ad X b) :: .int sp :: .ref (ad X a) :: st.map (cv X))) rfl (by rw [hmx]; exact hv.1) (rest := st.map (cv X)) rfl (by rw [hb]; exact hd) hdd
    (by rw [catL_eq]; have hnf : nativeFrameWords "java/lang/System" "arraycopy" 5 ≤ 20 := by decide
        show 2 * 0 + catL st + (nativeFrameWords "java/lang/System" "arraycopy" 5 + 11) ≤ 40 * d; omega)
  have e1 : copied (vp_cell (xA X 14) (hN h a, .inr (.inl (hL h a)))) (vp_cell (xA X 14) (hN h b, .inr (.inl (hL h b)))) sp dp n = vp_cell (xA X 14) (hN h b, .inr (.inl (va_cpy (hL h a) (hL h b) sp.toNatClampNeg dp.toNatClampNeg n.toNatClampNeg))) := va_copied (fun z => .long z) _ _ (hL h a) (hL h b) h4
  rw [e1] at X' step
  have hlt : ad X b < H.size := (Array.getElem?_eq_some_iff.mp hc2).1
  generalize hnew : vp_cell (xA X 14) (hN h b, .inr (.inl (va_cpy (hL h a) (hL h b) sp.toNatClampNeg dp.toNatClampNeg n.toNatClampNeg))) = cN at X' step
  have hheap : ((T.setVm vm').setCell (ad X b) cN).heap = H.setIfInBounds (ad X b) cN := by rw [← hT]; rfl
  have oq : ∀ q : Nat, q ≠ ad X b → (H.setIfInBounds (ad X b) cN)[q]? = H[q]? := fun q hq => by simp [Array.getElem?_setIfInBounds, Ne.symm hq]
  have hz : (H.setIfInBounds (ad X b) cN).size = H.size := by simp
  have hcor : CorH X (cpL h a b sp.toNatClampNeg dp.toNatClampNeg n.toNatClampNeg) (H.setIfInBounds (ad X b) cN) := by
    refine corH_set (a := b) hC ok2.1 ok2.2.1 rfl ?_ ?_ hz oq
    · have ok' : (cpL h a b sp.toNatClampNeg dp.toNatClampNeg n.toNatClampNeg).2.2.2.1 b = 14 := ok2.2.2
      rw [ent_long ok']
      have e5 : hL (cpL h a b sp.toNatClampNeg dp.toNatClampNeg n.toNatClampNeg) b = va_cpy (hL h a) (hL h b) sp.toNatClampNeg dp.toNatClampNeg n.toNatClampNeg := by
        funext j
        exact if_pos rfl
      rw [e5]
      show (H.setIfInBounds (ad X b) cN)[ad X b]? = some (vp_cell (xA X 14) (hN h b, _))
      rw [hnew]
      simp [Array.getElem?_setIfInBounds, hlt]
    · intro q hq
      have e5 : hL (cpL h a b sp.toNatClampNeg dp.toNatClampNeg n.toNatClampNeg) q = hL h q := by
        funext j
        exact if_neg hq
      unfold ent
      rw [e5]
      rfl
  obtain ⟨t, a1, b1⟩ := kk (H.setIfInBounds (ad X b) cN) _ hcor ⟨by rw [hz]; exact hS.1, fun q g1 g2 => by
      rw [oq q (fun e => g2 (by rw [e]; exact ad_A ok2.1))]
      exact hS.2.1 q g1 g2, fun q hq => by
      rcases List.mem_append.mp hq with h | h
      · exact hS.2.2 q h
      · obtain ⟨z, -, hz⟩ := List.mem_map.mp h
        rw [← hz]
        exact ad_A ok2.1⟩ _ hheap X'
  exact ⟨t, step t a1, b1⟩
end R10
end
section
/-! decode rows: the nested classes, the JDK's methods (written by wip/p45/gen9.py) -/
theorem aX0_init_0 : At cX0_init 0 (.aload_n 0) 1 1 := ⟨by decide +kernel, rfl⟩
theorem aX0_init_1 : At cX0_init 1 (.invokespecial 3) 3 4 := ⟨by decide +kernel, rfl⟩
theorem aX0_init_4 : At cX0_init 4 (.aload_n 0) 1 5 := ⟨by decide +kernel, rfl⟩
theorem aX0_init_5 : At cX0_init 5 (.bipush 12) 2 7 := ⟨by decide +kernel, rfl⟩
theorem aX0_init_7 : At cX0_init 7 (.anewarray 9) 3 10 := ⟨by decide +kernel, rfl⟩
theorem aX0_init_10 : At cX0_init 10 (.putfield 11) 3 13 := ⟨by decide +kernel, rfl⟩
theorem aX0_init_13 : At cX0_init 13 (.aload_n 0) 1 14 := ⟨by decide +kernel, rfl⟩
theorem aX0_init_14 : At cX0_init 14 (.iconst 4) 1 15 := ⟨by decide +kernel, rfl⟩
theorem aX0_init_15 : At cX0_init 15 (.newarray .int) 2 17 := ⟨by decide +kernel, rfl⟩
theorem aX0_init_17 : At cX0_init 17 (.putfield 17) 3 20 := ⟨by decide +kernel, rfl⟩
theorem aX0_init_20 : At cX0_init 20 (.aload_n 0) 1 21 := ⟨by decide +kernel, rfl⟩
theorem aX0_init_21 : At cX0_init 21 (.iconst 3) 1 22 := ⟨by decide +kernel, rfl⟩
theorem aX0_init_22 : At cX0_init 22 (.newarray .int) 2 24 := ⟨by decide +kernel, rfl⟩
theorem aX0_init_24 : At cX0_init 24 (.dup) 1 25 := ⟨by decide +kernel, rfl⟩
theorem aX0_init_25 : At cX0_init 25 (.iconst 0) 1 26 := ⟨by decide +kernel, rfl⟩
theorem aX0_init_26 : At cX0_init 26 (.bipush 8) 2 28 := ⟨by decide +kernel, rfl⟩
theorem aX0_init_28 : At cX0_init 28 (.iastore) 1 29 := ⟨by decide +kernel, rfl⟩
theorem aX0_init_29 : At cX0_init 29 (.dup) 1 30 := ⟨by decide +kernel, rfl⟩
theorem aX0_init_30 : At cX0_init 30 (.iconst 1) 1 31 := ⟨by decide +kernel, rfl⟩
theorem aX0_init_31 : At cX0_init 31 (.iconst 4) 1 32 := ⟨by decide +kernel, rfl⟩
theorem aX0_init_32 : At cX0_init 32 (.iastore) 1 33 := ⟨by decide +kernel, rfl⟩
theorem aX0_init_33 : At cX0_init 33 (.dup) 1 34 := ⟨by decide +kernel, rfl⟩
theorem aX0_init_34 : At cX0_init 34 (.iconst 2) 1 35 := ⟨by decide +kernel, rfl⟩
theorem aX0_init_35 : At cX0_init 35 (.iconst 2) 1 36 := ⟨by decide +kernel, rfl⟩
theorem aX0_init_36 : At cX0_init 36 (.iastore) 1 37 := ⟨by decide +kernel, rfl⟩
theorem aX0_init_37 : At cX0_init 37 (.putfield 21) 3 40 := ⟨by decide +kernel, rfl⟩
theorem aX0_init_40 : At cX0_init 40 (.aload_n 0) 1 41 := ⟨by decide +kernel, rfl⟩
theorem aX0_init_41 : At cX0_init 41 (.iconst 1) 1 42 := ⟨by decide +kernel, rfl⟩
theorem aX0_init_42 : At cX0_init 42 (.putfield 24) 3 45 := ⟨by decide +kernel, rfl⟩
theorem aX0_init_45 : At cX0_init 45 (.return_) 1 46 := ⟨by decide +kernel, rfl⟩
theorem aX0_become_0 : At cX0_become 0 (.aload_n 0) 1 1 := ⟨by decide +kernel, rfl⟩
theorem aX0_become_1 : At cX0_become 1 (.aload_n 1) 1 2 := ⟨by decide +kernel, rfl⟩
theorem aX0_become_2 : At cX0_become 2 (.getfield 28) 3 5 := ⟨by decide +kernel, rfl⟩
theorem aX0_become_5 : At cX0_become 5 (.putfield 28) 3 8 := ⟨by decide +kernel, rfl⟩
theorem aX0_become_8 : At cX0_become 8 (.iconst 0) 1 9 := ⟨by decide +kernel, rfl⟩
theorem aX0_become_9 : At cX0_become 9 (.istore_n 2) 1 10 := ⟨by decide +kernel, rfl⟩
theorem aX0_become_10 : At cX0_become 10 (.iload_n 2) 1 11 := ⟨by decide +kernel, rfl⟩
theorem aX0_become_11 : At cX0_become 11 (.aload_n 0) 1 12 := ⟨by decide +kernel, rfl⟩
theorem aX0_become_12 : At cX0_become 12 (.getfield 28) 3 15 := ⟨by decide +kernel, rfl⟩
theorem aX0_become_15 : Br cX0_become 15 (.if_icmp .ge (21)) (21) 18 36 := ⟨by decide +kernel, rfl, by decide⟩
theorem aX0_become_18 : At cX0_become 18 (.aload_n 0) 1 19 := ⟨by decide +kernel, rfl⟩
theorem aX0_become_19 : At cX0_become 19 (.getfield 11) 3 22 := ⟨by decide +kernel, rfl⟩
theorem aX0_become_22 : At cX0_become 22 (.iload_n 2) 1 23 := ⟨by decide +kernel, rfl⟩
theorem aX0_become_23 : At cX0_become 23 (.aload_n 1) 1 24 := ⟨by decide +kernel, rfl⟩
theorem aX0_become_24 : At cX0_become 24 (.getfield 11) 3 27 := ⟨by decide +kernel, rfl⟩
theorem aX0_become_27 : At cX0_become 27 (.iload_n 2) 1 28 := ⟨by decide +kernel, rfl⟩
theorem aX0_become_28 : At cX0_become 28 (.aaload) 1 29 := ⟨by decide +kernel, rfl⟩
theorem aX0_become_29 : At cX0_become 29 (.aastore) 1 30 := ⟨by decide +kernel, rfl⟩
theorem aX0_become_30 : At cX0_become 30 (.iinc 2 1) 3 33 := ⟨by decide +kernel, rfl⟩
theorem aX0_become_33 : Br cX0_become 33 (.goto (-23)) (-23) 36 10 := ⟨by decide +kernel, rfl, by decide⟩
theorem aX0_become_36 : At cX0_become 36 (.aload_n 1) 1 37 := ⟨by decide +kernel, rfl⟩
theorem aX0_become_37 : At cX0_become 37 (.getfield 17) 3 40 := ⟨by decide +kernel, rfl⟩
theorem aX0_become_40 : At cX0_become 40 (.iconst 0) 1 41 := ⟨by decide +kernel, rfl⟩
theorem aX0_become_41 : At cX0_become 41 (.aload_n 0) 1 42 := ⟨by decide +kernel, rfl⟩
theorem aX0_become_42 : At cX0_become 42 (.getfield 17) 3 45 := ⟨by decide +kernel, rfl⟩
theorem aX0_become_45 : At cX0_become 45 (.iconst 0) 1 46 := ⟨by decide +kernel, rfl⟩
theorem aX0_become_46 : At cX0_become 46 (.iconst 4) 1 47 := ⟨by decide +kernel, rfl⟩
theorem aX0_become_47 : At cX0_become 47 (.invokestatic 31) 3 50 := ⟨by decide +kernel, rfl⟩
theorem aX0_become_50 : At cX0_become 50 (.aload_n 0) 1 51 := ⟨by decide +kernel, rfl⟩
theorem aX0_become_51 : At cX0_become 51 (.aload_n 1) 1 52 := ⟨by decide +kernel, rfl⟩
theorem aX0_become_52 : At cX0_become 52 (.getfield 37) 3 55 := ⟨by decide +kernel, rfl⟩
theorem aX0_become_55 : At cX0_become 55 (.putfield 37) 3 58 := ⟨by decide +kernel, rfl⟩
theorem aX0_become_58 : At cX0_become 58 (.aload_n 1) 1 59 := ⟨by decide +kernel, rfl⟩
theorem aX0_become_59 : At cX0_become 59 (.getfield 21) 3 62 := ⟨by decide +kernel, rfl⟩
theorem aX0_become_62 : At cX0_become 62 (.iconst 0) 1 63 := ⟨by decide +kernel, rfl⟩
theorem aX0_become_63 : At cX0_become 63 (.aload_n 0) 1 64 := ⟨by decide +kernel, rfl⟩
theorem aX0_become_64 : At cX0_become 64 (.getfield 21) 3 67 := ⟨by decide +kernel, rfl⟩
theorem aX0_become_67 : At cX0_become 67 (.iconst 0) 1 68 := ⟨by decide +kernel, rfl⟩
theorem aX0_become_68 : At cX0_become 68 (.iconst 3) 1 69 := ⟨by decide +kernel, rfl⟩
theorem aX0_become_69 : At cX0_become 69 (.invokestatic 31) 3 72 := ⟨by decide +kernel, rfl⟩
theorem aX0_become_72 : At cX0_become 72 (.aload_n 0) 1 73 := ⟨by decide +kernel, rfl⟩
theorem aX0_become_73 : At cX0_become 73 (.aload_n 1) 1 74 := ⟨by decide +kernel, rfl⟩
theorem aX0_become_74 : At cX0_become 74 (.getfield 24) 3 77 := ⟨by decide +kernel, rfl⟩
theorem aX0_become_77 : At cX0_become 77 (.putfield 24) 3 80 := ⟨by decide +kernel, rfl⟩
theorem aX0_become_80 : At cX0_become 80 (.return_) 1 81 := ⟨by decide +kernel, rfl⟩
theorem aX0_firstOpen_0 : At cX0_firstOpen 0 (.iconst 0) 1 1 := ⟨by decide +kernel, rfl⟩
theorem aX0_firstOpen_1 : At cX0_firstOpen 1 (.istore_n 1) 1 2 := ⟨by decide +kernel, rfl⟩
theorem aX0_firstOpen_2 : At cX0_firstOpen 2 (.iconst 0) 1 3 := ⟨by decide +kernel, rfl⟩
theorem aX0_firstOpen_3 : At cX0_firstOpen 3 (.istore_n 2) 1 4 := ⟨by decide +kernel, rfl⟩
theorem aX0_firstOpen_4 : At cX0_firstOpen 4 (.iload_n 2) 1 5 := ⟨by decide +kernel, rfl⟩
theorem aX0_firstOpen_5 : At cX0_firstOpen 5 (.aload_n 0) 1 6 := ⟨by decide +kernel, rfl⟩
theorem aX0_firstOpen_6 : At cX0_firstOpen 6 (.getfield 37) 3 9 := ⟨by decide +kernel, rfl⟩
theorem aX0_firstOpen_9 : Br cX0_firstOpen 9 (.if_icmp .ge (24)) (24) 12 33 := ⟨by decide +kernel, rfl, by decide⟩
theorem aX0_firstOpen_12 : At cX0_firstOpen 12 (.iload_n 1) 1 13 := ⟨by decide +kernel, rfl⟩
theorem aX0_firstOpen_13 : At cX0_firstOpen 13 (.aload_n 0) 1 14 := ⟨by decide +kernel, rfl⟩
theorem aX0_firstOpen_14 : At cX0_firstOpen 14 (.getfield 17) 3 17 := ⟨by decide +kernel, rfl⟩
theorem aX0_firstOpen_17 : At cX0_firstOpen 17 (.iload_n 2) 1 18 := ⟨by decide +kernel, rfl⟩
theorem aX0_firstOpen_18 : At cX0_firstOpen 18 (.iaload) 1 19 := ⟨by decide +kernel, rfl⟩
theorem aX0_firstOpen_19 : At cX0_firstOpen 19 (.getstatic 40) 3 22 := ⟨by decide +kernel, rfl⟩
theorem aX0_firstOpen_22 : At cX0_firstOpen 22 (.iload_n 2) 1 23 := ⟨by decide +kernel, rfl⟩
theorem aX0_firstOpen_23 : At cX0_firstOpen 23 (.iaload) 1 24 := ⟨by decide +kernel, rfl⟩
theorem aX0_firstOpen_24 : At cX0_firstOpen 24 (.imul) 1 25 := ⟨by decide +kernel, rfl⟩
theorem aX0_firstOpen_25 : At cX0_firstOpen 25 (.iadd) 1 26 := ⟨by decide +kernel, rfl⟩
theorem aX0_firstOpen_26 : At cX0_firstOpen 26 (.istore_n 1) 1 27 := ⟨by decide +kernel, rfl⟩
theorem aX0_firstOpen_27 : At cX0_firstOpen 27 (.iinc 2 1) 3 30 := ⟨by decide +kernel, rfl⟩
theorem aX0_firstOpen_30 : Br cX0_firstOpen 30 (.goto (-26)) (-26) 33 4 := ⟨by decide +kernel, rfl, by decide⟩
theorem aX0_firstOpen_33 : At cX0_firstOpen 33 (.iload_n 1) 1 34 := ⟨by decide +kernel, rfl⟩
theorem aX0_firstOpen_34 : At cX0_firstOpen 34 (.ireturn) 1 35 := ⟨by decide +kernel, rfl⟩
theorem aX0_openCount_0 : At cX0_openCount 0 (.getstatic 43) 3 3 := ⟨by decide +kernel, rfl⟩
theorem aX0_openCount_3 : At cX0_openCount 3 (.aload_n 0) 1 4 := ⟨by decide +kernel, rfl⟩
theorem aX0_openCount_4 : At cX0_openCount 4 (.getfield 37) 3 7 := ⟨by decide +kernel, rfl⟩
theorem aX0_openCount_7 : At cX0_openCount 7 (.iaload) 1 8 := ⟨by decide +kernel, rfl⟩
theorem aX0_openCount_8 : At cX0_openCount 8 (.ireturn) 1 9 := ⟨by decide +kernel, rfl⟩
theorem aX0_endOpen_0 : At cX0_endOpen 0 (.aload_n 0) 1 1 := ⟨by decide +kernel, rfl⟩
theorem aX0_endOpen_1 : At cX0_endOpen 1 (.invokevirtual 46) 3 4 := ⟨by decide +kernel, rfl⟩
theorem aX0_endOpen_4 : At cX0_endOpen 4 (.aload_n 0) 1 5 := ⟨by decide +kernel, rfl⟩
theorem aX0_endOpen_5 : At cX0_endOpen 5 (.invokevirtual 50) 3 8 := ⟨by decide +kernel, rfl⟩
theorem aX0_endOpen_8 : At cX0_endOpen 8 (.iadd) 1 9 := ⟨by decide +kernel, rfl⟩
theorem aX0_endOpen_9 : At cX0_endOpen 9 (.ireturn) 1 10 := ⟨by decide +kernel, rfl⟩
theorem aX0_isOpen_0 : At cX0_isOpen 0 (.iload_n 1) 1 1 := ⟨by decide +kernel, rfl⟩
theorem aX0_isOpen_1 : At cX0_isOpen 1 (.aload_n 0) 1 2 := ⟨by decide +kernel, rfl⟩
theorem aX0_isOpen_2 : At cX0_isOpen 2 (.invokevirtual 46) 3 5 := ⟨by decide +kernel, rfl⟩
theorem aX0_isOpen_5 : Br cX0_isOpen 5 (.if_icmp .lt (15)) (15) 8 20 := ⟨by decide +kernel, rfl, by decide⟩
theorem aX0_isOpen_8 : At cX0_isOpen 8 (.iload_n 1) 1 9 := ⟨by decide +kernel, rfl⟩
theorem aX0_isOpen_9 : At cX0_isOpen 9 (.aload_n 0) 1 10 := ⟨by decide +kernel, rfl⟩
theorem aX0_isOpen_10 : At cX0_isOpen 10 (.invokevirtual 53) 3 13 := ⟨by decide +kernel, rfl⟩
theorem aX0_isOpen_13 : Br cX0_isOpen 13 (.if_icmp .ge (7)) (7) 16 20 := ⟨by decide +kernel, rfl, by decide⟩
theorem aX0_isOpen_16 : At cX0_isOpen 16 (.iconst 1) 1 17 := ⟨by decide +kernel, rfl⟩
theorem aX0_isOpen_17 : Br cX0_isOpen 17 (.goto (4)) (4) 20 21 := ⟨by decide +kernel, rfl, by decide⟩
theorem aX0_isOpen_20 : At cX0_isOpen 20 (.iconst 0) 1 21 := ⟨by decide +kernel, rfl⟩
theorem aX0_isOpen_21 : At cX0_isOpen 21 (.ireturn) 1 22 := ⟨by decide +kernel, rfl⟩
theorem aX0_dealAt_0 : At cX0_dealAt 0 (.iload_n 1) 1 1 := ⟨by decide +kernel, rfl⟩
theorem aX0_dealAt_1 : At cX0_dealAt 1 (.aload_n 0) 1 2 := ⟨by decide +kernel, rfl⟩
theorem aX0_dealAt_2 : At cX0_dealAt 2 (.getfield 28) 3 5 := ⟨by decide +kernel, rfl⟩
theorem aX0_dealAt_5 : At cX0_dealAt 5 (.invokestatic 56) 3 8 := ⟨by decide +kernel, rfl⟩
theorem aX0_dealAt_8 : Br cX0_dealAt 8 (.ifCond .eq (7)) (7) 11 15 := ⟨by decide +kernel, rfl, by decide⟩
theorem aX0_dealAt_11 : At cX0_dealAt 11 (.aconst_null) 1 12 := ⟨by decide +kernel, rfl⟩
theorem aX0_dealAt_12 : Br cX0_dealAt 12 (.goto (9)) (9) 15 21 := ⟨by decide +kernel, rfl, by decide⟩
theorem aX0_dealAt_15 : At cX0_dealAt 15 (.aload_n 0) 1 16 := ⟨by decide +kernel, rfl⟩
theorem aX0_dealAt_16 : At cX0_dealAt 16 (.getfield 11) 3 19 := ⟨by decide +kernel, rfl⟩
theorem aX0_dealAt_19 : At cX0_dealAt 19 (.iload_n 1) 1 20 := ⟨by decide +kernel, rfl⟩
theorem aX0_dealAt_20 : At cX0_dealAt 20 (.aaload) 1 21 := ⟨by decide +kernel, rfl⟩
theorem aX0_dealAt_21 : At cX0_dealAt 21 (.areturn) 1 22 := ⟨by decide +kernel, rfl⟩
theorem aX0_clashOf_0 : At cX0_clashOf 0 (.iload_n 2) 1 1 := ⟨by decide +kernel, rfl⟩
theorem aX0_clashOf_1 : At cX0_clashOf 1 (.iconst 3) 1 2 := ⟨by decide +kernel, rfl⟩
theorem aX0_clashOf_2 : At cX0_clashOf 2 (.irem) 1 3 := ⟨by decide +kernel, rfl⟩
theorem aX0_clashOf_3 : At cX0_clashOf 3 (.istore 5) 2 5 := ⟨by decide +kernel, rfl⟩
theorem aX0_clashOf_5 : At cX0_clashOf 5 (.iconst 1) 1 6 := ⟨by decide +kernel, rfl⟩
theorem aX0_clashOf_6 : At cX0_clashOf 6 (.iload 5) 2 8 := ⟨by decide +kernel, rfl⟩
theorem aX0_clashOf_8 : At cX0_clashOf 8 (.ishl) 1 9 := ⟨by decide +kernel, rfl⟩
theorem aX0_clashOf_9 : At cX0_clashOf 9 (.istore 6) 2 11 := ⟨by decide +kernel, rfl⟩
theorem aX0_clashOf_11 : At cX0_clashOf 11 (.iconst 0) 1 12 := ⟨by decide +kernel, rfl⟩
theorem aX0_clashOf_12 : At cX0_clashOf 12 (.istore 7) 2 14 := ⟨by decide +kernel, rfl⟩
theorem aX0_clashOf_14 : At cX0_clashOf 14 (.iload 7) 2 16 := ⟨by decide +kernel, rfl⟩
theorem aX0_clashOf_16 : At cX0_clashOf 16 (.aload_n 0) 1 17 := ⟨by decide +kernel, rfl⟩
theorem aX0_clashOf_17 : At cX0_clashOf 17 (.getfield 28) 3 20 := ⟨by decide +kernel, rfl⟩
theorem aX0_clashOf_20 : Br cX0_clashOf 20 (.if_icmp .ge (53)) (53) 23 73 := ⟨by decide +kernel, rfl, by decide⟩
theorem aX0_clashOf_23 : At cX0_clashOf 23 (.aload_n 0) 1 24 := ⟨by decide +kernel, rfl⟩
theorem aX0_clashOf_24 : At cX0_clashOf 24 (.iload 7) 2 26 := ⟨by decide +kernel, rfl⟩
theorem aX0_clashOf_26 : At cX0_clashOf 26 (.invokevirtual 60) 3 29 := ⟨by decide +kernel, rfl⟩
theorem aX0_clashOf_29 : At cX0_clashOf 29 (.astore 8) 2 31 := ⟨by decide +kernel, rfl⟩
theorem aX0_clashOf_31 : At cX0_clashOf 31 (.aload 8) 2 33 := ⟨by decide +kernel, rfl⟩
theorem aX0_clashOf_33 : Br cX0_clashOf 33 (.ifnonnull (7)) (7) 36 40 := ⟨by decide +kernel, rfl, by decide⟩
theorem aX0_clashOf_36 : At cX0_clashOf 36 (.iconst (-1)) 1 37 := ⟨by decide +kernel, rfl⟩
theorem aX0_clashOf_37 : Br cX0_clashOf 37 (.goto (10)) (10) 40 47 := ⟨by decide +kernel, rfl, by decide⟩
theorem aX0_clashOf_40 : At cX0_clashOf 40 (.aload 8) 2 42 := ⟨by decide +kernel, rfl⟩
theorem aX0_clashOf_42 : At cX0_clashOf 42 (.iload_n 1) 1 43 := ⟨by decide +kernel, rfl⟩
theorem aX0_clashOf_43 : At cX0_clashOf 43 (.iload_n 2) 1 44 := ⟨by decide +kernel, rfl⟩
theorem aX0_clashOf_44 : At cX0_clashOf 44 (.invokevirtual 64) 3 47 := ⟨by decide +kernel, rfl⟩
theorem aX0_clashOf_47 : At cX0_clashOf 47 (.istore 9) 2 49 := ⟨by decide +kernel, rfl⟩
theorem aX0_clashOf_49 : At cX0_clashOf 49 (.iload 9) 2 51 := ⟨by decide +kernel, rfl⟩
theorem aX0_clashOf_51 : Br cX0_clashOf 51 (.ifCond .lt (16)) (16) 54 67 := ⟨by decide +kernel, rfl, by decide⟩
theorem aX0_clashOf_54 : At cX0_clashOf 54 (.iload 9) 2 56 := ⟨by decide +kernel, rfl⟩
theorem aX0_clashOf_56 : At cX0_clashOf 56 (.istore 5) 2 58 := ⟨by decide +kernel, rfl⟩
theorem aX0_clashOf_58 : At cX0_clashOf 58 (.iload 6) 2 60 := ⟨by decide +kernel, rfl⟩
theorem aX0_clashOf_60 : At cX0_clashOf 60 (.iconst 1) 1 61 := ⟨by decide +kernel, rfl⟩
theorem aX0_clashOf_61 : At cX0_clashOf 61 (.iload 5) 2 63 := ⟨by decide +kernel, rfl⟩
theorem aX0_clashOf_63 : At cX0_clashOf 63 (.ishl) 1 64 := ⟨by decide +kernel, rfl⟩
theorem aX0_clashOf_64 : At cX0_clashOf 64 (.ior) 1 65 := ⟨by decide +kernel, rfl⟩
theorem aX0_clashOf_65 : At cX0_clashOf 65 (.istore 6) 2 67 := ⟨by decide +kernel, rfl⟩
theorem aX0_clashOf_67 : At cX0_clashOf 67 (.iinc 7 1) 3 70 := ⟨by decide +kernel, rfl⟩
theorem aX0_clashOf_70 : Br cX0_clashOf 70 (.goto (-56)) (-56) 73 14 := ⟨by decide +kernel, rfl, by decide⟩
theorem aX0_clashOf_73 : At cX0_clashOf 73 (.iload 6) 2 75 := ⟨by decide +kernel, rfl⟩
theorem aX0_clashOf_75 : At cX0_clashOf 75 (.iload_n 3) 1 76 := ⟨by decide +kernel, rfl⟩
theorem aX0_clashOf_76 : At cX0_clashOf 76 (.ishr) 1 77 := ⟨by decide +kernel, rfl⟩
theorem aX0_clashOf_77 : At cX0_clashOf 77 (.iconst 1) 1 78 := ⟨by decide +kernel, rfl⟩
theorem aX0_clashOf_78 : At cX0_clashOf 78 (.iand) 1 79 := ⟨by decide +kernel, rfl⟩
theorem aX0_clashOf_79 : Br cX0_clashOf 79 (.ifCond .ne (5)) (5) 82 84 := ⟨by decide +kernel, rfl, by decide⟩
theorem aX0_clashOf_82 : At cX0_clashOf 82 (.iconst 2) 1 83 := ⟨by decide +kernel, rfl⟩
theorem aX0_clashOf_83 : At cX0_clashOf 83 (.ireturn) 1 84 := ⟨by decide +kernel, rfl⟩
theorem aX0_clashOf_84 : At cX0_clashOf 84 (.iload 5) 2 86 := ⟨by decide +kernel, rfl⟩
theorem aX0_clashOf_86 : At cX0_clashOf 86 (.iload_n 3) 1 87 := ⟨by decide +kernel, rfl⟩
theorem aX0_clashOf_87 : Br cX0_clashOf 87 (.if_icmp .eq (5)) (5) 90 92 := ⟨by decide +kernel, rfl, by decide⟩
theorem aX0_clashOf_90 : At cX0_clashOf 90 (.iconst 0) 1 91 := ⟨by decide +kernel, rfl⟩
theorem aX0_clashOf_91 : At cX0_clashOf 91 (.ireturn) 1 92 := ⟨by decide +kernel, rfl⟩
theorem aX0_clashOf_92 : At cX0_clashOf 92 (.iload 6) 2 94 := ⟨by decide +kernel, rfl⟩
theorem aX0_clashOf_94 : At cX0_clashOf 94 (.iload 4) 2 96 := ⟨by decide +kernel, rfl⟩
theorem aX0_clashOf_96 : At cX0_clashOf 96 (.ishr) 1 97 := ⟨by decide +kernel, rfl⟩
theorem aX0_clashOf_97 : At cX0_clashOf 97 (.iconst 1) 1 98 := ⟨by decide +kernel, rfl⟩
theorem aX0_clashOf_98 : At cX0_clashOf 98 (.iand) 1 99 := ⟨by decide +kernel, rfl⟩
theorem aX0_clashOf_99 : Br cX0_clashOf 99 (.ifCond .eq (7)) (7) 102 106 := ⟨by decide +kernel, rfl, by decide⟩
theorem aX0_clashOf_102 : At cX0_clashOf 102 (.iconst 1) 1 103 := ⟨by decide +kernel, rfl⟩
theorem aX0_clashOf_103 : Br cX0_clashOf 103 (.goto (4)) (4) 106 107 := ⟨by decide +kernel, rfl, by decide⟩
theorem aX0_clashOf_106 : At cX0_clashOf 106 (.iconst (-1)) 1 107 := ⟨by decide +kernel, rfl⟩
theorem aX0_clashOf_107 : At cX0_clashOf 107 (.ireturn) 1 108 := ⟨by decide +kernel, rfl⟩
theorem aX1_init_0 : At cX1_init 0 (.aload_n 0) 1 1 := ⟨by decide +kernel, rfl⟩
theorem aX1_init_1 : At cX1_init 1 (.invokespecial 3) 3 4 := ⟨by decide +kernel, rfl⟩
theorem aX1_init_4 : At cX1_init 4 (.aload_n 0) 1 5 := ⟨by decide +kernel, rfl⟩
theorem aX1_init_5 : At cX1_init 5 (.iload_n 1) 1 6 := ⟨by decide +kernel, rfl⟩
theorem aX1_init_6 : At cX1_init 6 (.putfield 9) 3 9 := ⟨by decide +kernel, rfl⟩
theorem aX1_init_9 : At cX1_init 9 (.aload_n 0) 1 10 := ⟨by decide +kernel, rfl⟩
theorem aX1_init_10 : At cX1_init 10 (.iload_n 2) 1 11 := ⟨by decide +kernel, rfl⟩
theorem aX1_init_11 : At cX1_init 11 (.putfield 15) 3 14 := ⟨by decide +kernel, rfl⟩
theorem aX1_init_14 : At cX1_init 14 (.aload_n 0) 1 15 := ⟨by decide +kernel, rfl⟩
theorem aX1_init_15 : At cX1_init 15 (.iload_n 3) 1 16 := ⟨by decide +kernel, rfl⟩
theorem aX1_init_16 : At cX1_init 16 (.putfield 18) 3 19 := ⟨by decide +kernel, rfl⟩
theorem aX1_init_19 : At cX1_init 19 (.aload_n 0) 1 20 := ⟨by decide +kernel, rfl⟩
theorem aX1_init_20 : At cX1_init 20 (.iload 4) 2 22 := ⟨by decide +kernel, rfl⟩
theorem aX1_init_22 : At cX1_init 22 (.putfield 21) 3 25 := ⟨by decide +kernel, rfl⟩
theorem aX1_init_25 : At cX1_init 25 (.aload_n 0) 1 26 := ⟨by decide +kernel, rfl⟩
theorem aX1_init_26 : At cX1_init 26 (.iload 5) 2 28 := ⟨by decide +kernel, rfl⟩
theorem aX1_init_28 : At cX1_init 28 (.putfield 24) 3 31 := ⟨by decide +kernel, rfl⟩
theorem aX1_init_31 : At cX1_init 31 (.aload_n 0) 1 32 := ⟨by decide +kernel, rfl⟩
theorem aX1_init_32 : At cX1_init 32 (.iload 6) 2 34 := ⟨by decide +kernel, rfl⟩
theorem aX1_init_34 : At cX1_init 34 (.putfield 27) 3 37 := ⟨by decide +kernel, rfl⟩
theorem aX1_init_37 : At cX1_init 37 (.aload_n 0) 1 38 := ⟨by decide +kernel, rfl⟩
theorem aX1_init_38 : At cX1_init 38 (.aload 7) 2 40 := ⟨by decide +kernel, rfl⟩
theorem aX1_init_40 : At cX1_init 40 (.putfield 30) 3 43 := ⟨by decide +kernel, rfl⟩
theorem aX1_init_43 : At cX1_init 43 (.return_) 1 44 := ⟨by decide +kernel, rfl⟩
theorem aX1_gives_0 : At cX1_gives 0 (.aload_n 0) 1 1 := ⟨by decide +kernel, rfl⟩
theorem aX1_gives_1 : At cX1_gives 1 (.getfield 30) 3 4 := ⟨by decide +kernel, rfl⟩
theorem aX1_gives_4 : Br cX1_gives 4 (.ifnull (16)) (16) 7 20 := ⟨by decide +kernel, rfl, by decide⟩
theorem aX1_gives_7 : At cX1_gives 7 (.aload_n 0) 1 8 := ⟨by decide +kernel, rfl⟩
theorem aX1_gives_8 : At cX1_gives 8 (.getfield 30) 3 11 := ⟨by decide +kernel, rfl⟩
theorem aX1_gives_11 : At cX1_gives 11 (.iload_n 1) 1 12 := ⟨by decide +kernel, rfl⟩
theorem aX1_gives_12 : At cX1_gives 12 (.invokevirtual 34) 3 15 := ⟨by decide +kernel, rfl⟩
theorem aX1_gives_15 : Br cX1_gives 15 (.ifCond .ne (5)) (5) 18 20 := ⟨by decide +kernel, rfl, by decide⟩
theorem aX1_gives_18 : At cX1_gives 18 (.iconst (-1)) 1 19 := ⟨by decide +kernel, rfl⟩
theorem aX1_gives_19 : At cX1_gives 19 (.ireturn) 1 20 := ⟨by decide +kernel, rfl⟩
theorem aX1_gives_20 : At cX1_gives 20 (.iload_n 1) 1 21 := ⟨by decide +kernel, rfl⟩
theorem aX1_gives_21 : At cX1_gives 21 (.aload_n 0) 1 22 := ⟨by decide +kernel, rfl⟩
theorem aX1_gives_22 : At cX1_gives 22 (.getfield 21) 3 25 := ⟨by decide +kernel, rfl⟩
theorem aX1_gives_25 : At cX1_gives 25 (.invokestatic 40) 3 28 := ⟨by decide +kernel, rfl⟩
theorem aX1_gives_28 : At cX1_gives 28 (.istore_n 2) 1 29 := ⟨by decide +kernel, rfl⟩
theorem aX1_gives_29 : At cX1_gives 29 (.aload_n 0) 1 30 := ⟨by decide +kernel, rfl⟩
theorem aX1_gives_30 : At cX1_gives 30 (.getfield 9) 3 33 := ⟨by decide +kernel, rfl⟩
theorem aX1_gives_33 : At cX1_gives 33 (.tableswitch 121 1 5 #[35, 69, 118, 52, 92]) 35 68 := ⟨by decide +kernel, rfl⟩
theorem aX1_gives_68 : At cX1_gives 68 (.iload_n 2) 1 69 := ⟨by decide +kernel, rfl⟩
theorem aX1_gives_69 : At cX1_gives 69 (.aload_n 0) 1 70 := ⟨by decide +kernel, rfl⟩
theorem aX1_gives_70 : At cX1_gives 70 (.getfield 27) 3 73 := ⟨by decide +kernel, rfl⟩
theorem aX1_gives_73 : Br cX1_gives 73 (.if_icmp .lt (10)) (10) 76 83 := ⟨by decide +kernel, rfl, by decide⟩
theorem aX1_gives_76 : At cX1_gives 76 (.aload_n 0) 1 77 := ⟨by decide +kernel, rfl⟩
theorem aX1_gives_77 : At cX1_gives 77 (.getfield 21) 3 80 := ⟨by decide +kernel, rfl⟩
theorem aX1_gives_80 : Br cX1_gives 80 (.goto (4)) (4) 83 84 := ⟨by decide +kernel, rfl, by decide⟩
theorem aX1_gives_83 : At cX1_gives 83 (.iconst (-1)) 1 84 := ⟨by decide +kernel, rfl⟩
theorem aX1_gives_84 : At cX1_gives 84 (.ireturn) 1 85 := ⟨by decide +kernel, rfl⟩
theorem aX1_gives_85 : At cX1_gives 85 (.iload_n 2) 1 86 := ⟨by decide +kernel, rfl⟩
theorem aX1_gives_86 : At cX1_gives 86 (.aload_n 0) 1 87 := ⟨by decide +kernel, rfl⟩
theorem aX1_gives_87 : At cX1_gives 87 (.getfield 27) 3 90 := ⟨by decide +kernel, rfl⟩
theorem aX1_gives_90 : Br cX1_gives 90 (.if_icmp .ge (10)) (10) 93 100 := ⟨by decide +kernel, rfl, by decide⟩
theorem aX1_gives_93 : At cX1_gives 93 (.aload_n 0) 1 94 := ⟨by decide +kernel, rfl⟩
theorem aX1_gives_94 : At cX1_gives 94 (.getfield 21) 3 97 := ⟨by decide +kernel, rfl⟩
theorem aX1_gives_97 : Br cX1_gives 97 (.goto (4)) (4) 100 101 := ⟨by decide +kernel, rfl, by decide⟩
theorem aX1_gives_100 : At cX1_gives 100 (.iconst (-1)) 1 101 := ⟨by decide +kernel, rfl⟩
theorem aX1_gives_101 : At cX1_gives 101 (.ireturn) 1 102 := ⟨by decide +kernel, rfl⟩
theorem aX1_gives_102 : At cX1_gives 102 (.iload_n 2) 1 103 := ⟨by decide +kernel, rfl⟩
theorem aX1_gives_103 : At cX1_gives 103 (.iload_n 1) 1 104 := ⟨by decide +kernel, rfl⟩
theorem aX1_gives_104 : At cX1_gives 104 (.aload_n 0) 1 105 := ⟨by decide +kernel, rfl⟩
theorem aX1_gives_105 : At cX1_gives 105 (.getfield 24) 3 108 := ⟨by decide +kernel, rfl⟩
theorem aX1_gives_108 : At cX1_gives 108 (.invokestatic 40) 3 111 := ⟨by decide +kernel, rfl⟩
theorem aX1_gives_111 : At cX1_gives 111 (.isub) 1 112 := ⟨by decide +kernel, rfl⟩
theorem aX1_gives_112 : At cX1_gives 112 (.iconst 1) 1 113 := ⟨by decide +kernel, rfl⟩
theorem aX1_gives_113 : Br cX1_gives 113 (.if_icmp .lt (10)) (10) 116 123 := ⟨by decide +kernel, rfl, by decide⟩
theorem aX1_gives_116 : At cX1_gives 116 (.aload_n 0) 1 117 := ⟨by decide +kernel, rfl⟩
theorem aX1_gives_117 : At cX1_gives 117 (.getfield 21) 3 120 := ⟨by decide +kernel, rfl⟩
theorem aX1_gives_120 : Br cX1_gives 120 (.goto (4)) (4) 123 124 := ⟨by decide +kernel, rfl, by decide⟩
theorem aX1_gives_123 : At cX1_gives 123 (.iconst (-1)) 1 124 := ⟨by decide +kernel, rfl⟩
theorem aX1_gives_124 : At cX1_gives 124 (.ireturn) 1 125 := ⟨by decide +kernel, rfl⟩
theorem aX1_gives_125 : At cX1_gives 125 (.iload_n 2) 1 126 := ⟨by decide +kernel, rfl⟩
theorem aX1_gives_126 : At cX1_gives 126 (.iload_n 1) 1 127 := ⟨by decide +kernel, rfl⟩
theorem aX1_gives_127 : At cX1_gives 127 (.aload_n 0) 1 128 := ⟨by decide +kernel, rfl⟩
theorem aX1_gives_128 : At cX1_gives 128 (.getfield 24) 3 131 := ⟨by decide +kernel, rfl⟩
theorem aX1_gives_131 : At cX1_gives 131 (.invokestatic 40) 3 134 := ⟨by decide +kernel, rfl⟩
theorem aX1_gives_134 : At cX1_gives 134 (.isub) 1 135 := ⟨by decide +kernel, rfl⟩
theorem aX1_gives_135 : At cX1_gives 135 (.aload_n 0) 1 136 := ⟨by decide +kernel, rfl⟩
theorem aX1_gives_136 : At cX1_gives 136 (.getfield 27) 3 139 := ⟨by decide +kernel, rfl⟩
theorem aX1_gives_139 : Br cX1_gives 139 (.if_icmp .lt (10)) (10) 142 149 := ⟨by decide +kernel, rfl, by decide⟩
theorem aX1_gives_142 : At cX1_gives 142 (.aload_n 0) 1 143 := ⟨by decide +kernel, rfl⟩
theorem aX1_gives_143 : At cX1_gives 143 (.getfield 21) 3 146 := ⟨by decide +kernel, rfl⟩
theorem aX1_gives_146 : Br cX1_gives 146 (.goto (4)) (4) 149 150 := ⟨by decide +kernel, rfl, by decide⟩
theorem aX1_gives_149 : At cX1_gives 149 (.iconst (-1)) 1 150 := ⟨by decide +kernel, rfl⟩
theorem aX1_gives_150 : At cX1_gives 150 (.ireturn) 1 151 := ⟨by decide +kernel, rfl⟩
theorem aX1_gives_151 : Br cX1_gives 151 (.goto (8)) (8) 154 159 := ⟨by decide +kernel, rfl, by decide⟩
theorem aX1_gives_154 : At cX1_gives 154 (.aload_n 0) 1 155 := ⟨by decide +kernel, rfl⟩
theorem aX1_gives_155 : At cX1_gives 155 (.getfield 21) 3 158 := ⟨by decide +kernel, rfl⟩
theorem aX1_gives_158 : At cX1_gives 158 (.ireturn) 1 159 := ⟨by decide +kernel, rfl⟩
theorem aX1_gives_159 : At cX1_gives 159 (.aload_n 0) 1 160 := ⟨by decide +kernel, rfl⟩
theorem aX1_gives_160 : At cX1_gives 160 (.getfield 21) 3 163 := ⟨by decide +kernel, rfl⟩
theorem aX1_gives_163 : At cX1_gives 163 (.istore_n 3) 1 164 := ⟨by decide +kernel, rfl⟩
theorem aX1_gives_164 : At cX1_gives 164 (.aload_n 0) 1 165 := ⟨by decide +kernel, rfl⟩
theorem aX1_gives_165 : At cX1_gives 165 (.getfield 27) 3 168 := ⟨by decide +kernel, rfl⟩
theorem aX1_gives_168 : At cX1_gives 168 (.istore 4) 2 170 := ⟨by decide +kernel, rfl⟩
theorem aX1_gives_170 : At cX1_gives 170 (.iload_n 3) 1 171 := ⟨by decide +kernel, rfl⟩
theorem aX1_gives_171 : At cX1_gives 171 (.bipush 12) 2 173 := ⟨by decide +kernel, rfl⟩
theorem aX1_gives_173 : Br cX1_gives 173 (.if_icmp .ge (22)) (22) 176 195 := ⟨by decide +kernel, rfl, by decide⟩
theorem aX1_gives_176 : At cX1_gives 176 (.iload_n 1) 1 177 := ⟨by decide +kernel, rfl⟩
theorem aX1_gives_177 : At cX1_gives 177 (.iload_n 3) 1 178 := ⟨by decide +kernel, rfl⟩
theorem aX1_gives_178 : At cX1_gives 178 (.invokestatic 40) 3 181 := ⟨by decide +kernel, rfl⟩
theorem aX1_gives_181 : At cX1_gives 181 (.iload 4) 2 183 := ⟨by decide +kernel, rfl⟩
theorem aX1_gives_183 : Br cX1_gives 183 (.if_icmp .ge (12)) (12) 186 195 := ⟨by decide +kernel, rfl, by decide⟩
theorem aX1_gives_186 : At cX1_gives 186 (.iinc 3 3) 3 189 := ⟨by decide +kernel, rfl⟩
theorem aX1_gives_189 : At cX1_gives 189 (.iinc 4 (-1)) 3 192 := ⟨by decide +kernel, rfl⟩
theorem aX1_gives_192 : Br cX1_gives 192 (.goto (-22)) (-22) 195 170 := ⟨by decide +kernel, rfl, by decide⟩
theorem aX1_gives_195 : At cX1_gives 195 (.iload_n 3) 1 196 := ⟨by decide +kernel, rfl⟩
theorem aX1_gives_196 : At cX1_gives 196 (.bipush 12) 2 198 := ⟨by decide +kernel, rfl⟩
theorem aX1_gives_198 : Br cX1_gives 198 (.if_icmp .ge (7)) (7) 201 205 := ⟨by decide +kernel, rfl, by decide⟩
theorem aX1_gives_201 : At cX1_gives 201 (.iload_n 3) 1 202 := ⟨by decide +kernel, rfl⟩
theorem aX1_gives_202 : Br cX1_gives 202 (.goto (4)) (4) 205 206 := ⟨by decide +kernel, rfl, by decide⟩
theorem aX1_gives_205 : At cX1_gives 205 (.iconst (-1)) 1 206 := ⟨by decide +kernel, rfl⟩
theorem aX1_gives_206 : At cX1_gives 206 (.ireturn) 1 207 := ⟨by decide +kernel, rfl⟩
theorem aX1_getsBack_0 : At cX1_getsBack 0 (.aload_n 0) 1 1 := ⟨by decide +kernel, rfl⟩
theorem aX1_getsBack_1 : At cX1_getsBack 1 (.getfield 24) 3 4 := ⟨by decide +kernel, rfl⟩
theorem aX1_getsBack_4 : Br cX1_getsBack 4 (.ifCond .lt (18)) (18) 7 22 := ⟨by decide +kernel, rfl, by decide⟩
theorem aX1_getsBack_7 : At cX1_getsBack 7 (.aload_n 0) 1 8 := ⟨by decide +kernel, rfl⟩
theorem aX1_getsBack_8 : At cX1_getsBack 8 (.iload_n 1) 1 9 := ⟨by decide +kernel, rfl⟩
theorem aX1_getsBack_9 : At cX1_getsBack 9 (.invokevirtual 44) 3 12 := ⟨by decide +kernel, rfl⟩
theorem aX1_getsBack_12 : Br cX1_getsBack 12 (.ifCond .lt (10)) (10) 15 22 := ⟨by decide +kernel, rfl, by decide⟩
theorem aX1_getsBack_15 : At cX1_getsBack 15 (.aload_n 0) 1 16 := ⟨by decide +kernel, rfl⟩
theorem aX1_getsBack_16 : At cX1_getsBack 16 (.getfield 24) 3 19 := ⟨by decide +kernel, rfl⟩
theorem aX1_getsBack_19 : Br cX1_getsBack 19 (.goto (4)) (4) 22 23 := ⟨by decide +kernel, rfl, by decide⟩
theorem aX1_getsBack_22 : At cX1_getsBack 22 (.iconst (-1)) 1 23 := ⟨by decide +kernel, rfl⟩
theorem aX1_getsBack_23 : At cX1_getsBack 23 (.ireturn) 1 24 := ⟨by decide +kernel, rfl⟩
theorem aX1_takerOf_0 : At cX1_takerOf 0 (.iload_n 2) 1 1 := ⟨by decide +kernel, rfl⟩
theorem aX1_takerOf_1 : At cX1_takerOf 1 (.aload_n 0) 1 2 := ⟨by decide +kernel, rfl⟩
theorem aX1_takerOf_2 : At cX1_takerOf 2 (.getfield 24) 3 5 := ⟨by decide +kernel, rfl⟩
theorem aX1_takerOf_5 : Br cX1_takerOf 5 (.if_icmp .ne (20)) (20) 8 25 := ⟨by decide +kernel, rfl, by decide⟩
theorem aX1_takerOf_8 : At cX1_takerOf 8 (.aload_n 0) 1 9 := ⟨by decide +kernel, rfl⟩
theorem aX1_takerOf_9 : At cX1_takerOf 9 (.iload_n 1) 1 10 := ⟨by decide +kernel, rfl⟩
theorem aX1_takerOf_10 : At cX1_takerOf 10 (.invokevirtual 44) 3 13 := ⟨by decide +kernel, rfl⟩
theorem aX1_takerOf_13 : Br cX1_takerOf 13 (.ifCond .lt (10)) (10) 16 23 := ⟨by decide +kernel, rfl, by decide⟩
theorem aX1_takerOf_16 : At cX1_takerOf 16 (.aload_n 0) 1 17 := ⟨by decide +kernel, rfl⟩
theorem aX1_takerOf_17 : At cX1_takerOf 17 (.getfield 15) 3 20 := ⟨by decide +kernel, rfl⟩
theorem aX1_takerOf_20 : Br cX1_takerOf 20 (.goto (4)) (4) 23 24 := ⟨by decide +kernel, rfl, by decide⟩
theorem aX1_takerOf_23 : At cX1_takerOf 23 (.iconst (-1)) 1 24 := ⟨by decide +kernel, rfl⟩
theorem aX1_takerOf_24 : At cX1_takerOf 24 (.ireturn) 1 25 := ⟨by decide +kernel, rfl⟩
theorem aX1_takerOf_25 : At cX1_takerOf 25 (.aload_n 0) 1 26 := ⟨by decide +kernel, rfl⟩
theorem aX1_takerOf_26 : At cX1_takerOf 26 (.iload_n 2) 1 27 := ⟨by decide +kernel, rfl⟩
theorem aX1_takerOf_27 : At cX1_takerOf 27 (.invokevirtual 48) 3 30 := ⟨by decide +kernel, rfl⟩
theorem aX1_takerOf_30 : Br cX1_takerOf 30 (.ifCond .eq (19)) (19) 33 49 := ⟨by decide +kernel, rfl, by decide⟩
theorem aX1_takerOf_33 : At cX1_takerOf 33 (.aload_n 0) 1 34 := ⟨by decide +kernel, rfl⟩
theorem aX1_takerOf_34 : At cX1_takerOf 34 (.iload_n 1) 1 35 := ⟨by decide +kernel, rfl⟩
theorem aX1_takerOf_35 : At cX1_takerOf 35 (.invokevirtual 44) 3 38 := ⟨by decide +kernel, rfl⟩
theorem aX1_takerOf_38 : At cX1_takerOf 38 (.iload_n 2) 1 39 := ⟨by decide +kernel, rfl⟩
theorem aX1_takerOf_39 : Br cX1_takerOf 39 (.if_icmp .ne (10)) (10) 42 49 := ⟨by decide +kernel, rfl, by decide⟩
theorem aX1_takerOf_42 : At cX1_takerOf 42 (.aload_n 0) 1 43 := ⟨by decide +kernel, rfl⟩
theorem aX1_takerOf_43 : At cX1_takerOf 43 (.getfield 18) 3 46 := ⟨by decide +kernel, rfl⟩
theorem aX1_takerOf_46 : Br cX1_takerOf 46 (.goto (4)) (4) 49 50 := ⟨by decide +kernel, rfl, by decide⟩
theorem aX1_takerOf_49 : At cX1_takerOf 49 (.iconst (-1)) 1 50 := ⟨by decide +kernel, rfl⟩
theorem aX1_takerOf_50 : At cX1_takerOf 50 (.ireturn) 1 51 := ⟨by decide +kernel, rfl⟩
theorem aX1_mayGive_0 : At cX1_mayGive 0 (.iload_n 1) 1 1 := ⟨by decide +kernel, rfl⟩
theorem aX1_mayGive_1 : At cX1_mayGive 1 (.aload_n 0) 1 2 := ⟨by decide +kernel, rfl⟩
theorem aX1_mayGive_2 : At cX1_mayGive 2 (.getfield 21) 3 5 := ⟨by decide +kernel, rfl⟩
theorem aX1_mayGive_5 : Br cX1_mayGive 5 (.if_icmp .eq (31)) (31) 8 36 := ⟨by decide +kernel, rfl, by decide⟩
theorem aX1_mayGive_8 : At cX1_mayGive 8 (.aload_n 0) 1 9 := ⟨by decide +kernel, rfl⟩
theorem aX1_mayGive_9 : At cX1_mayGive 9 (.getfield 9) 3 12 := ⟨by decide +kernel, rfl⟩
theorem aX1_mayGive_12 : At cX1_mayGive 12 (.iconst 3) 1 13 := ⟨by decide +kernel, rfl⟩
theorem aX1_mayGive_13 : Br cX1_mayGive 13 (.if_icmp .ne (27)) (27) 16 40 := ⟨by decide +kernel, rfl, by decide⟩
theorem aX1_mayGive_16 : At cX1_mayGive 16 (.iload_n 1) 1 17 := ⟨by decide +kernel, rfl⟩
theorem aX1_mayGive_17 : At cX1_mayGive 17 (.aload_n 0) 1 18 := ⟨by decide +kernel, rfl⟩
theorem aX1_mayGive_18 : At cX1_mayGive 18 (.getfield 21) 3 21 := ⟨by decide +kernel, rfl⟩
theorem aX1_mayGive_21 : Br cX1_mayGive 21 (.if_icmp .le (19)) (19) 24 40 := ⟨by decide +kernel, rfl, by decide⟩
theorem aX1_mayGive_24 : At cX1_mayGive 24 (.iload_n 1) 1 25 := ⟨by decide +kernel, rfl⟩
theorem aX1_mayGive_25 : At cX1_mayGive 25 (.iconst 3) 1 26 := ⟨by decide +kernel, rfl⟩
theorem aX1_mayGive_26 : At cX1_mayGive 26 (.irem) 1 27 := ⟨by decide +kernel, rfl⟩
theorem aX1_mayGive_27 : At cX1_mayGive 27 (.aload_n 0) 1 28 := ⟨by decide +kernel, rfl⟩
theorem aX1_mayGive_28 : At cX1_mayGive 28 (.getfield 21) 3 31 := ⟨by decide +kernel, rfl⟩
theorem aX1_mayGive_31 : At cX1_mayGive 31 (.iconst 3) 1 32 := ⟨by decide +kernel, rfl⟩
theorem aX1_mayGive_32 : At cX1_mayGive 32 (.irem) 1 33 := ⟨by decide +kernel, rfl⟩
theorem aX1_mayGive_33 : Br cX1_mayGive 33 (.if_icmp .ne (7)) (7) 36 40 := ⟨by decide +kernel, rfl, by decide⟩
theorem aX1_mayGive_36 : At cX1_mayGive 36 (.iconst 1) 1 37 := ⟨by decide +kernel, rfl⟩
theorem aX1_mayGive_37 : Br cX1_mayGive 37 (.goto (4)) (4) 40 41 := ⟨by decide +kernel, rfl, by decide⟩
theorem aX1_mayGive_40 : At cX1_mayGive 40 (.iconst 0) 1 41 := ⟨by decide +kernel, rfl⟩
theorem aX1_mayGive_41 : At cX1_mayGive 41 (.ireturn) 1 42 := ⟨by decide +kernel, rfl⟩
theorem aX2_init_0 : At cX2_init 0 (.aload_n 0) 1 1 := ⟨by decide +kernel, rfl⟩
theorem aX2_init_1 : At cX2_init 1 (.invokespecial 3) 3 4 := ⟨by decide +kernel, rfl⟩
theorem aX2_init_4 : At cX2_init 4 (.aload_n 0) 1 5 := ⟨by decide +kernel, rfl⟩
theorem aX2_init_5 : At cX2_init 5 (.sipush 1296) 3 8 := ⟨by decide +kernel, rfl⟩
theorem aX2_init_8 : At cX2_init 8 (.newarray .int) 2 10 := ⟨by decide +kernel, rfl⟩
theorem aX2_init_10 : At cX2_init 10 (.putfield 9) 3 13 := ⟨by decide +kernel, rfl⟩
theorem aX2_init_13 : At cX2_init 13 (.return_) 1 14 := ⟨by decide +kernel, rfl⟩
theorem aX2_at_0 : At cX2_at 0 (.aload_n 0) 1 1 := ⟨by decide +kernel, rfl⟩
theorem aX2_at_1 : At cX2_at 1 (.getfield 9) 3 4 := ⟨by decide +kernel, rfl⟩
theorem aX2_at_4 : At cX2_at 4 (.iload_n 1) 1 5 := ⟨by decide +kernel, rfl⟩
theorem aX2_at_5 : At cX2_at 5 (.iaload) 1 6 := ⟨by decide +kernel, rfl⟩
theorem aX2_at_6 : At cX2_at 6 (.iconst 2) 1 7 := ⟨by decide +kernel, rfl⟩
theorem aX2_at_7 : At cX2_at 7 (.iload_n 2) 1 8 := ⟨by decide +kernel, rfl⟩
theorem aX2_at_8 : At cX2_at 8 (.imul) 1 9 := ⟨by decide +kernel, rfl⟩
theorem aX2_at_9 : At cX2_at 9 (.ishr) 1 10 := ⟨by decide +kernel, rfl⟩
theorem aX2_at_10 : At cX2_at 10 (.iconst 3) 1 11 := ⟨by decide +kernel, rfl⟩
theorem aX2_at_11 : At cX2_at 11 (.iand) 1 12 := ⟨by decide +kernel, rfl⟩
theorem aX2_at_12 : At cX2_at 12 (.ireturn) 1 13 := ⟨by decide +kernel, rfl⟩
theorem aX2_startAll_0 : At cX2_startAll 0 (.iload_n 1) 1 1 := ⟨by decide +kernel, rfl⟩
theorem aX2_startAll_1 : At cX2_startAll 1 (.istore_n 3) 1 2 := ⟨by decide +kernel, rfl⟩
theorem aX2_startAll_2 : At cX2_startAll 2 (.iload_n 3) 1 3 := ⟨by decide +kernel, rfl⟩
theorem aX2_startAll_3 : At cX2_startAll 3 (.iload_n 2) 1 4 := ⟨by decide +kernel, rfl⟩
theorem aX2_startAll_4 : Br cX2_startAll 4 (.if_icmp .ge (17)) (17) 7 21 := ⟨by decide +kernel, rfl, by decide⟩
theorem aX2_startAll_7 : At cX2_startAll 7 (.aload_n 0) 1 8 := ⟨by decide +kernel, rfl⟩
theorem aX2_startAll_8 : At cX2_startAll 8 (.getfield 9) 3 11 := ⟨by decide +kernel, rfl⟩
theorem aX2_startAll_11 : At cX2_startAll 11 (.iload_n 3) 1 12 := ⟨by decide +kernel, rfl⟩
theorem aX2_startAll_12 : At cX2_startAll 12 (.ldc 15) 2 14 := ⟨by decide +kernel, rfl⟩
theorem aX2_startAll_14 : At cX2_startAll 14 (.iastore) 1 15 := ⟨by decide +kernel, rfl⟩
theorem aX2_startAll_15 : At cX2_startAll 15 (.iinc 3 1) 3 18 := ⟨by decide +kernel, rfl⟩
theorem aX2_startAll_18 : Br cX2_startAll 18 (.goto (-16)) (-16) 21 2 := ⟨by decide +kernel, rfl, by decide⟩
theorem aX2_startAll_21 : At cX2_startAll 21 (.return_) 1 22 := ⟨by decide +kernel, rfl⟩
theorem aX2_settle_0 : At cX2_settle 0 (.aload_n 1) 1 1 := ⟨by decide +kernel, rfl⟩
theorem aX2_settle_1 : Br cX2_settle 1 (.ifnonnull (4)) (4) 4 5 := ⟨by decide +kernel, rfl, by decide⟩
theorem aX2_settle_4 : At cX2_settle 4 (.return_) 1 5 := ⟨by decide +kernel, rfl⟩
theorem aX2_settle_5 : At cX2_settle 5 (.iload_n 2) 1 6 := ⟨by decide +kernel, rfl⟩
theorem aX2_settle_6 : At cX2_settle 6 (.istore 4) 2 8 := ⟨by decide +kernel, rfl⟩
theorem aX2_settle_8 : At cX2_settle 8 (.iload 4) 2 10 := ⟨by decide +kernel, rfl⟩
theorem aX2_settle_10 : At cX2_settle 10 (.iload_n 3) 1 11 := ⟨by decide +kernel, rfl⟩
theorem aX2_settle_11 : Br cX2_settle 11 (.if_icmp .ge (55)) (55) 14 66 := ⟨by decide +kernel, rfl, by decide⟩
theorem aX2_settle_14 : At cX2_settle 14 (.aload_n 1) 1 15 := ⟨by decide +kernel, rfl⟩
theorem aX2_settle_15 : At cX2_settle 15 (.iload 4) 2 17 := ⟨by decide +kernel, rfl⟩
theorem aX2_settle_17 : At cX2_settle 17 (.invokevirtual 16) 3 20 := ⟨by decide +kernel, rfl⟩
theorem aX2_settle_20 : At cX2_settle 20 (.istore 5) 2 22 := ⟨by decide +kernel, rfl⟩
theorem aX2_settle_22 : At cX2_settle 22 (.iload 5) 2 24 := ⟨by decide +kernel, rfl⟩
theorem aX2_settle_24 : Br cX2_settle 24 (.ifCond .lt (36)) (36) 27 60 := ⟨by decide +kernel, rfl, by decide⟩
theorem aX2_settle_27 : At cX2_settle 27 (.aload_n 0) 1 28 := ⟨by decide +kernel, rfl⟩
theorem aX2_settle_28 : At cX2_settle 28 (.iload 4) 2 30 := ⟨by decide +kernel, rfl⟩
theorem aX2_settle_30 : At cX2_settle 30 (.iload 5) 2 32 := ⟨by decide +kernel, rfl⟩
theorem aX2_settle_32 : At cX2_settle 32 (.aload_n 1) 1 33 := ⟨by decide +kernel, rfl⟩
theorem aX2_settle_33 : At cX2_settle 33 (.getfield 22) 3 36 := ⟨by decide +kernel, rfl⟩
theorem aX2_settle_36 : At cX2_settle 36 (.invokevirtual 26) 3 39 := ⟨by decide +kernel, rfl⟩
theorem aX2_settle_39 : At cX2_settle 39 (.aload_n 1) 1 40 := ⟨by decide +kernel, rfl⟩
theorem aX2_settle_40 : At cX2_settle 40 (.getfield 30) 3 43 := ⟨by decide +kernel, rfl⟩
theorem aX2_settle_43 : Br cX2_settle 43 (.ifCond .lt (17)) (17) 46 60 := ⟨by decide +kernel, rfl, by decide⟩
theorem aX2_settle_46 : At cX2_settle 46 (.aload_n 0) 1 47 := ⟨by decide +kernel, rfl⟩
theorem aX2_settle_47 : At cX2_settle 47 (.iload 4) 2 49 := ⟨by decide +kernel, rfl⟩
theorem aX2_settle_49 : At cX2_settle 49 (.aload_n 1) 1 50 := ⟨by decide +kernel, rfl⟩
theorem aX2_settle_50 : At cX2_settle 50 (.getfield 30) 3 53 := ⟨by decide +kernel, rfl⟩
theorem aX2_settle_53 : At cX2_settle 53 (.aload_n 1) 1 54 := ⟨by decide +kernel, rfl⟩
theorem aX2_settle_54 : At cX2_settle 54 (.getfield 33) 3 57 := ⟨by decide +kernel, rfl⟩
theorem aX2_settle_57 : At cX2_settle 57 (.invokevirtual 26) 3 60 := ⟨by decide +kernel, rfl⟩
theorem aX2_settle_60 : At cX2_settle 60 (.iinc 4 1) 3 63 := ⟨by decide +kernel, rfl⟩
theorem aX2_settle_63 : Br cX2_settle 63 (.goto (-55)) (-55) 66 8 := ⟨by decide +kernel, rfl, by decide⟩
theorem aX2_settle_66 : At cX2_settle 66 (.return_) 1 67 := ⟨by decide +kernel, rfl⟩
theorem aX2_give_0 : At cX2_give 0 (.aload_n 0) 1 1 := ⟨by decide +kernel, rfl⟩
theorem aX2_give_1 : At cX2_give 1 (.getfield 9) 3 4 := ⟨by decide +kernel, rfl⟩
theorem aX2_give_4 : At cX2_give 4 (.iload_n 1) 1 5 := ⟨by decide +kernel, rfl⟩
theorem aX2_give_5 : At cX2_give 5 (.aload_n 0) 1 6 := ⟨by decide +kernel, rfl⟩
theorem aX2_give_6 : At cX2_give 6 (.getfield 9) 3 9 := ⟨by decide +kernel, rfl⟩
theorem aX2_give_9 : At cX2_give 9 (.iload_n 1) 1 10 := ⟨by decide +kernel, rfl⟩
theorem aX2_give_10 : At cX2_give 10 (.iaload) 1 11 := ⟨by decide +kernel, rfl⟩
theorem aX2_give_11 : At cX2_give 11 (.iconst 3) 1 12 := ⟨by decide +kernel, rfl⟩
theorem aX2_give_12 : At cX2_give 12 (.iconst 2) 1 13 := ⟨by decide +kernel, rfl⟩
theorem aX2_give_13 : At cX2_give 13 (.iload_n 2) 1 14 := ⟨by decide +kernel, rfl⟩
theorem aX2_give_14 : At cX2_give 14 (.imul) 1 15 := ⟨by decide +kernel, rfl⟩
theorem aX2_give_15 : At cX2_give 15 (.ishl) 1 16 := ⟨by decide +kernel, rfl⟩
theorem aX2_give_16 : At cX2_give 16 (.iconst (-1)) 1 17 := ⟨by decide +kernel, rfl⟩
theorem aX2_give_17 : At cX2_give 17 (.ixor) 1 18 := ⟨by decide +kernel, rfl⟩
theorem aX2_give_18 : At cX2_give 18 (.iand) 1 19 := ⟨by decide +kernel, rfl⟩
theorem aX2_give_19 : At cX2_give 19 (.iload_n 3) 1 20 := ⟨by decide +kernel, rfl⟩
theorem aX2_give_20 : At cX2_give 20 (.iconst 2) 1 21 := ⟨by decide +kernel, rfl⟩
theorem aX2_give_21 : At cX2_give 21 (.iload_n 2) 1 22 := ⟨by decide +kernel, rfl⟩
theorem aX2_give_22 : At cX2_give 22 (.imul) 1 23 := ⟨by decide +kernel, rfl⟩
theorem aX2_give_23 : At cX2_give 23 (.ishl) 1 24 := ⟨by decide +kernel, rfl⟩
theorem aX2_give_24 : At cX2_give 24 (.ior) 1 25 := ⟨by decide +kernel, rfl⟩
theorem aX2_give_25 : At cX2_give 25 (.iastore) 1 26 := ⟨by decide +kernel, rfl⟩
theorem aX2_give_26 : At cX2_give 26 (.return_) 1 27 := ⟨by decide +kernel, rfl⟩
theorem aX3_init_0 : At cX3_init 0 (.aload_n 0) 1 1 := ⟨by decide +kernel, rfl⟩
theorem aX3_init_1 : At cX3_init 1 (.invokespecial 3) 3 4 := ⟨by decide +kernel, rfl⟩
theorem aX3_init_4 : At cX3_init 4 (.aload_n 0) 1 5 := ⟨by decide +kernel, rfl⟩
theorem aX3_init_5 : At cX3_init 5 (.new 9) 3 8 := ⟨by decide +kernel, rfl⟩
theorem aX3_init_8 : At cX3_init 8 (.dup) 1 9 := ⟨by decide +kernel, rfl⟩
theorem aX3_init_9 : At cX3_init 9 (.invokespecial 11) 3 12 := ⟨by decide +kernel, rfl⟩
theorem aX3_init_12 : At cX3_init 12 (.putfield 12) 3 15 := ⟨by decide +kernel, rfl⟩
theorem aX3_init_15 : At cX3_init 15 (.aload_n 0) 1 16 := ⟨by decide +kernel, rfl⟩
theorem aX3_init_16 : At cX3_init 16 (.bipush 12) 2 18 := ⟨by decide +kernel, rfl⟩
theorem aX3_init_18 : At cX3_init 18 (.anewarray 18) 3 21 := ⟨by decide +kernel, rfl⟩
theorem aX3_init_21 : At cX3_init 21 (.putfield 20) 3 24 := ⟨by decide +kernel, rfl⟩
theorem aX3_init_24 : At cX3_init 24 (.aload_n 0) 1 25 := ⟨by decide +kernel, rfl⟩
theorem aX3_init_25 : At cX3_init 25 (.bipush 14) 2 27 := ⟨by decide +kernel, rfl⟩
theorem aX3_init_27 : At cX3_init 27 (.anewarray 24) 3 30 := ⟨by decide +kernel, rfl⟩
theorem aX3_init_30 : At cX3_init 30 (.putfield 26) 3 33 := ⟨by decide +kernel, rfl⟩
theorem aX3_init_33 : At cX3_init 33 (.iconst 0) 1 34 := ⟨by decide +kernel, rfl⟩
theorem aX3_init_34 : At cX3_init 34 (.istore_n 1) 1 35 := ⟨by decide +kernel, rfl⟩
theorem aX3_init_35 : At cX3_init 35 (.iload_n 1) 1 36 := ⟨by decide +kernel, rfl⟩
theorem aX3_init_36 : At cX3_init 36 (.aload_n 0) 1 37 := ⟨by decide +kernel, rfl⟩
theorem aX3_init_37 : At cX3_init 37 (.getfield 26) 3 40 := ⟨by decide +kernel, rfl⟩
theorem aX3_init_40 : At cX3_init 40 (.arraylength) 1 41 := ⟨by decide +kernel, rfl⟩
theorem aX3_init_41 : Br cX3_init 41 (.if_icmp .ge (22)) (22) 44 63 := ⟨by decide +kernel, rfl, by decide⟩
theorem aX3_init_44 : At cX3_init 44 (.aload_n 0) 1 45 := ⟨by decide +kernel, rfl⟩
theorem aX3_init_45 : At cX3_init 45 (.getfield 26) 3 48 := ⟨by decide +kernel, rfl⟩
theorem aX3_init_48 : At cX3_init 48 (.iload_n 1) 1 49 := ⟨by decide +kernel, rfl⟩
theorem aX3_init_49 : At cX3_init 49 (.new 24) 3 52 := ⟨by decide +kernel, rfl⟩
theorem aX3_init_52 : At cX3_init 52 (.dup) 1 53 := ⟨by decide +kernel, rfl⟩
theorem aX3_init_53 : At cX3_init 53 (.invokespecial 30) 3 56 := ⟨by decide +kernel, rfl⟩
theorem aX3_init_56 : At cX3_init 56 (.aastore) 1 57 := ⟨by decide +kernel, rfl⟩
theorem aX3_init_57 : At cX3_init 57 (.iinc 1 1) 3 60 := ⟨by decide +kernel, rfl⟩
theorem aX3_init_60 : Br cX3_init 60 (.goto (-25)) (-25) 63 35 := ⟨by decide +kernel, rfl, by decide⟩
theorem aX3_init_63 : At cX3_init 63 (.return_) 1 64 := ⟨by decide +kernel, rfl⟩
theorem aX4_init_0 : At cX4_init 0 (.aload_n 0) 1 1 := ⟨by decide +kernel, rfl⟩
theorem aX4_init_1 : At cX4_init 1 (.invokespecial 3) 3 4 := ⟨by decide +kernel, rfl⟩
theorem aX4_init_4 : At cX4_init 4 (.aload_n 0) 1 5 := ⟨by decide +kernel, rfl⟩
theorem aX4_init_5 : At cX4_init 5 (.bipush 12) 2 7 := ⟨by decide +kernel, rfl⟩
theorem aX4_init_7 : At cX4_init 7 (.newarray .int) 2 9 := ⟨by decide +kernel, rfl⟩
theorem aX4_init_9 : At cX4_init 9 (.putfield 9) 3 12 := ⟨by decide +kernel, rfl⟩
theorem aX4_init_12 : At cX4_init 12 (.aload_n 0) 1 13 := ⟨by decide +kernel, rfl⟩
theorem aX4_init_13 : At cX4_init 13 (.iload_n 1) 1 14 := ⟨by decide +kernel, rfl⟩
theorem aX4_init_14 : At cX4_init 14 (.putfield 15) 3 17 := ⟨by decide +kernel, rfl⟩
theorem aX4_init_17 : At cX4_init 17 (.iconst 0) 1 18 := ⟨by decide +kernel, rfl⟩
theorem aX4_init_18 : At cX4_init 18 (.istore_n 2) 1 19 := ⟨by decide +kernel, rfl⟩
theorem aX4_init_19 : At cX4_init 19 (.iload_n 2) 1 20 := ⟨by decide +kernel, rfl⟩
theorem aX4_init_20 : At cX4_init 20 (.bipush 12) 2 22 := ⟨by decide +kernel, rfl⟩
theorem aX4_init_22 : Br cX4_init 22 (.if_icmp .ge (18)) (18) 25 40 := ⟨by decide +kernel, rfl, by decide⟩
theorem aX4_init_25 : At cX4_init 25 (.aload_n 0) 1 26 := ⟨by decide +kernel, rfl⟩
theorem aX4_init_26 : At cX4_init 26 (.getfield 9) 3 29 := ⟨by decide +kernel, rfl⟩
theorem aX4_init_29 : At cX4_init 29 (.iload_n 2) 1 30 := ⟨by decide +kernel, rfl⟩
theorem aX4_init_30 : At cX4_init 30 (.iload_n 2) 1 31 := ⟨by decide +kernel, rfl⟩
theorem aX4_init_31 : At cX4_init 31 (.iconst 3) 1 32 := ⟨by decide +kernel, rfl⟩
theorem aX4_init_32 : At cX4_init 32 (.irem) 1 33 := ⟨by decide +kernel, rfl⟩
theorem aX4_init_33 : At cX4_init 33 (.iastore) 1 34 := ⟨by decide +kernel, rfl⟩
theorem aX4_init_34 : At cX4_init 34 (.iinc 2 1) 3 37 := ⟨by decide +kernel, rfl⟩
theorem aX4_init_37 : Br cX4_init 37 (.goto (-18)) (-18) 40 19 := ⟨by decide +kernel, rfl, by decide⟩
theorem aX4_init_40 : At cX4_init 40 (.return_) 1 41 := ⟨by decide +kernel, rfl⟩
theorem aX4_move_0 : At cX4_move 0 (.iconst 0) 1 1 := ⟨by decide +kernel, rfl⟩
theorem aX4_move_1 : At cX4_move 1 (.istore_n 3) 1 2 := ⟨by decide +kernel, rfl⟩
theorem aX4_move_2 : At cX4_move 2 (.aload_n 1) 1 3 := ⟨by decide +kernel, rfl⟩
theorem aX4_move_3 : At cX4_move 3 (.aload_n 0) 1 4 := ⟨by decide +kernel, rfl⟩
theorem aX4_move_4 : At cX4_move 4 (.getfield 15) 3 7 := ⟨by decide +kernel, rfl⟩
theorem aX4_move_7 : At cX4_move 7 (.invokevirtual 19) 3 10 := ⟨by decide +kernel, rfl⟩
theorem aX4_move_10 : At cX4_move 10 (.istore 4) 2 12 := ⟨by decide +kernel, rfl⟩
theorem aX4_move_12 : At cX4_move 12 (.iload 4) 2 14 := ⟨by decide +kernel, rfl⟩
theorem aX4_move_14 : Br cX4_move 14 (.ifCond .lt (53)) (53) 17 67 := ⟨by decide +kernel, rfl, by decide⟩
theorem aX4_move_17 : At cX4_move 17 (.aload_n 0) 1 18 := ⟨by decide +kernel, rfl⟩
theorem aX4_move_18 : At cX4_move 18 (.getfield 9) 3 21 := ⟨by decide +kernel, rfl⟩
theorem aX4_move_21 : At cX4_move 21 (.iload 4) 2 23 := ⟨by decide +kernel, rfl⟩
theorem aX4_move_23 : At cX4_move 23 (.iaload) 1 24 := ⟨by decide +kernel, rfl⟩
theorem aX4_move_24 : At cX4_move 24 (.aload_n 1) 1 25 := ⟨by decide +kernel, rfl⟩
theorem aX4_move_25 : At cX4_move 25 (.getfield 25) 3 28 := ⟨by decide +kernel, rfl⟩
theorem aX4_move_28 : Br cX4_move 28 (.if_icmp .ne (39)) (39) 31 67 := ⟨by decide +kernel, rfl, by decide⟩
theorem aX4_move_31 : At cX4_move 31 (.aload_n 0) 1 32 := ⟨by decide +kernel, rfl⟩
theorem aX4_move_32 : At cX4_move 32 (.getfield 28) 3 35 := ⟨by decide +kernel, rfl⟩
theorem aX4_move_35 : At cX4_move 35 (.iload_n 2) 1 36 := ⟨by decide +kernel, rfl⟩
theorem aX4_move_36 : At cX4_move 36 (.ishr) 1 37 := ⟨by decide +kernel, rfl⟩
theorem aX4_move_37 : At cX4_move 37 (.iconst 1) 1 38 := ⟨by decide +kernel, rfl⟩
theorem aX4_move_38 : At cX4_move 38 (.iand) 1 39 := ⟨by decide +kernel, rfl⟩
theorem aX4_move_39 : Br cX4_move 39 (.ifCond .ne (28)) (28) 42 67 := ⟨by decide +kernel, rfl, by decide⟩
theorem aX4_move_42 : At cX4_move 42 (.aload_n 0) 1 43 := ⟨by decide +kernel, rfl⟩
theorem aX4_move_43 : At cX4_move 43 (.getfield 9) 3 46 := ⟨by decide +kernel, rfl⟩
theorem aX4_move_46 : At cX4_move 46 (.iload 4) 2 48 := ⟨by decide +kernel, rfl⟩
theorem aX4_move_48 : At cX4_move 48 (.aload_n 1) 1 49 := ⟨by decide +kernel, rfl⟩
theorem aX4_move_49 : At cX4_move 49 (.getfield 31) 3 52 := ⟨by decide +kernel, rfl⟩
theorem aX4_move_52 : At cX4_move 52 (.iastore) 1 53 := ⟨by decide +kernel, rfl⟩
theorem aX4_move_53 : At cX4_move 53 (.aload_n 0) 1 54 := ⟨by decide +kernel, rfl⟩
theorem aX4_move_54 : At cX4_move 54 (.dup) 1 55 := ⟨by decide +kernel, rfl⟩
theorem aX4_move_55 : At cX4_move 55 (.getfield 28) 3 58 := ⟨by decide +kernel, rfl⟩
theorem aX4_move_58 : At cX4_move 58 (.iconst 1) 1 59 := ⟨by decide +kernel, rfl⟩
theorem aX4_move_59 : At cX4_move 59 (.iload_n 2) 1 60 := ⟨by decide +kernel, rfl⟩
theorem aX4_move_60 : At cX4_move 60 (.ishl) 1 61 := ⟨by decide +kernel, rfl⟩
theorem aX4_move_61 : At cX4_move 61 (.ior) 1 62 := ⟨by decide +kernel, rfl⟩
theorem aX4_move_62 : At cX4_move 62 (.putfield 28) 3 65 := ⟨by decide +kernel, rfl⟩
theorem aX4_move_65 : At cX4_move 65 (.iconst 1) 1 66 := ⟨by decide +kernel, rfl⟩
theorem aX4_move_66 : At cX4_move 66 (.istore_n 3) 1 67 := ⟨by decide +kernel, rfl⟩
theorem aX4_move_67 : At cX4_move 67 (.aload_n 1) 1 68 := ⟨by decide +kernel, rfl⟩
theorem aX4_move_68 : At cX4_move 68 (.aload_n 0) 1 69 := ⟨by decide +kernel, rfl⟩
theorem aX4_move_69 : At cX4_move 69 (.getfield 15) 3 72 := ⟨by decide +kernel, rfl⟩
theorem aX4_move_72 : At cX4_move 72 (.invokevirtual 34) 3 75 := ⟨by decide +kernel, rfl⟩
theorem aX4_move_75 : At cX4_move 75 (.istore 5) 2 77 := ⟨by decide +kernel, rfl⟩
theorem aX4_move_77 : At cX4_move 77 (.iload 5) 2 79 := ⟨by decide +kernel, rfl⟩
theorem aX4_move_79 : Br cX4_move 79 (.ifCond .lt (53)) (53) 82 132 := ⟨by decide +kernel, rfl, by decide⟩
theorem aX4_move_82 : At cX4_move 82 (.aload_n 0) 1 83 := ⟨by decide +kernel, rfl⟩
theorem aX4_move_83 : At cX4_move 83 (.getfield 9) 3 86 := ⟨by decide +kernel, rfl⟩
theorem aX4_move_86 : At cX4_move 86 (.iload 5) 2 88 := ⟨by decide +kernel, rfl⟩
theorem aX4_move_88 : At cX4_move 88 (.iaload) 1 89 := ⟨by decide +kernel, rfl⟩
theorem aX4_move_89 : At cX4_move 89 (.aload_n 1) 1 90 := ⟨by decide +kernel, rfl⟩
theorem aX4_move_90 : At cX4_move 90 (.getfield 31) 3 93 := ⟨by decide +kernel, rfl⟩
theorem aX4_move_93 : Br cX4_move 93 (.if_icmp .ne (39)) (39) 96 132 := ⟨by decide +kernel, rfl, by decide⟩
theorem aX4_move_96 : At cX4_move 96 (.aload_n 0) 1 97 := ⟨by decide +kernel, rfl⟩
theorem aX4_move_97 : At cX4_move 97 (.getfield 37) 3 100 := ⟨by decide +kernel, rfl⟩
theorem aX4_move_100 : At cX4_move 100 (.iload_n 2) 1 101 := ⟨by decide +kernel, rfl⟩
theorem aX4_move_101 : At cX4_move 101 (.ishr) 1 102 := ⟨by decide +kernel, rfl⟩
theorem aX4_move_102 : At cX4_move 102 (.iconst 1) 1 103 := ⟨by decide +kernel, rfl⟩
theorem aX4_move_103 : At cX4_move 103 (.iand) 1 104 := ⟨by decide +kernel, rfl⟩
theorem aX4_move_104 : Br cX4_move 104 (.ifCond .ne (28)) (28) 107 132 := ⟨by decide +kernel, rfl, by decide⟩
theorem aX4_move_107 : At cX4_move 107 (.aload_n 0) 1 108 := ⟨by decide +kernel, rfl⟩
theorem aX4_move_108 : At cX4_move 108 (.getfield 9) 3 111 := ⟨by decide +kernel, rfl⟩
theorem aX4_move_111 : At cX4_move 111 (.iload 5) 2 113 := ⟨by decide +kernel, rfl⟩
theorem aX4_move_113 : At cX4_move 113 (.aload_n 1) 1 114 := ⟨by decide +kernel, rfl⟩
theorem aX4_move_114 : At cX4_move 114 (.getfield 25) 3 117 := ⟨by decide +kernel, rfl⟩
theorem aX4_move_117 : At cX4_move 117 (.iastore) 1 118 := ⟨by decide +kernel, rfl⟩
theorem aX4_move_118 : At cX4_move 118 (.aload_n 0) 1 119 := ⟨by decide +kernel, rfl⟩
theorem aX4_move_119 : At cX4_move 119 (.dup) 1 120 := ⟨by decide +kernel, rfl⟩
theorem aX4_move_120 : At cX4_move 120 (.getfield 37) 3 123 := ⟨by decide +kernel, rfl⟩
theorem aX4_move_123 : At cX4_move 123 (.iconst 1) 1 124 := ⟨by decide +kernel, rfl⟩
theorem aX4_move_124 : At cX4_move 124 (.iload_n 2) 1 125 := ⟨by decide +kernel, rfl⟩
theorem aX4_move_125 : At cX4_move 125 (.ishl) 1 126 := ⟨by decide +kernel, rfl⟩
theorem aX4_move_126 : At cX4_move 126 (.ior) 1 127 := ⟨by decide +kernel, rfl⟩
theorem aX4_move_127 : At cX4_move 127 (.putfield 37) 3 130 := ⟨by decide +kernel, rfl⟩
theorem aX4_move_130 : At cX4_move 130 (.iconst 1) 1 131 := ⟨by decide +kernel, rfl⟩
theorem aX4_move_131 : At cX4_move 131 (.istore_n 3) 1 132 := ⟨by decide +kernel, rfl⟩
theorem aX4_move_132 : At cX4_move 132 (.iload_n 3) 1 133 := ⟨by decide +kernel, rfl⟩
theorem aX4_move_133 : At cX4_move 133 (.ireturn) 1 134 := ⟨by decide +kernel, rfl⟩
theorem aX5_init_0 : At cX5_init 0 (.aload_n 0) 1 1 := ⟨by decide +kernel, rfl⟩
theorem aX5_init_1 : At cX5_init 1 (.invokespecial 3) 3 4 := ⟨by decide +kernel, rfl⟩
theorem aX5_init_4 : At cX5_init 4 (.aload_n 0) 1 5 := ⟨by decide +kernel, rfl⟩
theorem aX5_init_5 : At cX5_init 5 (.bipush 40) 2 7 := ⟨by decide +kernel, rfl⟩
theorem aX5_init_7 : At cX5_init 7 (.newarray .long) 2 9 := ⟨by decide +kernel, rfl⟩
theorem aX5_init_9 : At cX5_init 9 (.putfield 9) 3 12 := ⟨by decide +kernel, rfl⟩
theorem aX5_init_12 : At cX5_init 12 (.aload_n 0) 1 13 := ⟨by decide +kernel, rfl⟩
theorem aX5_init_13 : At cX5_init 13 (.iconst (-1)) 1 14 := ⟨by decide +kernel, rfl⟩
theorem aX5_init_14 : At cX5_init 14 (.putfield 15) 3 17 := ⟨by decide +kernel, rfl⟩
theorem aX5_init_17 : At cX5_init 17 (.return_) 1 18 := ⟨by decide +kernel, rfl⟩
theorem aX5_isMissing_0 : At cX5_isMissing 0 (.aload_n 0) 1 1 := ⟨by decide +kernel, rfl⟩
theorem aX5_isMissing_1 : At cX5_isMissing 1 (.getfield 15) 3 4 := ⟨by decide +kernel, rfl⟩
theorem aX5_isMissing_4 : At cX5_isMissing 4 (.iconst (-1)) 1 5 := ⟨by decide +kernel, rfl⟩
theorem aX5_isMissing_5 : Br cX5_isMissing 5 (.if_icmp .ne (7)) (7) 8 12 := ⟨by decide +kernel, rfl, by decide⟩
theorem aX5_isMissing_8 : At cX5_isMissing 8 (.iconst 1) 1 9 := ⟨by decide +kernel, rfl⟩
theorem aX5_isMissing_9 : Br cX5_isMissing 9 (.goto (4)) (4) 12 13 := ⟨by decide +kernel, rfl, by decide⟩
theorem aX5_isMissing_12 : At cX5_isMissing 12 (.iconst 0) 1 13 := ⟨by decide +kernel, rfl⟩
theorem aX5_isMissing_13 : At cX5_isMissing 13 (.ireturn) 1 14 := ⟨by decide +kernel, rfl⟩
theorem aX5_become_0 : At cX5_become 0 (.aload_n 0) 1 1 := ⟨by decide +kernel, rfl⟩
theorem aX5_become_1 : At cX5_become 1 (.iload_n 1) 1 2 := ⟨by decide +kernel, rfl⟩
theorem aX5_become_2 : At cX5_become 2 (.putfield 15) 3 5 := ⟨by decide +kernel, rfl⟩
theorem aX5_become_5 : At cX5_become 5 (.aload_n 0) 1 6 := ⟨by decide +kernel, rfl⟩
theorem aX5_become_6 : At cX5_become 6 (.iload_n 2) 1 7 := ⟨by decide +kernel, rfl⟩
theorem aX5_become_7 : At cX5_become 7 (.putfield 19) 3 10 := ⟨by decide +kernel, rfl⟩
theorem aX5_become_10 : At cX5_become 10 (.iconst 0) 1 11 := ⟨by decide +kernel, rfl⟩
theorem aX5_become_11 : At cX5_become 11 (.istore_n 3) 1 12 := ⟨by decide +kernel, rfl⟩
theorem aX5_become_12 : At cX5_become 12 (.iload_n 3) 1 13 := ⟨by decide +kernel, rfl⟩
theorem aX5_become_13 : At cX5_become 13 (.iload_n 2) 1 14 := ⟨by decide +kernel, rfl⟩
theorem aX5_become_14 : Br cX5_become 14 (.if_icmp .ge (16)) (16) 17 30 := ⟨by decide +kernel, rfl, by decide⟩
theorem aX5_become_17 : At cX5_become 17 (.aload_n 0) 1 18 := ⟨by decide +kernel, rfl⟩
theorem aX5_become_18 : At cX5_become 18 (.getfield 9) 3 21 := ⟨by decide +kernel, rfl⟩
theorem aX5_become_21 : At cX5_become 21 (.iload_n 3) 1 22 := ⟨by decide +kernel, rfl⟩
theorem aX5_become_22 : At cX5_become 22 (.lconst 0) 1 23 := ⟨by decide +kernel, rfl⟩
theorem aX5_become_23 : At cX5_become 23 (.lastore) 1 24 := ⟨by decide +kernel, rfl⟩
theorem aX5_become_24 : At cX5_become 24 (.iinc 3 1) 3 27 := ⟨by decide +kernel, rfl⟩
theorem aX5_become_27 : Br cX5_become 27 (.goto (-15)) (-15) 30 12 := ⟨by decide +kernel, rfl, by decide⟩
theorem aX5_become_30 : At cX5_become 30 (.return_) 1 31 := ⟨by decide +kernel, rfl⟩
theorem aX5_put_0 : At cX5_put 0 (.aload_n 0) 1 1 := ⟨by decide +kernel, rfl⟩
theorem aX5_put_1 : At cX5_put 1 (.getfield 15) 3 4 := ⟨by decide +kernel, rfl⟩
theorem aX5_put_4 : At cX5_put 4 (.lookupswitch 53 #[(0, 28), (1, 41)]) 28 32 := ⟨by decide +kernel, rfl⟩
theorem aX5_put_32 : At cX5_put 32 (.aload_n 0) 1 33 := ⟨by decide +kernel, rfl⟩
theorem aX5_put_33 : At cX5_put 33 (.getfield 9) 3 36 := ⟨by decide +kernel, rfl⟩
theorem aX5_put_36 : At cX5_put 36 (.iload_n 1) 1 37 := ⟨by decide +kernel, rfl⟩
theorem aX5_put_37 : At cX5_put 37 (.lload_n 2) 1 38 := ⟨by decide +kernel, rfl⟩
theorem aX5_put_38 : At cX5_put 38 (.l2i) 1 39 := ⟨by decide +kernel, rfl⟩
theorem aX5_put_39 : At cX5_put 39 (.i2s) 1 40 := ⟨by decide +kernel, rfl⟩
theorem aX5_put_40 : At cX5_put 40 (.i2l) 1 41 := ⟨by decide +kernel, rfl⟩
theorem aX5_put_41 : At cX5_put 41 (.lastore) 1 42 := ⟨by decide +kernel, rfl⟩
theorem aX5_put_42 : Br cX5_put 42 (.goto (22)) (22) 45 64 := ⟨by decide +kernel, rfl, by decide⟩
theorem aX5_put_45 : At cX5_put 45 (.aload_n 0) 1 46 := ⟨by decide +kernel, rfl⟩
theorem aX5_put_46 : At cX5_put 46 (.getfield 9) 3 49 := ⟨by decide +kernel, rfl⟩
theorem aX5_put_49 : At cX5_put 49 (.iload_n 1) 1 50 := ⟨by decide +kernel, rfl⟩
theorem aX5_put_50 : At cX5_put 50 (.lload_n 2) 1 51 := ⟨by decide +kernel, rfl⟩
theorem aX5_put_51 : At cX5_put 51 (.l2i) 1 52 := ⟨by decide +kernel, rfl⟩
theorem aX5_put_52 : At cX5_put 52 (.i2l) 1 53 := ⟨by decide +kernel, rfl⟩
theorem aX5_put_53 : At cX5_put 53 (.lastore) 1 54 := ⟨by decide +kernel, rfl⟩
theorem aX5_put_54 : Br cX5_put 54 (.goto (10)) (10) 57 64 := ⟨by decide +kernel, rfl, by decide⟩
theorem aX5_put_57 : At cX5_put 57 (.aload_n 0) 1 58 := ⟨by decide +kernel, rfl⟩
theorem aX5_put_58 : At cX5_put 58 (.getfield 9) 3 61 := ⟨by decide +kernel, rfl⟩
theorem aX5_put_61 : At cX5_put 61 (.iload_n 1) 1 62 := ⟨by decide +kernel, rfl⟩
theorem aX5_put_62 : At cX5_put 62 (.lload_n 2) 1 63 := ⟨by decide +kernel, rfl⟩
theorem aX5_put_63 : At cX5_put 63 (.lastore) 1 64 := ⟨by decide +kernel, rfl⟩
theorem aX5_put_64 : At cX5_put 64 (.return_) 1 65 := ⟨by decide +kernel, rfl⟩
theorem aX6_init_0 : At cX6_init 0 (.aload_n 0) 1 1 := ⟨by decide +kernel, rfl⟩
theorem aX6_init_1 : At cX6_init 1 (.invokespecial 3) 3 4 := ⟨by decide +kernel, rfl⟩
theorem aX6_init_4 : At cX6_init 4 (.aload_n 0) 1 5 := ⟨by decide +kernel, rfl⟩
theorem aX6_init_5 : At cX6_init 5 (.bipush 21) 2 7 := ⟨by decide +kernel, rfl⟩
theorem aX6_init_7 : At cX6_init 7 (.newarray .long) 2 9 := ⟨by decide +kernel, rfl⟩
theorem aX6_init_9 : At cX6_init 9 (.putfield 11) 3 12 := ⟨by decide +kernel, rfl⟩
theorem aX6_init_12 : At cX6_init 12 (.return_) 1 13 := ⟨by decide +kernel, rfl⟩
theorem aX6_has_0 : At cX6_has 0 (.aload_n 0) 1 1 := ⟨by decide +kernel, rfl⟩
theorem aX6_has_1 : At cX6_has 1 (.getfield 11) 3 4 := ⟨by decide +kernel, rfl⟩
theorem aX6_has_4 : At cX6_has 4 (.iload_n 1) 1 5 := ⟨by decide +kernel, rfl⟩
theorem aX6_has_5 : At cX6_has 5 (.bipush 6) 2 7 := ⟨by decide +kernel, rfl⟩
theorem aX6_has_7 : At cX6_has 7 (.ishr) 1 8 := ⟨by decide +kernel, rfl⟩
theorem aX6_has_8 : At cX6_has 8 (.laload) 1 9 := ⟨by decide +kernel, rfl⟩
theorem aX6_has_9 : At cX6_has 9 (.iload_n 1) 1 10 := ⟨by decide +kernel, rfl⟩
theorem aX6_has_10 : At cX6_has 10 (.bipush 63) 2 12 := ⟨by decide +kernel, rfl⟩
theorem aX6_has_12 : At cX6_has 12 (.iand) 1 13 := ⟨by decide +kernel, rfl⟩
theorem aX6_has_13 : At cX6_has 13 (.lshr) 1 14 := ⟨by decide +kernel, rfl⟩
theorem aX6_has_14 : At cX6_has 14 (.lconst 1) 1 15 := ⟨by decide +kernel, rfl⟩
theorem aX6_has_15 : At cX6_has 15 (.land) 1 16 := ⟨by decide +kernel, rfl⟩
theorem aX6_has_16 : At cX6_has 16 (.lconst 0) 1 17 := ⟨by decide +kernel, rfl⟩
theorem aX6_has_17 : At cX6_has 17 (.lcmp) 1 18 := ⟨by decide +kernel, rfl⟩
theorem aX6_has_18 : Br cX6_has 18 (.ifCond .eq (7)) (7) 21 25 := ⟨by decide +kernel, rfl, by decide⟩
theorem aX6_has_21 : At cX6_has 21 (.iconst 1) 1 22 := ⟨by decide +kernel, rfl⟩
theorem aX6_has_22 : Br cX6_has 22 (.goto (4)) (4) 25 26 := ⟨by decide +kernel, rfl, by decide⟩
theorem aX6_has_25 : At cX6_has 25 (.iconst 0) 1 26 := ⟨by decide +kernel, rfl⟩
theorem aX6_has_26 : At cX6_has 26 (.ireturn) 1 27 := ⟨by decide +kernel, rfl⟩
theorem aX7_init_0 : At cX7_init 0 (.aload_n 0) 1 1 := ⟨by decide +kernel, rfl⟩
theorem aX7_init_1 : At cX7_init 1 (.invokespecial 3) 3 4 := ⟨by decide +kernel, rfl⟩
theorem aX7_init_4 : At cX7_init 4 (.aload_n 0) 1 5 := ⟨by decide +kernel, rfl⟩
theorem aX7_init_5 : At cX7_init 5 (.bipush 120) 2 7 := ⟨by decide +kernel, rfl⟩
theorem aX7_init_7 : At cX7_init 7 (.newarray .byte) 2 9 := ⟨by decide +kernel, rfl⟩
theorem aX7_init_9 : At cX7_init 9 (.putfield 9) 3 12 := ⟨by decide +kernel, rfl⟩
theorem aX7_init_12 : At cX7_init 12 (.return_) 1 13 := ⟨by decide +kernel, rfl⟩
theorem aJ6_bitCount_0f7a4_0 : At cJ6_bitCount_0f7a4 0 (.iload_n 0) 1 1 := ⟨by decide +kernel, rfl⟩
theorem aJ6_bitCount_0f7a4_1 : At cJ6_bitCount_0f7a4 1 (.iload_n 0) 1 2 := ⟨by decide +kernel, rfl⟩
theorem aJ6_bitCount_0f7a4_2 : At cJ6_bitCount_0f7a4 2 (.iconst 1) 1 3 := ⟨by decide +kernel, rfl⟩
theorem aJ6_bitCount_0f7a4_3 : At cJ6_bitCount_0f7a4 3 (.iushr) 1 4 := ⟨by decide +kernel, rfl⟩
theorem aJ6_bitCount_0f7a4_4 : At cJ6_bitCount_0f7a4 4 (.ldc_w 265) 3 7 := ⟨by decide +kernel, rfl⟩
theorem aJ6_bitCount_0f7a4_7 : At cJ6_bitCount_0f7a4 7 (.iand) 1 8 := ⟨by decide +kernel, rfl⟩
theorem aJ6_bitCount_0f7a4_8 : At cJ6_bitCount_0f7a4 8 (.isub) 1 9 := ⟨by decide +kernel, rfl⟩
theorem aJ6_bitCount_0f7a4_9 : At cJ6_bitCount_0f7a4 9 (.istore_n 0) 1 10 := ⟨by decide +kernel, rfl⟩
theorem aJ6_bitCount_0f7a4_10 : At cJ6_bitCount_0f7a4 10 (.iload_n 0) 1 11 := ⟨by decide +kernel, rfl⟩
theorem aJ6_bitCount_0f7a4_11 : At cJ6_bitCount_0f7a4 11 (.ldc_w 266) 3 14 := ⟨by decide +kernel, rfl⟩
theorem aJ6_bitCount_0f7a4_14 : At cJ6_bitCount_0f7a4 14 (.iand) 1 15 := ⟨by decide +kernel, rfl⟩
theorem aJ6_bitCount_0f7a4_15 : At cJ6_bitCount_0f7a4 15 (.iload_n 0) 1 16 := ⟨by decide +kernel, rfl⟩
theorem aJ6_bitCount_0f7a4_16 : At cJ6_bitCount_0f7a4 16 (.iconst 2) 1 17 := ⟨by decide +kernel, rfl⟩
theorem aJ6_bitCount_0f7a4_17 : At cJ6_bitCount_0f7a4 17 (.iushr) 1 18 := ⟨by decide +kernel, rfl⟩
theorem aJ6_bitCount_0f7a4_18 : At cJ6_bitCount_0f7a4 18 (.ldc_w 266) 3 21 := ⟨by decide +kernel, rfl⟩
theorem aJ6_bitCount_0f7a4_21 : At cJ6_bitCount_0f7a4 21 (.iand) 1 22 := ⟨by decide +kernel, rfl⟩
theorem aJ6_bitCount_0f7a4_22 : At cJ6_bitCount_0f7a4 22 (.iadd) 1 23 := ⟨by decide +kernel, rfl⟩
theorem aJ6_bitCount_0f7a4_23 : At cJ6_bitCount_0f7a4 23 (.istore_n 0) 1 24 := ⟨by decide +kernel, rfl⟩
theorem aJ6_bitCount_0f7a4_24 : At cJ6_bitCount_0f7a4 24 (.iload_n 0) 1 25 := ⟨by decide +kernel, rfl⟩
theorem aJ6_bitCount_0f7a4_25 : At cJ6_bitCount_0f7a4 25 (.iload_n 0) 1 26 := ⟨by decide +kernel, rfl⟩
theorem aJ6_bitCount_0f7a4_26 : At cJ6_bitCount_0f7a4 26 (.iconst 4) 1 27 := ⟨by decide +kernel, rfl⟩
theorem aJ6_bitCount_0f7a4_27 : At cJ6_bitCount_0f7a4 27 (.iushr) 1 28 := ⟨by decide +kernel, rfl⟩
theorem aJ6_bitCount_0f7a4_28 : At cJ6_bitCount_0f7a4 28 (.iadd) 1 29 := ⟨by decide +kernel, rfl⟩
theorem aJ6_bitCount_0f7a4_29 : At cJ6_bitCount_0f7a4 29 (.ldc_w 267) 3 32 := ⟨by decide +kernel, rfl⟩
theorem aJ6_bitCount_0f7a4_32 : At cJ6_bitCount_0f7a4 32 (.iand) 1 33 := ⟨by decide +kernel, rfl⟩
theorem aJ6_bitCount_0f7a4_33 : At cJ6_bitCount_0f7a4 33 (.istore_n 0) 1 34 := ⟨by decide +kernel, rfl⟩
theorem aJ6_bitCount_0f7a4_34 : At cJ6_bitCount_0f7a4 34 (.iload_n 0) 1 35 := ⟨by decide +kernel, rfl⟩
theorem aJ6_bitCount_0f7a4_35 : At cJ6_bitCount_0f7a4 35 (.iload_n 0) 1 36 := ⟨by decide +kernel, rfl⟩
theorem aJ6_bitCount_0f7a4_36 : At cJ6_bitCount_0f7a4 36 (.bipush 8) 2 38 := ⟨by decide +kernel, rfl⟩
theorem aJ6_bitCount_0f7a4_38 : At cJ6_bitCount_0f7a4 38 (.iushr) 1 39 := ⟨by decide +kernel, rfl⟩
theorem aJ6_bitCount_0f7a4_39 : At cJ6_bitCount_0f7a4 39 (.iadd) 1 40 := ⟨by decide +kernel, rfl⟩
theorem aJ6_bitCount_0f7a4_40 : At cJ6_bitCount_0f7a4 40 (.istore_n 0) 1 41 := ⟨by decide +kernel, rfl⟩
theorem aJ6_bitCount_0f7a4_41 : At cJ6_bitCount_0f7a4 41 (.iload_n 0) 1 42 := ⟨by decide +kernel, rfl⟩
theorem aJ6_bitCount_0f7a4_42 : At cJ6_bitCount_0f7a4 42 (.iload_n 0) 1 43 := ⟨by decide +kernel, rfl⟩
theorem aJ6_bitCount_0f7a4_43 : At cJ6_bitCount_0f7a4 43 (.bipush 16) 2 45 := ⟨by decide +kernel, rfl⟩
theorem aJ6_bitCount_0f7a4_45 : At cJ6_bitCount_0f7a4 45 (.iushr) 1 46 := ⟨by decide +kernel, rfl⟩
theorem aJ6_bitCount_0f7a4_46 : At cJ6_bitCount_0f7a4 46 (.iadd) 1 47 := ⟨by decide +kernel, rfl⟩
theorem aJ6_bitCount_0f7a4_47 : At cJ6_bitCount_0f7a4 47 (.istore_n 0) 1 48 := ⟨by decide +kernel, rfl⟩
theorem aJ6_bitCount_0f7a4_48 : At cJ6_bitCount_0f7a4 48 (.iload_n 0) 1 49 := ⟨by decide +kernel, rfl⟩
theorem aJ6_bitCount_0f7a4_49 : At cJ6_bitCount_0f7a4 49 (.bipush 63) 2 51 := ⟨by decide +kernel, rfl⟩
theorem aJ6_bitCount_0f7a4_51 : At cJ6_bitCount_0f7a4 51 (.iand) 1 52 := ⟨by decide +kernel, rfl⟩
theorem aJ6_bitCount_0f7a4_52 : At cJ6_bitCount_0f7a4 52 (.ireturn) 1 53 := ⟨by decide +kernel, rfl⟩
theorem aJ9_max_7cf53_0 : At cJ9_max_7cf53 0 (.iload_n 0) 1 1 := ⟨by decide +kernel, rfl⟩
theorem aJ9_max_7cf53_1 : At cJ9_max_7cf53 1 (.iload_n 1) 1 2 := ⟨by decide +kernel, rfl⟩
theorem aJ9_max_7cf53_2 : Br cJ9_max_7cf53 2 (.if_icmp .lt (7)) (7) 5 9 := ⟨by decide +kernel, rfl, by decide⟩
theorem aJ9_max_7cf53_5 : At cJ9_max_7cf53 5 (.iload_n 0) 1 6 := ⟨by decide +kernel, rfl⟩
theorem aJ9_max_7cf53_6 : Br cJ9_max_7cf53 6 (.goto (4)) (4) 9 10 := ⟨by decide +kernel, rfl, by decide⟩
theorem aJ9_max_7cf53_9 : At cJ9_max_7cf53 9 (.iload_n 1) 1 10 := ⟨by decide +kernel, rfl⟩
theorem aJ9_max_7cf53_10 : At cJ9_max_7cf53 10 (.ireturn) 1 11 := ⟨by decide +kernel, rfl⟩
theorem aJ9_min_7cf53_0 : At cJ9_min_7cf53 0 (.iload_n 0) 1 1 := ⟨by decide +kernel, rfl⟩
theorem aJ9_min_7cf53_1 : At cJ9_min_7cf53 1 (.iload_n 1) 1 2 := ⟨by decide +kernel, rfl⟩
theorem aJ9_min_7cf53_2 : Br cJ9_min_7cf53 2 (.if_icmp .gt (7)) (7) 5 9 := ⟨by decide +kernel, rfl, by decide⟩
theorem aJ9_min_7cf53_5 : At cJ9_min_7cf53 5 (.iload_n 0) 1 6 := ⟨by decide +kernel, rfl⟩
theorem aJ9_min_7cf53_6 : Br cJ9_min_7cf53 6 (.goto (4)) (4) 9 10 := ⟨by decide +kernel, rfl, by decide⟩
theorem aJ9_min_7cf53_9 : At cJ9_min_7cf53 9 (.iload_n 1) 1 10 := ⟨by decide +kernel, rfl⟩
theorem aJ9_min_7cf53_10 : At cJ9_min_7cf53 10 (.ireturn) 1 11 := ⟨by decide +kernel, rfl⟩
theorem aJxa1e45_init_da8c8_0 : At cJxa1e45_init_da8c8 0 (.aload_n 0) 1 1 := ⟨by decide +kernel, rfl⟩
theorem aJxa1e45_init_da8c8_1 : At cJxa1e45_init_da8c8 1 (.invokespecial 1) 3 4 := ⟨by decide +kernel, rfl⟩
theorem aJxa1e45_init_da8c8_4 : At cJxa1e45_init_da8c8 4 (.return_) 1 5 := ⟨by decide +kernel, rfl⟩
theorem aJxc12de_init_da8c8_0 : At cJxc12de_init_da8c8 0 (.aload_n 0) 1 1 := ⟨by decide +kernel, rfl⟩
theorem aJxc12de_init_da8c8_1 : At cJxc12de_init_da8c8 1 (.invokespecial 1) 3 4 := ⟨by decide +kernel, rfl⟩
theorem aJxc12de_init_da8c8_4 : At cJxc12de_init_da8c8 4 (.aload_n 0) 1 5 := ⟨by decide +kernel, rfl⟩
theorem aJxc12de_init_da8c8_5 : At cJxc12de_init_da8c8 5 (.iconst 0) 1 6 := ⟨by decide +kernel, rfl⟩
theorem aJxc12de_init_da8c8_6 : At cJxc12de_init_da8c8 6 (.putfield 7) 3 9 := ⟨by decide +kernel, rfl⟩
theorem aJxc12de_init_da8c8_9 : At cJxc12de_init_da8c8 9 (.return_) 1 10 := ⟨by decide +kernel, rfl⟩
theorem aJx4a65c_init_da8c8_0 : At cJx4a65c_init_da8c8 0 (.aload_n 0) 1 1 := ⟨by decide +kernel, rfl⟩
theorem aJx4a65c_init_da8c8_1 : At cJx4a65c_init_da8c8 1 (.invokespecial 1) 3 4 := ⟨by decide +kernel, rfl⟩
theorem aJx4a65c_init_da8c8_4 : At cJx4a65c_init_da8c8 4 (.aload_n 0) 1 5 := ⟨by decide +kernel, rfl⟩
theorem aJx4a65c_init_da8c8_5 : At cJx4a65c_init_da8c8 5 (.getstatic 39) 3 8 := ⟨by decide +kernel, rfl⟩
theorem aJx4a65c_init_da8c8_8 : At cJx4a65c_init_da8c8 8 (.putfield 9) 3 11 := ⟨by decide +kernel, rfl⟩
theorem aJx4a65c_init_da8c8_11 : At cJx4a65c_init_da8c8 11 (.return_) 1 12 := ⟨by decide +kernel, rfl⟩
theorem aJx4a65c_grow_92f84_0 : At cJx4a65c_grow_92f84 0 (.aload_n 0) 1 1 := ⟨by decide +kernel, rfl⟩
theorem aJx4a65c_grow_92f84_1 : At cJx4a65c_grow_92f84 1 (.getfield 9) 3 4 := ⟨by decide +kernel, rfl⟩
theorem aJx4a65c_grow_92f84_4 : At cJx4a65c_grow_92f84 4 (.arraylength) 1 5 := ⟨by decide +kernel, rfl⟩
theorem aJx4a65c_grow_92f84_5 : At cJx4a65c_grow_92f84 5 (.istore_n 2) 1 6 := ⟨by decide +kernel, rfl⟩
theorem aJx4a65c_grow_92f84_6 : At cJx4a65c_grow_92f84 6 (.iload_n 2) 1 7 := ⟨by decide +kernel, rfl⟩
theorem aJx4a65c_grow_92f84_7 : Br cJx4a65c_grow_92f84 7 (.ifCond .gt (13)) (13) 10 20 := ⟨by decide +kernel, rfl, by decide⟩
theorem aJx4a65c_grow_92f84_10 : At cJx4a65c_grow_92f84 10 (.aload_n 0) 1 11 := ⟨by decide +kernel, rfl⟩
theorem aJx4a65c_grow_92f84_11 : At cJx4a65c_grow_92f84 11 (.getfield 9) 3 14 := ⟨by decide +kernel, rfl⟩
theorem aJx4a65c_grow_92f84_14 : At cJx4a65c_grow_92f84 14 (.getstatic 39) 3 17 := ⟨by decide +kernel, rfl⟩
theorem aJx4a65c_grow_92f84_17 : Br cJx4a65c_grow_92f84 17 (.if_acmp .eq (28)) (28) 20 45 := ⟨by decide +kernel, rfl, by decide⟩
theorem aJx4a65c_grow_92f84_20 : At cJx4a65c_grow_92f84 20 (.iload_n 2) 1 21 := ⟨by decide +kernel, rfl⟩
theorem aJx4a65c_grow_92f84_21 : At cJx4a65c_grow_92f84 21 (.iload_n 1) 1 22 := ⟨by decide +kernel, rfl⟩
theorem aJx4a65c_grow_92f84_22 : At cJx4a65c_grow_92f84 22 (.iload_n 2) 1 23 := ⟨by decide +kernel, rfl⟩
theorem aJx4a65c_grow_92f84_23 : At cJx4a65c_grow_92f84 23 (.isub) 1 24 := ⟨by decide +kernel, rfl⟩
theorem aJx4a65c_grow_92f84_24 : At cJx4a65c_grow_92f84 24 (.iload_n 2) 1 25 := ⟨by decide +kernel, rfl⟩
theorem aJx4a65c_grow_92f84_25 : At cJx4a65c_grow_92f84 25 (.iconst 1) 1 26 := ⟨by decide +kernel, rfl⟩
theorem aJx4a65c_grow_92f84_26 : At cJx4a65c_grow_92f84 26 (.ishr) 1 27 := ⟨by decide +kernel, rfl⟩
theorem aJx4a65c_grow_92f84_27 : At cJx4a65c_grow_92f84 27 (.invokestatic 73) 3 30 := ⟨by decide +kernel, rfl⟩
theorem aJx4a65c_grow_92f84_30 : At cJx4a65c_grow_92f84 30 (.istore_n 3) 1 31 := ⟨by decide +kernel, rfl⟩
theorem aJx4a65c_grow_92f84_31 : At cJx4a65c_grow_92f84 31 (.aload_n 0) 1 32 := ⟨by decide +kernel, rfl⟩
theorem aJx4a65c_grow_92f84_32 : At cJx4a65c_grow_92f84 32 (.aload_n 0) 1 33 := ⟨by decide +kernel, rfl⟩
theorem aJx4a65c_grow_92f84_33 : At cJx4a65c_grow_92f84 33 (.getfield 9) 3 36 := ⟨by decide +kernel, rfl⟩
theorem aJx4a65c_grow_92f84_36 : At cJx4a65c_grow_92f84 36 (.iload_n 3) 1 37 := ⟨by decide +kernel, rfl⟩
theorem aJx4a65c_grow_92f84_37 : At cJx4a65c_grow_92f84 37 (.invokestatic 66) 3 40 := ⟨by decide +kernel, rfl⟩
theorem aJx4a65c_grow_92f84_40 : At cJx4a65c_grow_92f84 40 (.dup_x1) 1 41 := ⟨by decide +kernel, rfl⟩
theorem aJx4a65c_grow_92f84_41 : At cJx4a65c_grow_92f84 41 (.putfield 9) 3 44 := ⟨by decide +kernel, rfl⟩
theorem aJx4a65c_grow_92f84_44 : At cJx4a65c_grow_92f84 44 (.areturn) 1 45 := ⟨by decide +kernel, rfl⟩
theorem aJx4a65c_grow_92f84_45 : At cJx4a65c_grow_92f84 45 (.aload_n 0) 1 46 := ⟨by decide +kernel, rfl⟩
theorem aJx4a65c_grow_92f84_46 : At cJx4a65c_grow_92f84 46 (.bipush 10) 2 48 := ⟨by decide +kernel, rfl⟩
theorem aJx4a65c_grow_92f84_48 : At cJx4a65c_grow_92f84 48 (.iload_n 1) 1 49 := ⟨by decide +kernel, rfl⟩
theorem aJx4a65c_grow_92f84_49 : At cJx4a65c_grow_92f84 49 (.invokestatic 79) 3 52 := ⟨by decide +kernel, rfl⟩
theorem aJx4a65c_grow_92f84_52 : At cJx4a65c_grow_92f84 52 (.anewarray 7) 3 55 := ⟨by decide +kernel, rfl⟩
theorem aJx4a65c_grow_92f84_55 : At cJx4a65c_grow_92f84 55 (.dup_x1) 1 56 := ⟨by decide +kernel, rfl⟩
theorem aJx4a65c_grow_92f84_56 : At cJx4a65c_grow_92f84 56 (.putfield 9) 3 59 := ⟨by decide +kernel, rfl⟩
theorem aJx4a65c_grow_92f84_59 : At cJx4a65c_grow_92f84 59 (.areturn) 1 60 := ⟨by decide +kernel, rfl⟩
theorem aJx4a65c_grow_d5877_0 : At cJx4a65c_grow_d5877 0 (.aload_n 0) 1 1 := ⟨by decide +kernel, rfl⟩
theorem aJx4a65c_grow_d5877_1 : At cJx4a65c_grow_d5877 1 (.aload_n 0) 1 2 := ⟨by decide +kernel, rfl⟩
theorem aJx4a65c_grow_d5877_2 : At cJx4a65c_grow_d5877 2 (.getfield 48) 3 5 := ⟨by decide +kernel, rfl⟩
theorem aJx4a65c_grow_d5877_5 : At cJx4a65c_grow_d5877 5 (.iconst 1) 1 6 := ⟨by decide +kernel, rfl⟩
theorem aJx4a65c_grow_d5877_6 : At cJx4a65c_grow_d5877 6 (.iadd) 1 7 := ⟨by decide +kernel, rfl⟩
theorem aJx4a65c_grow_d5877_7 : At cJx4a65c_grow_d5877 7 (.invokevirtual 69) 3 10 := ⟨by decide +kernel, rfl⟩
theorem aJx4a65c_grow_d5877_10 : At cJx4a65c_grow_d5877 10 (.areturn) 1 11 := ⟨by decide +kernel, rfl⟩
theorem aJx4a65c_size_8abf5_0 : At cJx4a65c_size_8abf5 0 (.aload_n 0) 1 1 := ⟨by decide +kernel, rfl⟩
theorem aJx4a65c_size_8abf5_1 : At cJx4a65c_size_8abf5 1 (.getfield 48) 3 4 := ⟨by decide +kernel, rfl⟩
theorem aJx4a65c_size_8abf5_4 : At cJx4a65c_size_8abf5 4 (.ireturn) 1 5 := ⟨by decide +kernel, rfl⟩
theorem aJx4a65c_elementData_915e3_0 : At cJx4a65c_elementData_915e3 0 (.aload_n 0) 1 1 := ⟨by decide +kernel, rfl⟩
theorem aJx4a65c_elementData_915e3_1 : At cJx4a65c_elementData_915e3 1 (.getfield 9) 3 4 := ⟨by decide +kernel, rfl⟩
theorem aJx4a65c_elementData_915e3_4 : At cJx4a65c_elementData_915e3 4 (.iload_n 1) 1 5 := ⟨by decide +kernel, rfl⟩
theorem aJx4a65c_elementData_915e3_5 : At cJx4a65c_elementData_915e3 5 (.aaload) 1 6 := ⟨by decide +kernel, rfl⟩
theorem aJx4a65c_elementData_915e3_6 : At cJx4a65c_elementData_915e3 6 (.areturn) 1 7 := ⟨by decide +kernel, rfl⟩
theorem aJx4a65c_get_915e3_0 : At cJx4a65c_get_915e3 0 (.iload_n 1) 1 1 := ⟨by decide +kernel, rfl⟩
theorem aJx4a65c_get_915e3_1 : At cJx4a65c_get_915e3 1 (.aload_n 0) 1 2 := ⟨by decide +kernel, rfl⟩
theorem aJx4a65c_get_915e3_2 : At cJx4a65c_get_915e3 2 (.getfield 48) 3 5 := ⟨by decide +kernel, rfl⟩
theorem aJx4a65c_get_915e3_5 : At cJx4a65c_get_915e3 5 (.invokestatic 118) 3 8 := ⟨by decide +kernel, rfl⟩
theorem aJx4a65c_get_915e3_8 : At cJx4a65c_get_915e3 8 (.pop) 1 9 := ⟨by decide +kernel, rfl⟩
theorem aJx4a65c_get_915e3_9 : At cJx4a65c_get_915e3 9 (.aload_n 0) 1 10 := ⟨by decide +kernel, rfl⟩
theorem aJx4a65c_get_915e3_10 : At cJx4a65c_get_915e3 10 (.iload_n 1) 1 11 := ⟨by decide +kernel, rfl⟩
theorem aJx4a65c_get_915e3_11 : At cJx4a65c_get_915e3 11 (.invokevirtual 123) 3 14 := ⟨by decide +kernel, rfl⟩
theorem aJx4a65c_get_915e3_14 : At cJx4a65c_get_915e3 14 (.areturn) 1 15 := ⟨by decide +kernel, rfl⟩
theorem aJx4a65c_add_72be8_0 : At cJx4a65c_add_72be8 0 (.iload_n 3) 1 1 := ⟨by decide +kernel, rfl⟩
theorem aJx4a65c_add_72be8_1 : At cJx4a65c_add_72be8 1 (.aload_n 2) 1 2 := ⟨by decide +kernel, rfl⟩
theorem aJx4a65c_add_72be8_2 : At cJx4a65c_add_72be8 2 (.arraylength) 1 3 := ⟨by decide +kernel, rfl⟩
theorem aJx4a65c_add_72be8_3 : Br cJx4a65c_add_72be8 3 (.if_icmp .ne (8)) (8) 6 11 := ⟨by decide +kernel, rfl, by decide⟩
theorem aJx4a65c_add_72be8_6 : At cJx4a65c_add_72be8 6 (.aload_n 0) 1 7 := ⟨by decide +kernel, rfl⟩
theorem aJx4a65c_add_72be8_7 : At cJx4a65c_add_72be8 7 (.invokevirtual 129) 3 10 := ⟨by decide +kernel, rfl⟩
theorem aJx4a65c_add_72be8_10 : At cJx4a65c_add_72be8 10 (.astore_n 2) 1 11 := ⟨by decide +kernel, rfl⟩
theorem aJx4a65c_add_72be8_11 : At cJx4a65c_add_72be8 11 (.aload_n 2) 1 12 := ⟨by decide +kernel, rfl⟩
theorem aJx4a65c_add_72be8_12 : At cJx4a65c_add_72be8 12 (.iload_n 3) 1 13 := ⟨by decide +kernel, rfl⟩
theorem aJx4a65c_add_72be8_13 : At cJx4a65c_add_72be8 13 (.aload_n 1) 1 14 := ⟨by decide +kernel, rfl⟩
theorem aJx4a65c_add_72be8_14 : At cJx4a65c_add_72be8 14 (.aastore) 1 15 := ⟨by decide +kernel, rfl⟩
theorem aJx4a65c_add_72be8_15 : At cJx4a65c_add_72be8 15 (.aload_n 0) 1 16 := ⟨by decide +kernel, rfl⟩
theorem aJx4a65c_add_72be8_16 : At cJx4a65c_add_72be8 16 (.iload_n 3) 1 17 := ⟨by decide +kernel, rfl⟩
theorem aJx4a65c_add_72be8_17 : At cJx4a65c_add_72be8 17 (.iconst 1) 1 18 := ⟨by decide +kernel, rfl⟩
theorem aJx4a65c_add_72be8_18 : At cJx4a65c_add_72be8 18 (.iadd) 1 19 := ⟨by decide +kernel, rfl⟩
theorem aJx4a65c_add_72be8_19 : At cJx4a65c_add_72be8 19 (.putfield 48) 3 22 := ⟨by decide +kernel, rfl⟩
theorem aJx4a65c_add_72be8_22 : At cJx4a65c_add_72be8 22 (.return_) 1 23 := ⟨by decide +kernel, rfl⟩
theorem aJx4a65c_add_9ea2d_0 : At cJx4a65c_add_9ea2d 0 (.aload_n 0) 1 1 := ⟨by decide +kernel, rfl⟩
theorem aJx4a65c_add_9ea2d_1 : At cJx4a65c_add_9ea2d 1 (.dup) 1 2 := ⟨by decide +kernel, rfl⟩
theorem aJx4a65c_add_9ea2d_2 : At cJx4a65c_add_9ea2d 2 (.getfield 63) 3 5 := ⟨by decide +kernel, rfl⟩
theorem aJx4a65c_add_9ea2d_5 : At cJx4a65c_add_9ea2d 5 (.iconst 1) 1 6 := ⟨by decide +kernel, rfl⟩
theorem aJx4a65c_add_9ea2d_6 : At cJx4a65c_add_9ea2d 6 (.iadd) 1 7 := ⟨by decide +kernel, rfl⟩
theorem aJx4a65c_add_9ea2d_7 : At cJx4a65c_add_9ea2d 7 (.putfield 63) 3 10 := ⟨by decide +kernel, rfl⟩
theorem aJx4a65c_add_9ea2d_10 : At cJx4a65c_add_9ea2d 10 (.aload_n 0) 1 11 := ⟨by decide +kernel, rfl⟩
theorem aJx4a65c_add_9ea2d_11 : At cJx4a65c_add_9ea2d 11 (.aload_n 1) 1 12 := ⟨by decide +kernel, rfl⟩
theorem aJx4a65c_add_9ea2d_12 : At cJx4a65c_add_9ea2d 12 (.aload_n 0) 1 13 := ⟨by decide +kernel, rfl⟩
theorem aJx4a65c_add_9ea2d_13 : At cJx4a65c_add_9ea2d 13 (.getfield 9) 3 16 := ⟨by decide +kernel, rfl⟩
theorem aJx4a65c_add_9ea2d_16 : At cJx4a65c_add_9ea2d 16 (.aload_n 0) 1 17 := ⟨by decide +kernel, rfl⟩
theorem aJx4a65c_add_9ea2d_17 : At cJx4a65c_add_9ea2d 17 (.getfield 48) 3 20 := ⟨by decide +kernel, rfl⟩
theorem aJx4a65c_add_9ea2d_20 : At cJx4a65c_add_9ea2d 20 (.invokevirtual 131) 3 23 := ⟨by decide +kernel, rfl⟩
theorem aJx4a65c_add_9ea2d_23 : At cJx4a65c_add_9ea2d 23 (.iconst 1) 1 24 := ⟨by decide +kernel, rfl⟩
theorem aJx4a65c_add_9ea2d_24 : At cJx4a65c_add_9ea2d 24 (.ireturn) 1 25 := ⟨by decide +kernel, rfl⟩
theorem aJ7_copyOf_1904c_0 : At cJ7_copyOf_1904c 0 (.aload_n 0) 1 1 := ⟨by decide +kernel, rfl⟩
theorem aJ7_copyOf_1904c_1 : At cJ7_copyOf_1904c 1 (.iload_n 1) 1 2 := ⟨by decide +kernel, rfl⟩
theorem aJ7_copyOf_1904c_2 : At cJ7_copyOf_1904c 2 (.aload_n 0) 1 3 := ⟨by decide +kernel, rfl⟩
theorem aJ7_copyOf_1904c_3 : At cJ7_copyOf_1904c 3 (.invokevirtual 86) 3 6 := ⟨by decide +kernel, rfl⟩
theorem aJ7_copyOf_1904c_6 : At cJ7_copyOf_1904c 6 (.invokestatic 300) 3 9 := ⟨by decide +kernel, rfl⟩
theorem aJ7_copyOf_1904c_9 : At cJ7_copyOf_1904c 9 (.areturn) 1 10 := ⟨by decide +kernel, rfl⟩
theorem aJ7_copyOf_6403c_0 : At cJ7_copyOf_6403c 0 (.aload_n 2) 1 1 := ⟨by decide +kernel, rfl⟩
theorem aJ7_copyOf_6403c_1 : At cJ7_copyOf_6403c 1 (.ldc 110) 2 3 := ⟨by decide +kernel, rfl⟩
theorem aJ7_copyOf_6403c_3 : Br cJ7_copyOf_6403c 3 (.if_acmp .ne (10)) (10) 6 13 := ⟨by decide +kernel, rfl, by decide⟩
theorem aJ7_copyOf_6403c_6 : At cJ7_copyOf_6403c 6 (.iload_n 1) 1 7 := ⟨by decide +kernel, rfl⟩
theorem aJ7_copyOf_6403c_7 : At cJ7_copyOf_6403c 7 (.anewarray 2) 3 10 := ⟨by decide +kernel, rfl⟩
theorem aJ7_copyOf_6403c_10 : Br cJ7_copyOf_6403c 10 (.goto (14)) (14) 13 24 := ⟨by decide +kernel, rfl, by decide⟩
theorem aJ7_copyOf_6403c_13 : At cJ7_copyOf_6403c 13 (.aload_n 2) 1 14 := ⟨by decide +kernel, rfl⟩
theorem aJ7_copyOf_6403c_14 : At cJ7_copyOf_6403c 14 (.invokevirtual 90) 3 17 := ⟨by decide +kernel, rfl⟩
theorem aJ7_copyOf_6403c_17 : At cJ7_copyOf_6403c 17 (.iload_n 1) 1 18 := ⟨by decide +kernel, rfl⟩
theorem aJ7_copyOf_6403c_18 : At cJ7_copyOf_6403c 18 (.invokestatic 95) 3 21 := ⟨by decide +kernel, rfl⟩
theorem aJ7_copyOf_6403c_21 : At cJ7_copyOf_6403c 21 (.checkcast 110) 3 24 := ⟨by decide +kernel, rfl⟩
theorem aJ7_copyOf_6403c_24 : At cJ7_copyOf_6403c 24 (.astore_n 3) 1 25 := ⟨by decide +kernel, rfl⟩
theorem aJ7_copyOf_6403c_25 : At cJ7_copyOf_6403c 25 (.aload_n 0) 1 26 := ⟨by decide +kernel, rfl⟩
theorem aJ7_copyOf_6403c_26 : At cJ7_copyOf_6403c 26 (.iconst 0) 1 27 := ⟨by decide +kernel, rfl⟩
theorem aJ7_copyOf_6403c_27 : At cJ7_copyOf_6403c 27 (.aload_n 3) 1 28 := ⟨by decide +kernel, rfl⟩
theorem aJ7_copyOf_6403c_28 : At cJ7_copyOf_6403c 28 (.iconst 0) 1 29 := ⟨by decide +kernel, rfl⟩
theorem aJ7_copyOf_6403c_29 : At cJ7_copyOf_6403c 29 (.aload_n 0) 1 30 := ⟨by decide +kernel, rfl⟩
theorem aJ7_copyOf_6403c_30 : At cJ7_copyOf_6403c 30 (.arraylength) 1 31 := ⟨by decide +kernel, rfl⟩
theorem aJ7_copyOf_6403c_31 : At cJ7_copyOf_6403c 31 (.iload_n 1) 1 32 := ⟨by decide +kernel, rfl⟩
theorem aJ7_copyOf_6403c_32 : At cJ7_copyOf_6403c 32 (.invokestatic 304) 3 35 := ⟨by decide +kernel, rfl⟩
theorem aJ7_copyOf_6403c_35 : At cJ7_copyOf_6403c 35 (.invokestatic 150) 3 38 := ⟨by decide +kernel, rfl⟩
theorem aJ7_copyOf_6403c_38 : At cJ7_copyOf_6403c 38 (.aload_n 3) 1 39 := ⟨by decide +kernel, rfl⟩
theorem aJ7_copyOf_6403c_39 : At cJ7_copyOf_6403c 39 (.areturn) 1 40 := ⟨by decide +kernel, rfl⟩
theorem aJ15_checkIndex_7cf53_0 : At cJ15_checkIndex_7cf53 0 (.iload_n 0) 1 1 := ⟨by decide +kernel, rfl⟩
theorem aJ15_checkIndex_7cf53_1 : At cJ15_checkIndex_7cf53 1 (.iload_n 1) 1 2 := ⟨by decide +kernel, rfl⟩
theorem aJ15_checkIndex_7cf53_2 : At cJ15_checkIndex_7cf53 2 (.aconst_null) 1 3 := ⟨by decide +kernel, rfl⟩
theorem aJ15_checkIndex_7cf53_3 : At cJ15_checkIndex_7cf53 3 (.invokestatic 105) 3 6 := ⟨by decide +kernel, rfl⟩
theorem aJ15_checkIndex_7cf53_6 : At cJ15_checkIndex_7cf53 6 (.ireturn) 1 7 := ⟨by decide +kernel, rfl⟩
theorem aJ8_newLength_cabcc_0 : At cJ8_newLength_cabcc 0 (.iload_n 0) 1 1 := ⟨by decide +kernel, rfl⟩
theorem aJ8_newLength_cabcc_1 : At cJ8_newLength_cabcc 1 (.iload_n 1) 1 2 := ⟨by decide +kernel, rfl⟩
theorem aJ8_newLength_cabcc_2 : At cJ8_newLength_cabcc 2 (.iload_n 2) 1 3 := ⟨by decide +kernel, rfl⟩
theorem aJ8_newLength_cabcc_3 : At cJ8_newLength_cabcc 3 (.invokestatic 194) 3 6 := ⟨by decide +kernel, rfl⟩
theorem aJ8_newLength_cabcc_6 : At cJ8_newLength_cabcc 6 (.iadd) 1 7 := ⟨by decide +kernel, rfl⟩
theorem aJ8_newLength_cabcc_7 : At cJ8_newLength_cabcc 7 (.istore_n 3) 1 8 := ⟨by decide +kernel, rfl⟩
theorem aJ8_newLength_cabcc_8 : At cJ8_newLength_cabcc 8 (.iconst 0) 1 9 := ⟨by decide +kernel, rfl⟩
theorem aJ8_newLength_cabcc_9 : At cJ8_newLength_cabcc 9 (.iload_n 3) 1 10 := ⟨by decide +kernel, rfl⟩
theorem aJ8_newLength_cabcc_10 : Br cJ8_newLength_cabcc 10 (.if_icmp .ge (11)) (11) 13 21 := ⟨by decide +kernel, rfl, by decide⟩
theorem aJ8_newLength_cabcc_13 : At cJ8_newLength_cabcc 13 (.iload_n 3) 1 14 := ⟨by decide +kernel, rfl⟩
theorem aJ8_newLength_cabcc_14 : At cJ8_newLength_cabcc 14 (.ldc 200) 2 16 := ⟨by decide +kernel, rfl⟩
theorem aJ8_newLength_cabcc_16 : Br cJ8_newLength_cabcc 16 (.if_icmp .gt (5)) (5) 19 21 := ⟨by decide +kernel, rfl, by decide⟩
theorem aJ8_newLength_cabcc_19 : At cJ8_newLength_cabcc 19 (.iload_n 3) 1 20 := ⟨by decide +kernel, rfl⟩
theorem aJ8_newLength_cabcc_20 : At cJ8_newLength_cabcc 20 (.ireturn) 1 21 := ⟨by decide +kernel, rfl⟩
theorem aJ8_newLength_cabcc_21 : At cJ8_newLength_cabcc 21 (.iload_n 0) 1 22 := ⟨by decide +kernel, rfl⟩
theorem aJ8_newLength_cabcc_22 : At cJ8_newLength_cabcc 22 (.iload_n 1) 1 23 := ⟨by decide +kernel, rfl⟩
theorem aJ8_newLength_cabcc_23 : At cJ8_newLength_cabcc 23 (.invokestatic 201) 3 26 := ⟨by decide +kernel, rfl⟩
theorem aJ8_newLength_cabcc_26 : At cJ8_newLength_cabcc 26 (.ireturn) 1 27 := ⟨by decide +kernel, rfl⟩
theorem aJ8_hugeLength_7cf53_0 : At cJ8_hugeLength_7cf53 0 (.iload_n 0) 1 1 := ⟨by decide +kernel, rfl⟩
theorem aJ8_hugeLength_7cf53_1 : At cJ8_hugeLength_7cf53 1 (.iload_n 1) 1 2 := ⟨by decide +kernel, rfl⟩
theorem aJ8_hugeLength_7cf53_2 : At cJ8_hugeLength_7cf53 2 (.iadd) 1 3 := ⟨by decide +kernel, rfl⟩
theorem aJ8_hugeLength_7cf53_3 : At cJ8_hugeLength_7cf53 3 (.istore_n 2) 1 4 := ⟨by decide +kernel, rfl⟩
theorem aJ8_hugeLength_7cf53_4 : At cJ8_hugeLength_7cf53 4 (.iload_n 2) 1 5 := ⟨by decide +kernel, rfl⟩
theorem aJ8_hugeLength_7cf53_5 : Br cJ8_hugeLength_7cf53 5 (.ifCond .ge (44)) (44) 8 49 := ⟨by decide +kernel, rfl, by decide⟩
theorem aJ8_hugeLength_7cf53_8 : At cJ8_hugeLength_7cf53 8 (.new 204) 3 11 := ⟨by decide +kernel, rfl⟩
theorem aJ8_hugeLength_7cf53_11 : At cJ8_hugeLength_7cf53 11 (.dup) 1 12 := ⟨by decide +kernel, rfl⟩
theorem aJ8_hugeLength_7cf53_12 : At cJ8_hugeLength_7cf53 12 (.new 89) 3 15 := ⟨by decide +kernel, rfl⟩
theorem aJ8_hugeLength_7cf53_15 : At cJ8_hugeLength_7cf53 15 (.dup) 1 16 := ⟨by decide +kernel, rfl⟩
theorem aJ8_hugeLength_7cf53_16 : At cJ8_hugeLength_7cf53 16 (.invokespecial 91) 3 19 := ⟨by decide +kernel, rfl⟩
theorem aJ8_hugeLength_7cf53_19 : At cJ8_hugeLength_7cf53 19 (.ldc 206) 2 21 := ⟨by decide +kernel, rfl⟩
theorem aJ8_hugeLength_7cf53_21 : At cJ8_hugeLength_7cf53 21 (.invokevirtual 94) 3 24 := ⟨by decide +kernel, rfl⟩
theorem aJ8_hugeLength_7cf53_24 : At cJ8_hugeLength_7cf53 24 (.iload_n 0) 1 25 := ⟨by decide +kernel, rfl⟩
theorem aJ8_hugeLength_7cf53_25 : At cJ8_hugeLength_7cf53 25 (.invokevirtual 98) 3 28 := ⟨by decide +kernel, rfl⟩
theorem aJ8_hugeLength_7cf53_28 : At cJ8_hugeLength_7cf53 28 (.ldc 208) 2 30 := ⟨by decide +kernel, rfl⟩
theorem aJ8_hugeLength_7cf53_30 : At cJ8_hugeLength_7cf53 30 (.invokevirtual 94) 3 33 := ⟨by decide +kernel, rfl⟩
theorem aJ8_hugeLength_7cf53_33 : At cJ8_hugeLength_7cf53 33 (.iload_n 1) 1 34 := ⟨by decide +kernel, rfl⟩
theorem aJ8_hugeLength_7cf53_34 : At cJ8_hugeLength_7cf53 34 (.invokevirtual 98) 3 37 := ⟨by decide +kernel, rfl⟩
theorem aJ8_hugeLength_7cf53_37 : At cJ8_hugeLength_7cf53 37 (.ldc 210) 2 39 := ⟨by decide +kernel, rfl⟩
theorem aJ8_hugeLength_7cf53_39 : At cJ8_hugeLength_7cf53 39 (.invokevirtual 94) 3 42 := ⟨by decide +kernel, rfl⟩
theorem aJ8_hugeLength_7cf53_42 : At cJ8_hugeLength_7cf53 42 (.invokevirtual 101) 3 45 := ⟨by decide +kernel, rfl⟩
theorem aJ8_hugeLength_7cf53_45 : At cJ8_hugeLength_7cf53 45 (.invokespecial 212) 3 48 := ⟨by decide +kernel, rfl⟩
theorem aJ8_hugeLength_7cf53_48 : At cJ8_hugeLength_7cf53 48 (.athrow) 1 49 := ⟨by decide +kernel, rfl⟩
theorem aJ8_hugeLength_7cf53_49 : At cJ8_hugeLength_7cf53 49 (.iload_n 2) 1 50 := ⟨by decide +kernel, rfl⟩
theorem aJ8_hugeLength_7cf53_50 : At cJ8_hugeLength_7cf53 50 (.ldc 200) 2 52 := ⟨by decide +kernel, rfl⟩
theorem aJ8_hugeLength_7cf53_52 : Br cJ8_hugeLength_7cf53 52 (.if_icmp .gt (6)) (6) 55 58 := ⟨by decide +kernel, rfl, by decide⟩
theorem aJ8_hugeLength_7cf53_55 : At cJ8_hugeLength_7cf53 55 (.ldc 200) 2 57 := ⟨by decide +kernel, rfl⟩
theorem aJ8_hugeLength_7cf53_57 : At cJ8_hugeLength_7cf53 57 (.ireturn) 1 58 := ⟨by decide +kernel, rfl⟩
theorem aJ8_hugeLength_7cf53_58 : At cJ8_hugeLength_7cf53 58 (.iload_n 2) 1 59 := ⟨by decide +kernel, rfl⟩
theorem aJ8_hugeLength_7cf53_59 : At cJ8_hugeLength_7cf53 59 (.ireturn) 1 60 := ⟨by decide +kernel, rfl⟩
theorem aJ3_checkIndex_8e157_0 : At cJ3_checkIndex_8e157 0 (.iload_n 0) 1 1 := ⟨by decide +kernel, rfl⟩
theorem aJ3_checkIndex_8e157_1 : Br cJ3_checkIndex_8e157 1 (.ifCond .lt (8)) (8) 4 9 := ⟨by decide +kernel, rfl, by decide⟩
theorem aJ3_checkIndex_8e157_4 : At cJ3_checkIndex_8e157 4 (.iload_n 0) 1 5 := ⟨by decide +kernel, rfl⟩
theorem aJ3_checkIndex_8e157_5 : At cJ3_checkIndex_8e157 5 (.iload_n 1) 1 6 := ⟨by decide +kernel, rfl⟩
theorem aJ3_checkIndex_8e157_6 : Br cJ3_checkIndex_8e157 6 (.if_icmp .lt (10)) (10) 9 16 := ⟨by decide +kernel, rfl, by decide⟩
theorem aJ3_checkIndex_8e157_9 : At cJ3_checkIndex_8e157 9 (.aload_n 2) 1 10 := ⟨by decide +kernel, rfl⟩
theorem aJ3_checkIndex_8e157_10 : At cJ3_checkIndex_8e157 10 (.iload_n 0) 1 11 := ⟨by decide +kernel, rfl⟩
theorem aJ3_checkIndex_8e157_11 : At cJ3_checkIndex_8e157 11 (.iload_n 1) 1 12 := ⟨by decide +kernel, rfl⟩
theorem aJ3_checkIndex_8e157_12 : At cJ3_checkIndex_8e157 12 (.invokestatic 95) 3 15 := ⟨by decide +kernel, rfl⟩
theorem aJ3_checkIndex_8e157_15 : At cJ3_checkIndex_8e157 15 (.athrow) 1 16 := ⟨by decide +kernel, rfl⟩
theorem aJ3_checkIndex_8e157_16 : At cJ3_checkIndex_8e157 16 (.iload_n 0) 1 17 := ⟨by decide +kernel, rfl⟩
theorem aJ3_checkIndex_8e157_17 : At cJ3_checkIndex_8e157 17 (.ireturn) 1 18 := ⟨by decide +kernel, rfl⟩
end
section
/-! decode rows: RolledPicks -/
theorem aX8_init_0 : At cX8_init 0 (.aload_n 0) 1 1 := ⟨by decide +kernel, rfl⟩
theorem aX8_init_1 : At cX8_init 1 (.invokespecial 1) 3 4 := ⟨by decide +kernel, rfl⟩
theorem aX8_init_4 : At cX8_init 4 (.aload_n 0) 1 5 := ⟨by decide +kernel, rfl⟩
theorem aX8_init_5 : At cX8_init 5 (.new 7) 3 8 := ⟨by decide +kernel, rfl⟩
theorem aX8_init_8 : At cX8_init 8 (.dup) 1 9 := ⟨by decide +kernel, rfl⟩
theorem aX8_init_9 : At cX8_init 9 (.invokespecial 9) 3 12 := ⟨by decide +kernel, rfl⟩
theorem aX8_init_12 : At cX8_init 12 (.putfield 10) 3 15 := ⟨by decide +kernel, rfl⟩
theorem aX8_init_15 : At cX8_init 15 (.aload_n 0) 1 16 := ⟨by decide +kernel, rfl⟩
theorem aX8_init_16 : At cX8_init 16 (.bipush 6) 2 18 := ⟨by decide +kernel, rfl⟩
theorem aX8_init_18 : At cX8_init 18 (.anewarray 7) 3 21 := ⟨by decide +kernel, rfl⟩
theorem aX8_init_21 : At cX8_init 21 (.putfield 16) 3 24 := ⟨by decide +kernel, rfl⟩
theorem aX8_init_24 : At cX8_init 24 (.aload_n 0) 1 25 := ⟨by decide +kernel, rfl⟩
theorem aX8_init_25 : At cX8_init 25 (.new 20) 3 28 := ⟨by decide +kernel, rfl⟩
theorem aX8_init_28 : At cX8_init 28 (.dup) 1 29 := ⟨by decide +kernel, rfl⟩
theorem aX8_init_29 : At cX8_init 29 (.invokespecial 22) 3 32 := ⟨by decide +kernel, rfl⟩
theorem aX8_init_32 : At cX8_init 32 (.putfield 23) 3 35 := ⟨by decide +kernel, rfl⟩
theorem aX8_init_35 : At cX8_init 35 (.aload_n 0) 1 36 := ⟨by decide +kernel, rfl⟩
theorem aX8_init_36 : At cX8_init 36 (.new 27) 3 39 := ⟨by decide +kernel, rfl⟩
theorem aX8_init_39 : At cX8_init 39 (.dup) 1 40 := ⟨by decide +kernel, rfl⟩
theorem aX8_init_40 : At cX8_init 40 (.invokespecial 29) 3 43 := ⟨by decide +kernel, rfl⟩
theorem aX8_init_43 : At cX8_init 43 (.putfield 30) 3 46 := ⟨by decide +kernel, rfl⟩
theorem aX8_init_46 : At cX8_init 46 (.aload_n 0) 1 47 := ⟨by decide +kernel, rfl⟩
theorem aX8_init_47 : At cX8_init 47 (.iconst 4) 1 48 := ⟨by decide +kernel, rfl⟩
theorem aX8_init_48 : At cX8_init 48 (.anewarray 34) 3 51 := ⟨by decide +kernel, rfl⟩
theorem aX8_init_51 : At cX8_init 51 (.putfield 36) 3 54 := ⟨by decide +kernel, rfl⟩
theorem aX8_init_54 : At cX8_init 54 (.aload_n 0) 1 55 := ⟨by decide +kernel, rfl⟩
theorem aX8_init_55 : At cX8_init 55 (.iconst 4) 1 56 := ⟨by decide +kernel, rfl⟩
theorem aX8_init_56 : At cX8_init 56 (.anewarray 40) 3 59 := ⟨by decide +kernel, rfl⟩
theorem aX8_init_59 : At cX8_init 59 (.putfield 42) 3 62 := ⟨by decide +kernel, rfl⟩
theorem aX8_init_62 : At cX8_init 62 (.aload_n 0) 1 63 := ⟨by decide +kernel, rfl⟩
theorem aX8_init_63 : At cX8_init 63 (.iconst 3) 1 64 := ⟨by decide +kernel, rfl⟩
theorem aX8_init_64 : At cX8_init 64 (.newarray .int) 2 66 := ⟨by decide +kernel, rfl⟩
theorem aX8_init_66 : At cX8_init 66 (.dup) 1 67 := ⟨by decide +kernel, rfl⟩
theorem aX8_init_67 : At cX8_init 67 (.iconst 0) 1 68 := ⟨by decide +kernel, rfl⟩
theorem aX8_init_68 : At cX8_init 68 (.iconst (-1)) 1 69 := ⟨by decide +kernel, rfl⟩
theorem aX8_init_69 : At cX8_init 69 (.iastore) 1 70 := ⟨by decide +kernel, rfl⟩
theorem aX8_init_70 : At cX8_init 70 (.dup) 1 71 := ⟨by decide +kernel, rfl⟩
theorem aX8_init_71 : At cX8_init 71 (.iconst 1) 1 72 := ⟨by decide +kernel, rfl⟩
theorem aX8_init_72 : At cX8_init 72 (.iconst (-1)) 1 73 := ⟨by decide +kernel, rfl⟩
theorem aX8_init_73 : At cX8_init 73 (.iastore) 1 74 := ⟨by decide +kernel, rfl⟩
theorem aX8_init_74 : At cX8_init 74 (.dup) 1 75 := ⟨by decide +kernel, rfl⟩
theorem aX8_init_75 : At cX8_init 75 (.iconst 2) 1 76 := ⟨by decide +kernel, rfl⟩
theorem aX8_init_76 : At cX8_init 76 (.iconst (-1)) 1 77 := ⟨by decide +kernel, rfl⟩
theorem aX8_init_77 : At cX8_init 77 (.iastore) 1 78 := ⟨by decide +kernel, rfl⟩
theorem aX8_init_78 : At cX8_init 78 (.putfield 46) 3 81 := ⟨by decide +kernel, rfl⟩
theorem aX8_init_81 : At cX8_init 81 (.aload_n 0) 1 82 := ⟨by decide +kernel, rfl⟩
theorem aX8_init_82 : At cX8_init 82 (.bipush 8) 2 84 := ⟨by decide +kernel, rfl⟩
theorem aX8_init_84 : At cX8_init 84 (.newarray .int) 2 86 := ⟨by decide +kernel, rfl⟩
theorem aX8_init_86 : At cX8_init 86 (.putfield 50) 3 89 := ⟨by decide +kernel, rfl⟩
theorem aX8_init_89 : At cX8_init 89 (.iconst 0) 1 90 := ⟨by decide +kernel, rfl⟩
theorem aX8_init_90 : At cX8_init 90 (.istore_n 1) 1 91 := ⟨by decide +kernel, rfl⟩
theorem aX8_init_91 : At cX8_init 91 (.iload_n 1) 1 92 := ⟨by decide +kernel, rfl⟩
theorem aX8_init_92 : At cX8_init 92 (.bipush 6) 2 94 := ⟨by decide +kernel, rfl⟩
theorem aX8_init_94 : Br cX8_init 94 (.if_icmp .ge (22)) (22) 97 116 := ⟨by decide +kernel, rfl, by decide⟩
theorem aX8_init_97 : At cX8_init 97 (.aload_n 0) 1 98 := ⟨by decide +kernel, rfl⟩
theorem aX8_init_98 : At cX8_init 98 (.getfield 16) 3 101 := ⟨by decide +kernel, rfl⟩
theorem aX8_init_101 : At cX8_init 101 (.iload_n 1) 1 102 := ⟨by decide +kernel, rfl⟩
theorem aX8_init_102 : At cX8_init 102 (.new 7) 3 105 := ⟨by decide +kernel, rfl⟩
theorem aX8_init_105 : At cX8_init 105 (.dup) 1 106 := ⟨by decide +kernel, rfl⟩
theorem aX8_init_106 : At cX8_init 106 (.invokespecial 9) 3 109 := ⟨by decide +kernel, rfl⟩
theorem aX8_init_109 : At cX8_init 109 (.aastore) 1 110 := ⟨by decide +kernel, rfl⟩
theorem aX8_init_110 : At cX8_init 110 (.iinc 1 1) 3 113 := ⟨by decide +kernel, rfl⟩
theorem aX8_init_113 : Br cX8_init 113 (.goto (-22)) (-22) 116 91 := ⟨by decide +kernel, rfl, by decide⟩
theorem aX8_init_116 : At cX8_init 116 (.iconst 0) 1 117 := ⟨by decide +kernel, rfl⟩
theorem aX8_init_117 : At cX8_init 117 (.istore_n 1) 1 118 := ⟨by decide +kernel, rfl⟩
theorem aX8_init_118 : At cX8_init 118 (.iload_n 1) 1 119 := ⟨by decide +kernel, rfl⟩
theorem aX8_init_119 : At cX8_init 119 (.iconst 4) 1 120 := ⟨by decide +kernel, rfl⟩
theorem aX8_init_120 : Br cX8_init 120 (.if_icmp .ge (22)) (22) 123 142 := ⟨by decide +kernel, rfl, by decide⟩
theorem aX8_init_123 : At cX8_init 123 (.aload_n 0) 1 124 := ⟨by decide +kernel, rfl⟩
theorem aX8_init_124 : At cX8_init 124 (.getfield 36) 3 127 := ⟨by decide +kernel, rfl⟩
theorem aX8_init_127 : At cX8_init 127 (.iload_n 1) 1 128 := ⟨by decide +kernel, rfl⟩
theorem aX8_init_128 : At cX8_init 128 (.new 34) 3 131 := ⟨by decide +kernel, rfl⟩
theorem aX8_init_131 : At cX8_init 131 (.dup) 1 132 := ⟨by decide +kernel, rfl⟩
theorem aX8_init_132 : At cX8_init 132 (.invokespecial 53) 3 135 := ⟨by decide +kernel, rfl⟩
theorem aX8_init_135 : At cX8_init 135 (.aastore) 1 136 := ⟨by decide +kernel, rfl⟩
theorem aX8_init_136 : At cX8_init 136 (.iinc 1 1) 3 139 := ⟨by decide +kernel, rfl⟩
theorem aX8_init_139 : Br cX8_init 139 (.goto (-21)) (-21) 142 118 := ⟨by decide +kernel, rfl, by decide⟩
theorem aX8_init_142 : At cX8_init 142 (.aload_n 0) 1 143 := ⟨by decide +kernel, rfl⟩
theorem aX8_init_143 : At cX8_init 143 (.getfield 23) 3 146 := ⟨by decide +kernel, rfl⟩
theorem aX8_init_146 : At cX8_init 146 (.iconst 0) 1 147 := ⟨by decide +kernel, rfl⟩
theorem aX8_init_147 : At cX8_init 147 (.sipush 1296) 3 150 := ⟨by decide +kernel, rfl⟩
theorem aX8_init_150 : At cX8_init 150 (.invokevirtual 54) 3 153 := ⟨by decide +kernel, rfl⟩
theorem aX8_init_153 : At cX8_init 153 (.return_) 1 154 := ⟨by decide +kernel, rfl⟩
theorem aX8_fall_0 : At cX8_fall 0 (.iload_n 1) 1 1 := ⟨by decide +kernel, rfl⟩
theorem aX8_fall_1 : At cX8_fall 1 (.bipush 6) 2 3 := ⟨by decide +kernel, rfl⟩
theorem aX8_fall_3 : At cX8_fall 3 (.invokestatic 58) 3 6 := ⟨by decide +kernel, rfl⟩
theorem aX8_fall_6 : Br cX8_fall 6 (.ifCond .eq (9)) (9) 9 15 := ⟨by decide +kernel, rfl, by decide⟩
theorem aX8_fall_9 : At cX8_fall 9 (.aload_n 0) 1 10 := ⟨by decide +kernel, rfl⟩
theorem aX8_fall_10 : At cX8_fall 10 (.iconst 0) 1 11 := ⟨by decide +kernel, rfl⟩
theorem aX8_fall_11 : At cX8_fall 11 (.invokevirtual 62) 3 14 := ⟨by decide +kernel, rfl⟩
theorem aX8_fall_14 : At cX8_fall 14 (.ireturn) 1 15 := ⟨by decide +kernel, rfl⟩
theorem aX8_fall_15 : At cX8_fall 15 (.aload_n 0) 1 16 := ⟨by decide +kernel, rfl⟩
theorem aX8_fall_16 : At cX8_fall 16 (.getfield 10) 3 19 := ⟨by decide +kernel, rfl⟩
theorem aX8_fall_19 : At cX8_fall 19 (.getfield 73) 3 22 := ⟨by decide +kernel, rfl⟩
theorem aX8_fall_22 : At cX8_fall 22 (.iconst 4) 1 23 := ⟨by decide +kernel, rfl⟩
theorem aX8_fall_23 : Br cX8_fall 23 (.if_icmp .lt (9)) (9) 26 32 := ⟨by decide +kernel, rfl, by decide⟩
theorem aX8_fall_26 : At cX8_fall 26 (.aload_n 0) 1 27 := ⟨by decide +kernel, rfl⟩
theorem aX8_fall_27 : At cX8_fall 27 (.iconst 3) 1 28 := ⟨by decide +kernel, rfl⟩
theorem aX8_fall_28 : At cX8_fall 28 (.invokevirtual 62) 3 31 := ⟨by decide +kernel, rfl⟩
theorem aX8_fall_31 : At cX8_fall 31 (.ireturn) 1 32 := ⟨by decide +kernel, rfl⟩
theorem aX8_fall_32 : At cX8_fall 32 (.aload_n 0) 1 33 := ⟨by decide +kernel, rfl⟩
theorem aX8_fall_33 : At cX8_fall 33 (.getfield 10) 3 36 := ⟨by decide +kernel, rfl⟩
theorem aX8_fall_36 : At cX8_fall 36 (.getfield 77) 3 39 := ⟨by decide +kernel, rfl⟩
theorem aX8_fall_39 : At cX8_fall 39 (.aload_n 0) 1 40 := ⟨by decide +kernel, rfl⟩
theorem aX8_fall_40 : At cX8_fall 40 (.getfield 10) 3 43 := ⟨by decide +kernel, rfl⟩
theorem aX8_fall_43 : At cX8_fall 43 (.getfield 73) 3 46 := ⟨by decide +kernel, rfl⟩
theorem aX8_fall_46 : At cX8_fall 46 (.iload_n 1) 1 47 := ⟨by decide +kernel, rfl⟩
theorem aX8_fall_47 : At cX8_fall 47 (.iastore) 1 48 := ⟨by decide +kernel, rfl⟩
theorem aX8_fall_48 : At cX8_fall 48 (.aload_n 0) 1 49 := ⟨by decide +kernel, rfl⟩
theorem aX8_fall_49 : At cX8_fall 49 (.getfield 10) 3 52 := ⟨by decide +kernel, rfl⟩
theorem aX8_fall_52 : At cX8_fall 52 (.dup) 1 53 := ⟨by decide +kernel, rfl⟩
theorem aX8_fall_53 : At cX8_fall 53 (.getfield 73) 3 56 := ⟨by decide +kernel, rfl⟩
theorem aX8_fall_56 : At cX8_fall 56 (.iconst 1) 1 57 := ⟨by decide +kernel, rfl⟩
theorem aX8_fall_57 : At cX8_fall 57 (.iadd) 1 58 := ⟨by decide +kernel, rfl⟩
theorem aX8_fall_58 : At cX8_fall 58 (.putfield 73) 3 61 := ⟨by decide +kernel, rfl⟩
theorem aX8_fall_61 : At cX8_fall 61 (.aload_n 0) 1 62 := ⟨by decide +kernel, rfl⟩
theorem aX8_fall_62 : At cX8_fall 62 (.getfield 10) 3 65 := ⟨by decide +kernel, rfl⟩
theorem aX8_fall_65 : At cX8_fall 65 (.getfield 73) 3 68 := ⟨by decide +kernel, rfl⟩
theorem aX8_fall_68 : At cX8_fall 68 (.ireturn) 1 69 := ⟨by decide +kernel, rfl⟩
theorem aX8_fallen_0 : At cX8_fallen 0 (.iload_n 1) 1 1 := ⟨by decide +kernel, rfl⟩
theorem aX8_fallen_1 : At cX8_fallen 1 (.iconst 4) 1 2 := ⟨by decide +kernel, rfl⟩
theorem aX8_fallen_2 : At cX8_fallen 2 (.invokestatic 58) 3 5 := ⟨by decide +kernel, rfl⟩
theorem aX8_fallen_5 : Br cX8_fallen 5 (.ifCond .eq (9)) (9) 8 14 := ⟨by decide +kernel, rfl, by decide⟩
theorem aX8_fallen_8 : At cX8_fallen 8 (.aload_n 0) 1 9 := ⟨by decide +kernel, rfl⟩
theorem aX8_fallen_9 : At cX8_fallen 9 (.iconst 0) 1 10 := ⟨by decide +kernel, rfl⟩
theorem aX8_fallen_10 : At cX8_fallen 10 (.invokevirtual 62) 3 13 := ⟨by decide +kernel, rfl⟩
theorem aX8_fallen_13 : At cX8_fallen 13 (.ireturn) 1 14 := ⟨by decide +kernel, rfl⟩
theorem aX8_fallen_14 : At cX8_fallen 14 (.iload_n 1) 1 15 := ⟨by decide +kernel, rfl⟩
theorem aX8_fallen_15 : At cX8_fallen 15 (.aload_n 0) 1 16 := ⟨by decide +kernel, rfl⟩
theorem aX8_fallen_16 : At cX8_fallen 16 (.getfield 10) 3 19 := ⟨by decide +kernel, rfl⟩
theorem aX8_fallen_19 : At cX8_fallen 19 (.getfield 73) 3 22 := ⟨by decide +kernel, rfl⟩
theorem aX8_fallen_22 : Br cX8_fallen 22 (.if_icmp .ge (15)) (15) 25 37 := ⟨by decide +kernel, rfl, by decide⟩
theorem aX8_fallen_25 : At cX8_fallen 25 (.aload_n 0) 1 26 := ⟨by decide +kernel, rfl⟩
theorem aX8_fallen_26 : At cX8_fallen 26 (.getfield 10) 3 29 := ⟨by decide +kernel, rfl⟩
theorem aX8_fallen_29 : At cX8_fallen 29 (.getfield 77) 3 32 := ⟨by decide +kernel, rfl⟩
theorem aX8_fallen_32 : At cX8_fallen 32 (.iload_n 1) 1 33 := ⟨by decide +kernel, rfl⟩
theorem aX8_fallen_33 : At cX8_fallen 33 (.iaload) 1 34 := ⟨by decide +kernel, rfl⟩
theorem aX8_fallen_34 : Br cX8_fallen 34 (.goto (8)) (8) 37 42 := ⟨by decide +kernel, rfl, by decide⟩
theorem aX8_fallen_37 : At cX8_fallen 37 (.aload_n 0) 1 38 := ⟨by decide +kernel, rfl⟩
theorem aX8_fallen_38 : At cX8_fallen 38 (.iconst 3) 1 39 := ⟨by decide +kernel, rfl⟩
theorem aX8_fallen_39 : At cX8_fallen 39 (.invokevirtual 62) 3 42 := ⟨by decide +kernel, rfl⟩
theorem aX8_fallen_42 : At cX8_fallen 42 (.ireturn) 1 43 := ⟨by decide +kernel, rfl⟩
theorem aX8_sale_0 : At cX8_sale 0 (.iload_n 1) 1 1 := ⟨by decide +kernel, rfl⟩
theorem aX8_sale_1 : Br cX8_sale 1 (.ifCond .eq (18)) (18) 4 19 := ⟨by decide +kernel, rfl, by decide⟩
theorem aX8_sale_4 : At cX8_sale 4 (.iload_n 1) 1 5 := ⟨by decide +kernel, rfl⟩
theorem aX8_sale_5 : At cX8_sale 5 (.iconst 1) 1 6 := ⟨by decide +kernel, rfl⟩
theorem aX8_sale_6 : Br cX8_sale 6 (.if_icmp .eq (13)) (13) 9 19 := ⟨by decide +kernel, rfl, by decide⟩
theorem aX8_sale_9 : At cX8_sale 9 (.iload_n 1) 1 10 := ⟨by decide +kernel, rfl⟩
theorem aX8_sale_10 : At cX8_sale 10 (.iconst 3) 1 11 := ⟨by decide +kernel, rfl⟩
theorem aX8_sale_11 : Br cX8_sale 11 (.if_icmp .eq (8)) (8) 14 19 := ⟨by decide +kernel, rfl, by decide⟩
theorem aX8_sale_14 : At cX8_sale 14 (.iload_n 1) 1 15 := ⟨by decide +kernel, rfl⟩
theorem aX8_sale_15 : At cX8_sale 15 (.iconst 4) 1 16 := ⟨by decide +kernel, rfl⟩
theorem aX8_sale_16 : Br cX8_sale 16 (.if_icmp .ne (7)) (7) 19 23 := ⟨by decide +kernel, rfl, by decide⟩
theorem aX8_sale_19 : At cX8_sale 19 (.iconst 1) 1 20 := ⟨by decide +kernel, rfl⟩
theorem aX8_sale_20 : Br cX8_sale 20 (.goto (4)) (4) 23 24 := ⟨by decide +kernel, rfl, by decide⟩
theorem aX8_sale_23 : At cX8_sale 23 (.iconst 0) 1 24 := ⟨by decide +kernel, rfl⟩
theorem aX8_sale_24 : At cX8_sale 24 (.istore 6) 2 26 := ⟨by decide +kernel, rfl⟩
theorem aX8_sale_26 : At cX8_sale 26 (.iload 6) 2 28 := ⟨by decide +kernel, rfl⟩
theorem aX8_sale_28 : Br cX8_sale 28 (.ifCond .eq (21)) (21) 31 49 := ⟨by decide +kernel, rfl, by decide⟩
theorem aX8_sale_31 : At cX8_sale 31 (.iload_n 2) 1 32 := ⟨by decide +kernel, rfl⟩
theorem aX8_sale_32 : At cX8_sale 32 (.iload_n 3) 1 33 := ⟨by decide +kernel, rfl⟩
theorem aX8_sale_33 : At cX8_sale 33 (.invokestatic 91) 3 36 := ⟨by decide +kernel, rfl⟩
theorem aX8_sale_36 : Br cX8_sale 36 (.ifCond .ne (13)) (13) 39 49 := ⟨by decide +kernel, rfl, by decide⟩
theorem aX8_sale_39 : At cX8_sale 39 (.iload 4) 2 41 := ⟨by decide +kernel, rfl⟩
theorem aX8_sale_41 : At cX8_sale 41 (.bipush 12) 2 43 := ⟨by decide +kernel, rfl⟩
theorem aX8_sale_43 : At cX8_sale 43 (.invokestatic 58) 3 46 := ⟨by decide +kernel, rfl⟩
theorem aX8_sale_46 : Br cX8_sale 46 (.ifCond .eq (9)) (9) 49 55 := ⟨by decide +kernel, rfl, by decide⟩
theorem aX8_sale_49 : At cX8_sale 49 (.aload_n 0) 1 50 := ⟨by decide +kernel, rfl⟩
theorem aX8_sale_50 : At cX8_sale 50 (.iconst 0) 1 51 := ⟨by decide +kernel, rfl⟩
theorem aX8_sale_51 : At cX8_sale 51 (.invokevirtual 62) 3 54 := ⟨by decide +kernel, rfl⟩
theorem aX8_sale_54 : At cX8_sale 54 (.ireturn) 1 55 := ⟨by decide +kernel, rfl⟩
theorem aX8_sale_55 : At cX8_sale 55 (.iload_n 1) 1 56 := ⟨by decide +kernel, rfl⟩
theorem aX8_sale_56 : Br cX8_sale 56 (.ifCond .eq (21)) (21) 59 77 := ⟨by decide +kernel, rfl, by decide⟩
theorem aX8_sale_59 : At cX8_sale 59 (.iload 5) 2 61 := ⟨by decide +kernel, rfl⟩
theorem aX8_sale_61 : At cX8_sale 61 (.iconst 1) 1 62 := ⟨by decide +kernel, rfl⟩
theorem aX8_sale_62 : Br cX8_sale 62 (.if_icmp .lt (9)) (9) 65 71 := ⟨by decide +kernel, rfl, by decide⟩
theorem aX8_sale_65 : At cX8_sale 65 (.iload 5) 2 67 := ⟨by decide +kernel, rfl⟩
theorem aX8_sale_67 : At cX8_sale 67 (.iconst 2) 1 68 := ⟨by decide +kernel, rfl⟩
theorem aX8_sale_68 : Br cX8_sale 68 (.if_icmp .le (9)) (9) 71 77 := ⟨by decide +kernel, rfl, by decide⟩
theorem aX8_sale_71 : At cX8_sale 71 (.aload_n 0) 1 72 := ⟨by decide +kernel, rfl⟩
theorem aX8_sale_72 : At cX8_sale 72 (.iconst 0) 1 73 := ⟨by decide +kernel, rfl⟩
theorem aX8_sale_73 : At cX8_sale 73 (.invokevirtual 62) 3 76 := ⟨by decide +kernel, rfl⟩
theorem aX8_sale_76 : At cX8_sale 76 (.ireturn) 1 77 := ⟨by decide +kernel, rfl⟩
theorem aX8_sale_77 : At cX8_sale 77 (.aload_n 0) 1 78 := ⟨by decide +kernel, rfl⟩
theorem aX8_sale_78 : At cX8_sale 78 (.new 40) 3 81 := ⟨by decide +kernel, rfl⟩
theorem aX8_sale_81 : At cX8_sale 81 (.dup) 1 82 := ⟨by decide +kernel, rfl⟩
theorem aX8_sale_82 : At cX8_sale 82 (.iload_n 1) 1 83 := ⟨by decide +kernel, rfl⟩
theorem aX8_sale_83 : At cX8_sale 83 (.iload_n 2) 1 84 := ⟨by decide +kernel, rfl⟩
theorem aX8_sale_84 : At cX8_sale 84 (.iload_n 3) 1 85 := ⟨by decide +kernel, rfl⟩
theorem aX8_sale_85 : At cX8_sale 85 (.iload 4) 2 87 := ⟨by decide +kernel, rfl⟩
theorem aX8_sale_87 : At cX8_sale 87 (.iconst (-1)) 1 88 := ⟨by decide +kernel, rfl⟩
theorem aX8_sale_88 : At cX8_sale 88 (.iload_n 1) 1 89 := ⟨by decide +kernel, rfl⟩
theorem aX8_sale_89 : Br cX8_sale 89 (.ifCond .ne (7)) (7) 92 96 := ⟨by decide +kernel, rfl, by decide⟩
theorem aX8_sale_92 : At cX8_sale 92 (.iconst 0) 1 93 := ⟨by decide +kernel, rfl⟩
theorem aX8_sale_93 : Br cX8_sale 93 (.goto (5)) (5) 96 98 := ⟨by decide +kernel, rfl, by decide⟩
theorem aX8_sale_96 : At cX8_sale 96 (.iload 5) 2 98 := ⟨by decide +kernel, rfl⟩
theorem aX8_sale_98 : At cX8_sale 98 (.aconst_null) 1 99 := ⟨by decide +kernel, rfl⟩
theorem aX8_sale_99 : At cX8_sale 99 (.invokespecial 94) 3 102 := ⟨by decide +kernel, rfl⟩
theorem aX8_sale_102 : At cX8_sale 102 (.invokevirtual 97) 3 105 := ⟨by decide +kernel, rfl⟩
theorem aX8_sale_105 : At cX8_sale 105 (.ireturn) 1 106 := ⟨by decide +kernel, rfl⟩
theorem aX8_swap_0 : At cX8_swap 0 (.iload_n 1) 1 1 := ⟨by decide +kernel, rfl⟩
theorem aX8_swap_1 : At cX8_swap 1 (.iload_n 2) 1 2 := ⟨by decide +kernel, rfl⟩
theorem aX8_swap_2 : At cX8_swap 2 (.invokestatic 91) 3 5 := ⟨by decide +kernel, rfl⟩
theorem aX8_swap_5 : Br cX8_swap 5 (.ifCond .ne (22)) (22) 8 27 := ⟨by decide +kernel, rfl, by decide⟩
theorem aX8_swap_8 : At cX8_swap 8 (.iload_n 3) 1 9 := ⟨by decide +kernel, rfl⟩
theorem aX8_swap_9 : At cX8_swap 9 (.bipush 12) 2 11 := ⟨by decide +kernel, rfl⟩
theorem aX8_swap_11 : At cX8_swap 11 (.invokestatic 58) 3 14 := ⟨by decide +kernel, rfl⟩
theorem aX8_swap_14 : Br cX8_swap 14 (.ifCond .ne (13)) (13) 17 27 := ⟨by decide +kernel, rfl, by decide⟩
theorem aX8_swap_17 : At cX8_swap 17 (.iload 4) 2 19 := ⟨by decide +kernel, rfl⟩
theorem aX8_swap_19 : At cX8_swap 19 (.bipush 12) 2 21 := ⟨by decide +kernel, rfl⟩
theorem aX8_swap_21 : At cX8_swap 21 (.invokestatic 58) 3 24 := ⟨by decide +kernel, rfl⟩
theorem aX8_swap_24 : Br cX8_swap 24 (.ifCond .eq (9)) (9) 27 33 := ⟨by decide +kernel, rfl, by decide⟩
theorem aX8_swap_27 : At cX8_swap 27 (.aload_n 0) 1 28 := ⟨by decide +kernel, rfl⟩
theorem aX8_swap_28 : At cX8_swap 28 (.iconst 0) 1 29 := ⟨by decide +kernel, rfl⟩
theorem aX8_swap_29 : At cX8_swap 29 (.invokevirtual 62) 3 32 := ⟨by decide +kernel, rfl⟩
theorem aX8_swap_32 : At cX8_swap 32 (.ireturn) 1 33 := ⟨by decide +kernel, rfl⟩
theorem aX8_swap_33 : At cX8_swap 33 (.iload_n 3) 1 34 := ⟨by decide +kernel, rfl⟩
theorem aX8_swap_34 : At cX8_swap 34 (.iload 4) 2 36 := ⟨by decide +kernel, rfl⟩
theorem aX8_swap_36 : Br cX8_swap 36 (.if_icmp .eq (24)) (24) 39 60 := ⟨by decide +kernel, rfl, by decide⟩
theorem aX8_swap_39 : At cX8_swap 39 (.iload_n 3) 1 40 := ⟨by decide +kernel, rfl⟩
theorem aX8_swap_40 : At cX8_swap 40 (.iconst 3) 1 41 := ⟨by decide +kernel, rfl⟩
theorem aX8_swap_41 : At cX8_swap 41 (.idiv) 1 42 := ⟨by decide +kernel, rfl⟩
theorem aX8_swap_42 : At cX8_swap 42 (.iload 4) 2 44 := ⟨by decide +kernel, rfl⟩
theorem aX8_swap_44 : At cX8_swap 44 (.iconst 3) 1 45 := ⟨by decide +kernel, rfl⟩
theorem aX8_swap_45 : At cX8_swap 45 (.idiv) 1 46 := ⟨by decide +kernel, rfl⟩
theorem aX8_swap_46 : Br cX8_swap 46 (.if_icmp .ne (14)) (14) 49 60 := ⟨by decide +kernel, rfl, by decide⟩
theorem aX8_swap_49 : At cX8_swap 49 (.iload 5) 2 51 := ⟨by decide +kernel, rfl⟩
theorem aX8_swap_51 : Br cX8_swap 51 (.ifCond .lt (9)) (9) 54 60 := ⟨by decide +kernel, rfl, by decide⟩
theorem aX8_swap_54 : At cX8_swap 54 (.iload 5) 2 56 := ⟨by decide +kernel, rfl⟩
theorem aX8_swap_56 : At cX8_swap 56 (.iconst 2) 1 57 := ⟨by decide +kernel, rfl⟩
theorem aX8_swap_57 : Br cX8_swap 57 (.if_icmp .le (9)) (9) 60 66 := ⟨by decide +kernel, rfl, by decide⟩
theorem aX8_swap_60 : At cX8_swap 60 (.aload_n 0) 1 61 := ⟨by decide +kernel, rfl⟩
theorem aX8_swap_61 : At cX8_swap 61 (.iconst 0) 1 62 := ⟨by decide +kernel, rfl⟩
theorem aX8_swap_62 : At cX8_swap 62 (.invokevirtual 62) 3 65 := ⟨by decide +kernel, rfl⟩
theorem aX8_swap_65 : At cX8_swap 65 (.ireturn) 1 66 := ⟨by decide +kernel, rfl⟩
theorem aX8_swap_66 : At cX8_swap 66 (.aload_n 0) 1 67 := ⟨by decide +kernel, rfl⟩
theorem aX8_swap_67 : At cX8_swap 67 (.new 40) 3 70 := ⟨by decide +kernel, rfl⟩
theorem aX8_swap_70 : At cX8_swap 70 (.dup) 1 71 := ⟨by decide +kernel, rfl⟩
theorem aX8_swap_71 : At cX8_swap 71 (.iload 5) 2 73 := ⟨by decide +kernel, rfl⟩
theorem aX8_swap_73 : Br cX8_swap 73 (.ifCond .ne (7)) (7) 76 80 := ⟨by decide +kernel, rfl, by decide⟩
theorem aX8_swap_76 : At cX8_swap 76 (.iconst 2) 1 77 := ⟨by decide +kernel, rfl⟩
theorem aX8_swap_77 : Br cX8_swap 77 (.goto (4)) (4) 80 81 := ⟨by decide +kernel, rfl, by decide⟩
theorem aX8_swap_80 : At cX8_swap 80 (.iconst 5) 1 81 := ⟨by decide +kernel, rfl⟩
theorem aX8_swap_81 : At cX8_swap 81 (.iload_n 1) 1 82 := ⟨by decide +kernel, rfl⟩
theorem aX8_swap_82 : At cX8_swap 82 (.iload_n 2) 1 83 := ⟨by decide +kernel, rfl⟩
theorem aX8_swap_83 : At cX8_swap 83 (.iload_n 3) 1 84 := ⟨by decide +kernel, rfl⟩
theorem aX8_swap_84 : At cX8_swap 84 (.iload 4) 2 86 := ⟨by decide +kernel, rfl⟩
theorem aX8_swap_86 : At cX8_swap 86 (.iload 5) 2 88 := ⟨by decide +kernel, rfl⟩
theorem aX8_swap_88 : At cX8_swap 88 (.aconst_null) 1 89 := ⟨by decide +kernel, rfl⟩
theorem aX8_swap_89 : At cX8_swap 89 (.invokespecial 94) 3 92 := ⟨by decide +kernel, rfl⟩
theorem aX8_swap_92 : At cX8_swap 92 (.invokevirtual 97) 3 95 := ⟨by decide +kernel, rfl⟩
theorem aX8_swap_95 : At cX8_swap 95 (.ireturn) 1 96 := ⟨by decide +kernel, rfl⟩
theorem aX8_of_0 : At cX8_of 0 (.aload_n 0) 1 1 := ⟨by decide +kernel, rfl⟩
theorem aX8_of_1 : At cX8_of 1 (.getfield 10) 3 4 := ⟨by decide +kernel, rfl⟩
theorem aX8_of_4 : At cX8_of 4 (.iload_n 1) 1 5 := ⟨by decide +kernel, rfl⟩
theorem aX8_of_5 : At cX8_of 5 (.invokevirtual 128) 3 8 := ⟨by decide +kernel, rfl⟩
theorem aX8_of_8 : At cX8_of 8 (.astore_n 3) 1 9 := ⟨by decide +kernel, rfl⟩
theorem aX8_of_9 : At cX8_of 9 (.aload_n 3) 1 10 := ⟨by decide +kernel, rfl⟩
theorem aX8_of_10 : Br cX8_of 10 (.ifnonnull (9)) (9) 13 19 := ⟨by decide +kernel, rfl, by decide⟩
theorem aX8_of_13 : At cX8_of 13 (.aload_n 0) 1 14 := ⟨by decide +kernel, rfl⟩
theorem aX8_of_14 : At cX8_of 14 (.iconst 0) 1 15 := ⟨by decide +kernel, rfl⟩
theorem aX8_of_15 : At cX8_of 15 (.invokevirtual 62) 3 18 := ⟨by decide +kernel, rfl⟩
theorem aX8_of_18 : At cX8_of 18 (.ireturn) 1 19 := ⟨by decide +kernel, rfl⟩
theorem aX8_of_19 : At cX8_of 19 (.iload_n 2) 1 20 := ⟨by decide +kernel, rfl⟩
theorem aX8_of_20 : At cX8_of 20 (.tableswitch 97 0 7 #[48, 53, 58, 63, 68, 73, 78, 91]) 48 68 := ⟨by decide +kernel, rfl⟩
theorem aX8_of_68 : At cX8_of 68 (.aload_n 3) 1 69 := ⟨by decide +kernel, rfl⟩
theorem aX8_of_69 : At cX8_of 69 (.getfield 131) 3 72 := ⟨by decide +kernel, rfl⟩
theorem aX8_of_72 : At cX8_of 72 (.ireturn) 1 73 := ⟨by decide +kernel, rfl⟩
theorem aX8_of_73 : At cX8_of 73 (.aload_n 3) 1 74 := ⟨by decide +kernel, rfl⟩
theorem aX8_of_74 : At cX8_of 74 (.getfield 134) 3 77 := ⟨by decide +kernel, rfl⟩
theorem aX8_of_77 : At cX8_of 77 (.ireturn) 1 78 := ⟨by decide +kernel, rfl⟩
theorem aX8_of_78 : At cX8_of 78 (.aload_n 3) 1 79 := ⟨by decide +kernel, rfl⟩
theorem aX8_of_79 : At cX8_of 79 (.getfield 137) 3 82 := ⟨by decide +kernel, rfl⟩
theorem aX8_of_82 : At cX8_of 82 (.ireturn) 1 83 := ⟨by decide +kernel, rfl⟩
theorem aX8_of_83 : At cX8_of 83 (.aload_n 3) 1 84 := ⟨by decide +kernel, rfl⟩
theorem aX8_of_84 : At cX8_of 84 (.getfield 140) 3 87 := ⟨by decide +kernel, rfl⟩
theorem aX8_of_87 : At cX8_of 87 (.ireturn) 1 88 := ⟨by decide +kernel, rfl⟩
theorem aX8_of_88 : At cX8_of 88 (.aload_n 3) 1 89 := ⟨by decide +kernel, rfl⟩
theorem aX8_of_89 : At cX8_of 89 (.getfield 143) 3 92 := ⟨by decide +kernel, rfl⟩
theorem aX8_of_92 : At cX8_of 92 (.ireturn) 1 93 := ⟨by decide +kernel, rfl⟩
theorem aX8_of_93 : At cX8_of 93 (.aload_n 3) 1 94 := ⟨by decide +kernel, rfl⟩
theorem aX8_of_94 : At cX8_of 94 (.getfield 146) 3 97 := ⟨by decide +kernel, rfl⟩
theorem aX8_of_97 : At cX8_of 97 (.ireturn) 1 98 := ⟨by decide +kernel, rfl⟩
theorem aX8_of_98 : At cX8_of 98 (.aload_n 3) 1 99 := ⟨by decide +kernel, rfl⟩
theorem aX8_of_99 : At cX8_of 99 (.getfield 149) 3 102 := ⟨by decide +kernel, rfl⟩
theorem aX8_of_102 : Br cX8_of 102 (.ifnull (7)) (7) 105 109 := ⟨by decide +kernel, rfl, by decide⟩
theorem aX8_of_105 : At cX8_of 105 (.iconst 1) 1 106 := ⟨by decide +kernel, rfl⟩
theorem aX8_of_106 : Br cX8_of 106 (.goto (4)) (4) 109 110 := ⟨by decide +kernel, rfl, by decide⟩
theorem aX8_of_109 : At cX8_of 109 (.iconst 0) 1 110 := ⟨by decide +kernel, rfl⟩
theorem aX8_of_110 : At cX8_of 110 (.ireturn) 1 111 := ⟨by decide +kernel, rfl⟩
theorem aX8_of_111 : At cX8_of 111 (.aload_n 0) 1 112 := ⟨by decide +kernel, rfl⟩
theorem aX8_of_112 : At cX8_of 112 (.aload_n 3) 1 113 := ⟨by decide +kernel, rfl⟩
theorem aX8_of_113 : At cX8_of 113 (.invokevirtual 153) 3 116 := ⟨by decide +kernel, rfl⟩
theorem aX8_of_116 : At cX8_of 116 (.ireturn) 1 117 := ⟨by decide +kernel, rfl⟩
theorem aX8_of_117 : At cX8_of 117 (.aload_n 0) 1 118 := ⟨by decide +kernel, rfl⟩
theorem aX8_of_118 : At cX8_of 118 (.iconst 0) 1 119 := ⟨by decide +kernel, rfl⟩
theorem aX8_of_119 : At cX8_of 119 (.invokevirtual 62) 3 122 := ⟨by decide +kernel, rfl⟩
theorem aX8_of_122 : At cX8_of 122 (.ireturn) 1 123 := ⟨by decide +kernel, rfl⟩
theorem aX8_conveys_0 : At cX8_conveys 0 (.aload_n 0) 1 1 := ⟨by decide +kernel, rfl⟩
theorem aX8_conveys_1 : At cX8_conveys 1 (.getfield 10) 3 4 := ⟨by decide +kernel, rfl⟩
theorem aX8_conveys_4 : At cX8_conveys 4 (.iload_n 1) 1 5 := ⟨by decide +kernel, rfl⟩
theorem aX8_conveys_5 : At cX8_conveys 5 (.invokevirtual 128) 3 8 := ⟨by decide +kernel, rfl⟩
theorem aX8_conveys_8 : At cX8_conveys 8 (.astore 4) 2 10 := ⟨by decide +kernel, rfl⟩
theorem aX8_conveys_10 : At cX8_conveys 10 (.aload 4) 2 12 := ⟨by decide +kernel, rfl⟩
theorem aX8_conveys_12 : Br cX8_conveys 12 (.ifnull (21)) (21) 15 33 := ⟨by decide +kernel, rfl, by decide⟩
theorem aX8_conveys_15 : At cX8_conveys 15 (.iload_n 2) 1 16 := ⟨by decide +kernel, rfl⟩
theorem aX8_conveys_16 : At cX8_conveys 16 (.sipush 1296) 3 19 := ⟨by decide +kernel, rfl⟩
theorem aX8_conveys_19 : At cX8_conveys 19 (.invokestatic 58) 3 22 := ⟨by decide +kernel, rfl⟩
theorem aX8_conveys_22 : Br cX8_conveys 22 (.ifCond .ne (11)) (11) 25 33 := ⟨by decide +kernel, rfl, by decide⟩
theorem aX8_conveys_25 : At cX8_conveys 25 (.iload_n 3) 1 26 := ⟨by decide +kernel, rfl⟩
theorem aX8_conveys_26 : At cX8_conveys 26 (.iconst 2) 1 27 := ⟨by decide +kernel, rfl⟩
theorem aX8_conveys_27 : At cX8_conveys 27 (.invokestatic 58) 3 30 := ⟨by decide +kernel, rfl⟩
theorem aX8_conveys_30 : Br cX8_conveys 30 (.ifCond .eq (9)) (9) 33 39 := ⟨by decide +kernel, rfl, by decide⟩
theorem aX8_conveys_33 : At cX8_conveys 33 (.aload_n 0) 1 34 := ⟨by decide +kernel, rfl⟩
theorem aX8_conveys_34 : At cX8_conveys 34 (.iconst 0) 1 35 := ⟨by decide +kernel, rfl⟩
theorem aX8_conveys_35 : At cX8_conveys 35 (.invokevirtual 62) 3 38 := ⟨by decide +kernel, rfl⟩
theorem aX8_conveys_38 : At cX8_conveys 38 (.ireturn) 1 39 := ⟨by decide +kernel, rfl⟩
theorem aX8_conveys_39 : At cX8_conveys 39 (.iload_n 3) 1 40 := ⟨by decide +kernel, rfl⟩
theorem aX8_conveys_40 : Br cX8_conveys 40 (.ifCond .ne (12)) (12) 43 52 := ⟨by decide +kernel, rfl, by decide⟩
theorem aX8_conveys_43 : At cX8_conveys 43 (.aload 4) 2 45 := ⟨by decide +kernel, rfl⟩
theorem aX8_conveys_45 : At cX8_conveys 45 (.iload_n 2) 1 46 := ⟨by decide +kernel, rfl⟩
theorem aX8_conveys_46 : At cX8_conveys 46 (.invokevirtual 160) 3 49 := ⟨by decide +kernel, rfl⟩
theorem aX8_conveys_49 : Br cX8_conveys 49 (.goto (9)) (9) 52 58 := ⟨by decide +kernel, rfl, by decide⟩
theorem aX8_conveys_52 : At cX8_conveys 52 (.aload 4) 2 54 := ⟨by decide +kernel, rfl⟩
theorem aX8_conveys_54 : At cX8_conveys 54 (.iload_n 2) 1 55 := ⟨by decide +kernel, rfl⟩
theorem aX8_conveys_55 : At cX8_conveys 55 (.invokevirtual 163) 3 58 := ⟨by decide +kernel, rfl⟩
theorem aX8_conveys_58 : At cX8_conveys 58 (.istore 5) 2 60 := ⟨by decide +kernel, rfl⟩
theorem aX8_conveys_60 : At cX8_conveys 60 (.iload 5) 2 62 := ⟨by decide +kernel, rfl⟩
theorem aX8_conveys_62 : Br cX8_conveys 62 (.ifCond .ge (11)) (11) 65 73 := ⟨by decide +kernel, rfl, by decide⟩
theorem aX8_conveys_65 : At cX8_conveys 65 (.aload_n 0) 1 66 := ⟨by decide +kernel, rfl⟩
theorem aX8_conveys_66 : At cX8_conveys 66 (.iconst 3) 1 67 := ⟨by decide +kernel, rfl⟩
theorem aX8_conveys_67 : At cX8_conveys 67 (.invokevirtual 62) 3 70 := ⟨by decide +kernel, rfl⟩
theorem aX8_conveys_70 : Br cX8_conveys 70 (.goto (5)) (5) 73 75 := ⟨by decide +kernel, rfl, by decide⟩
theorem aX8_conveys_73 : At cX8_conveys 73 (.iload 5) 2 75 := ⟨by decide +kernel, rfl⟩
theorem aX8_conveys_75 : At cX8_conveys 75 (.ireturn) 1 76 := ⟨by decide +kernel, rfl⟩
theorem aX8_prune_0 : At cX8_prune 0 (.iconst 0) 1 1 := ⟨by decide +kernel, rfl⟩
theorem aX8_prune_1 : At cX8_prune 1 (.istore_n 1) 1 2 := ⟨by decide +kernel, rfl⟩
theorem aX8_prune_2 : At cX8_prune 2 (.aload_n 0) 1 3 := ⟨by decide +kernel, rfl⟩
theorem aX8_prune_3 : At cX8_prune 3 (.getfield 10) 3 6 := ⟨by decide +kernel, rfl⟩
theorem aX8_prune_6 : At cX8_prune 6 (.getfield 101) 3 9 := ⟨by decide +kernel, rfl⟩
theorem aX8_prune_9 : At cX8_prune 9 (.istore_n 2) 1 10 := ⟨by decide +kernel, rfl⟩
theorem aX8_prune_10 : At cX8_prune 10 (.iconst 0) 1 11 := ⟨by decide +kernel, rfl⟩
theorem aX8_prune_11 : At cX8_prune 11 (.istore_n 3) 1 12 := ⟨by decide +kernel, rfl⟩
theorem aX8_prune_12 : At cX8_prune 12 (.iload_n 3) 1 13 := ⟨by decide +kernel, rfl⟩
theorem aX8_prune_13 : At cX8_prune 13 (.iload_n 2) 1 14 := ⟨by decide +kernel, rfl⟩
theorem aX8_prune_14 : Br cX8_prune 14 (.if_icmp .ge (47)) (47) 17 61 := ⟨by decide +kernel, rfl, by decide⟩
theorem aX8_prune_17 : At cX8_prune 17 (.aload_n 0) 1 18 := ⟨by decide +kernel, rfl⟩
theorem aX8_prune_18 : At cX8_prune 18 (.getfield 10) 3 21 := ⟨by decide +kernel, rfl⟩
theorem aX8_prune_21 : At cX8_prune 21 (.iload_n 3) 1 22 := ⟨by decide +kernel, rfl⟩
theorem aX8_prune_22 : At cX8_prune 22 (.invokevirtual 128) 3 25 := ⟨by decide +kernel, rfl⟩
theorem aX8_prune_25 : At cX8_prune 25 (.astore 4) 2 27 := ⟨by decide +kernel, rfl⟩
theorem aX8_prune_27 : At cX8_prune 27 (.aload 4) 2 29 := ⟨by decide +kernel, rfl⟩
theorem aX8_prune_29 : Br cX8_prune 29 (.ifnull (26)) (26) 32 55 := ⟨by decide +kernel, rfl, by decide⟩
theorem aX8_prune_32 : At cX8_prune 32 (.aload_n 0) 1 33 := ⟨by decide +kernel, rfl⟩
theorem aX8_prune_33 : At cX8_prune 33 (.aload 4) 2 35 := ⟨by decide +kernel, rfl⟩
theorem aX8_prune_35 : At cX8_prune 35 (.invokevirtual 153) 3 38 := ⟨by decide +kernel, rfl⟩
theorem aX8_prune_38 : Br cX8_prune 38 (.ifCond .le (17)) (17) 41 55 := ⟨by decide +kernel, rfl, by decide⟩
theorem aX8_prune_41 : At cX8_prune 41 (.aload_n 0) 1 42 := ⟨by decide +kernel, rfl⟩
theorem aX8_prune_42 : At cX8_prune 42 (.getfield 10) 3 45 := ⟨by decide +kernel, rfl⟩
theorem aX8_prune_45 : At cX8_prune 45 (.getfield 166) 3 48 := ⟨by decide +kernel, rfl⟩
theorem aX8_prune_48 : At cX8_prune 48 (.iload_n 1) 1 49 := ⟨by decide +kernel, rfl⟩
theorem aX8_prune_49 : At cX8_prune 49 (.aload 4) 2 51 := ⟨by decide +kernel, rfl⟩
theorem aX8_prune_51 : At cX8_prune 51 (.aastore) 1 52 := ⟨by decide +kernel, rfl⟩
theorem aX8_prune_52 : At cX8_prune 52 (.iinc 1 1) 3 55 := ⟨by decide +kernel, rfl⟩
theorem aX8_prune_55 : At cX8_prune 55 (.iinc 3 1) 3 58 := ⟨by decide +kernel, rfl⟩
theorem aX8_prune_58 : Br cX8_prune 58 (.goto (-46)) (-46) 61 12 := ⟨by decide +kernel, rfl, by decide⟩
theorem aX8_prune_61 : At cX8_prune 61 (.aload_n 0) 1 62 := ⟨by decide +kernel, rfl⟩
theorem aX8_prune_62 : At cX8_prune 62 (.getfield 10) 3 65 := ⟨by decide +kernel, rfl⟩
theorem aX8_prune_65 : At cX8_prune 65 (.iload_n 1) 1 66 := ⟨by decide +kernel, rfl⟩
theorem aX8_prune_66 : At cX8_prune 66 (.putfield 101) 3 69 := ⟨by decide +kernel, rfl⟩
theorem aX8_prune_69 : At cX8_prune 69 (.iload_n 2) 1 70 := ⟨by decide +kernel, rfl⟩
theorem aX8_prune_70 : At cX8_prune 70 (.iload_n 1) 1 71 := ⟨by decide +kernel, rfl⟩
theorem aX8_prune_71 : At cX8_prune 71 (.isub) 1 72 := ⟨by decide +kernel, rfl⟩
theorem aX8_prune_72 : At cX8_prune 72 (.ireturn) 1 73 := ⟨by decide +kernel, rfl⟩
theorem aX8_clash_0 : At cX8_clash 0 (.iload_n 1) 1 1 := ⟨by decide +kernel, rfl⟩
theorem aX8_clash_1 : At cX8_clash 1 (.aload_n 0) 1 2 := ⟨by decide +kernel, rfl⟩
theorem aX8_clash_2 : At cX8_clash 2 (.getfield 46) 3 5 := ⟨by decide +kernel, rfl⟩
theorem aX8_clash_5 : At cX8_clash 5 (.arraylength) 1 6 := ⟨by decide +kernel, rfl⟩
theorem aX8_clash_6 : At cX8_clash 6 (.invokestatic 58) 3 9 := ⟨by decide +kernel, rfl⟩
theorem aX8_clash_9 : Br cX8_clash 9 (.ifCond .eq (11)) (11) 12 20 := ⟨by decide +kernel, rfl, by decide⟩
theorem aX8_clash_12 : At cX8_clash 12 (.aload_n 0) 1 13 := ⟨by decide +kernel, rfl⟩
theorem aX8_clash_13 : At cX8_clash 13 (.iconst 0) 1 14 := ⟨by decide +kernel, rfl⟩
theorem aX8_clash_14 : At cX8_clash 14 (.invokevirtual 62) 3 17 := ⟨by decide +kernel, rfl⟩
theorem aX8_clash_17 : Br cX8_clash 17 (.goto (9)) (9) 20 26 := ⟨by decide +kernel, rfl, by decide⟩
theorem aX8_clash_20 : At cX8_clash 20 (.aload_n 0) 1 21 := ⟨by decide +kernel, rfl⟩
theorem aX8_clash_21 : At cX8_clash 21 (.getfield 46) 3 24 := ⟨by decide +kernel, rfl⟩
theorem aX8_clash_24 : At cX8_clash 24 (.iload_n 1) 1 25 := ⟨by decide +kernel, rfl⟩
theorem aX8_clash_25 : At cX8_clash 25 (.iaload) 1 26 := ⟨by decide +kernel, rfl⟩
theorem aX8_clash_26 : At cX8_clash 26 (.ireturn) 1 27 := ⟨by decide +kernel, rfl⟩
theorem aX8_owner_0 : At cX8_owner 0 (.aload_n 0) 1 1 := ⟨by decide +kernel, rfl⟩
theorem aX8_owner_1 : At cX8_owner 1 (.getfield 10) 3 4 := ⟨by decide +kernel, rfl⟩
theorem aX8_owner_4 : At cX8_owner 4 (.iload_n 1) 1 5 := ⟨by decide +kernel, rfl⟩
theorem aX8_owner_5 : At cX8_owner 5 (.invokevirtual 169) 3 8 := ⟨by decide +kernel, rfl⟩
theorem aX8_owner_8 : Br cX8_owner 8 (.ifCond .eq (12)) (12) 11 20 := ⟨by decide +kernel, rfl, by decide⟩
theorem aX8_owner_11 : At cX8_owner 11 (.iload_n 2) 1 12 := ⟨by decide +kernel, rfl⟩
theorem aX8_owner_12 : At cX8_owner 12 (.bipush 12) 2 14 := ⟨by decide +kernel, rfl⟩
theorem aX8_owner_14 : At cX8_owner 14 (.invokestatic 58) 3 17 := ⟨by decide +kernel, rfl⟩
theorem aX8_owner_17 : Br cX8_owner 17 (.ifCond .eq (9)) (9) 20 26 := ⟨by decide +kernel, rfl, by decide⟩
theorem aX8_owner_20 : At cX8_owner 20 (.aload_n 0) 1 21 := ⟨by decide +kernel, rfl⟩
theorem aX8_owner_21 : At cX8_owner 21 (.iconst 0) 1 22 := ⟨by decide +kernel, rfl⟩
theorem aX8_owner_22 : At cX8_owner 22 (.invokevirtual 62) 3 25 := ⟨by decide +kernel, rfl⟩
theorem aX8_owner_25 : At cX8_owner 25 (.ireturn) 1 26 := ⟨by decide +kernel, rfl⟩
theorem aX8_owner_26 : At cX8_owner 26 (.aload_n 0) 1 27 := ⟨by decide +kernel, rfl⟩
theorem aX8_owner_27 : At cX8_owner 27 (.getfield 23) 3 30 := ⟨by decide +kernel, rfl⟩
theorem aX8_owner_30 : At cX8_owner 30 (.iload_n 1) 1 31 := ⟨by decide +kernel, rfl⟩
theorem aX8_owner_31 : At cX8_owner 31 (.iload_n 2) 1 32 := ⟨by decide +kernel, rfl⟩
theorem aX8_owner_32 : At cX8_owner 32 (.invokevirtual 172) 3 35 := ⟨by decide +kernel, rfl⟩
theorem aX8_owner_35 : At cX8_owner 35 (.ireturn) 1 36 := ⟨by decide +kernel, rfl⟩
theorem aX8_chain_0 : At cX8_chain 0 (.aload_n 0) 1 1 := ⟨by decide +kernel, rfl⟩
theorem aX8_chain_1 : At cX8_chain 1 (.getfield 10) 3 4 := ⟨by decide +kernel, rfl⟩
theorem aX8_chain_4 : At cX8_chain 4 (.iload_n 1) 1 5 := ⟨by decide +kernel, rfl⟩
theorem aX8_chain_5 : At cX8_chain 5 (.invokevirtual 169) 3 8 := ⟨by decide +kernel, rfl⟩
theorem aX8_chain_8 : Br cX8_chain 8 (.ifCond .eq (12)) (12) 11 20 := ⟨by decide +kernel, rfl, by decide⟩
theorem aX8_chain_11 : At cX8_chain 11 (.iload_n 2) 1 12 := ⟨by decide +kernel, rfl⟩
theorem aX8_chain_12 : At cX8_chain 12 (.bipush 12) 2 14 := ⟨by decide +kernel, rfl⟩
theorem aX8_chain_14 : At cX8_chain 14 (.invokestatic 58) 3 17 := ⟨by decide +kernel, rfl⟩
theorem aX8_chain_17 : Br cX8_chain 17 (.ifCond .eq (9)) (9) 20 26 := ⟨by decide +kernel, rfl, by decide⟩
theorem aX8_chain_20 : At cX8_chain 20 (.aload_n 0) 1 21 := ⟨by decide +kernel, rfl⟩
theorem aX8_chain_21 : At cX8_chain 21 (.iconst 0) 1 22 := ⟨by decide +kernel, rfl⟩
theorem aX8_chain_22 : At cX8_chain 22 (.invokevirtual 62) 3 25 := ⟨by decide +kernel, rfl⟩
theorem aX8_chain_25 : At cX8_chain 25 (.ireturn) 1 26 := ⟨by decide +kernel, rfl⟩
theorem aX8_chain_26 : At cX8_chain 26 (.iload_n 2) 1 27 := ⟨by decide +kernel, rfl⟩
theorem aX8_chain_27 : At cX8_chain 27 (.iconst 3) 1 28 := ⟨by decide +kernel, rfl⟩
theorem aX8_chain_28 : At cX8_chain 28 (.irem) 1 29 := ⟨by decide +kernel, rfl⟩
theorem aX8_chain_29 : At cX8_chain 29 (.istore 4) 2 31 := ⟨by decide +kernel, rfl⟩
theorem aX8_chain_31 : At cX8_chain 31 (.iconst 1) 1 32 := ⟨by decide +kernel, rfl⟩
theorem aX8_chain_32 : At cX8_chain 32 (.istore 5) 2 34 := ⟨by decide +kernel, rfl⟩
theorem aX8_chain_34 : At cX8_chain 34 (.iconst 0) 1 35 := ⟨by decide +kernel, rfl⟩
theorem aX8_chain_35 : At cX8_chain 35 (.istore 6) 2 37 := ⟨by decide +kernel, rfl⟩
theorem aX8_chain_37 : At cX8_chain 37 (.iload 6) 2 39 := ⟨by decide +kernel, rfl⟩
theorem aX8_chain_39 : At cX8_chain 39 (.aload_n 0) 1 40 := ⟨by decide +kernel, rfl⟩
theorem aX8_chain_40 : At cX8_chain 40 (.getfield 10) 3 43 := ⟨by decide +kernel, rfl⟩
theorem aX8_chain_43 : At cX8_chain 43 (.getfield 101) 3 46 := ⟨by decide +kernel, rfl⟩
theorem aX8_chain_46 : Br cX8_chain 46 (.if_icmp .ge (58)) (58) 49 104 := ⟨by decide +kernel, rfl, by decide⟩
theorem aX8_chain_49 : At cX8_chain 49 (.iload 5) 2 51 := ⟨by decide +kernel, rfl⟩
theorem aX8_chain_51 : At cX8_chain 51 (.iload_n 3) 1 52 := ⟨by decide +kernel, rfl⟩
theorem aX8_chain_52 : At cX8_chain 52 (.iconst 1) 1 53 := ⟨by decide +kernel, rfl⟩
theorem aX8_chain_53 : At cX8_chain 53 (.iadd) 1 54 := ⟨by decide +kernel, rfl⟩
theorem aX8_chain_54 : Br cX8_chain 54 (.if_icmp .eq (50)) (50) 57 104 := ⟨by decide +kernel, rfl, by decide⟩
theorem aX8_chain_57 : At cX8_chain 57 (.aload_n 0) 1 58 := ⟨by decide +kernel, rfl⟩
theorem aX8_chain_58 : At cX8_chain 58 (.getfield 10) 3 61 := ⟨by decide +kernel, rfl⟩
theorem aX8_chain_61 : At cX8_chain 61 (.iload 6) 2 63 := ⟨by decide +kernel, rfl⟩
theorem aX8_chain_63 : At cX8_chain 63 (.invokevirtual 128) 3 66 := ⟨by decide +kernel, rfl⟩
theorem aX8_chain_66 : At cX8_chain 66 (.astore 7) 2 68 := ⟨by decide +kernel, rfl⟩
theorem aX8_chain_68 : At cX8_chain 68 (.aload 7) 2 70 := ⟨by decide +kernel, rfl⟩
theorem aX8_chain_70 : Br cX8_chain 70 (.ifnonnull (7)) (7) 73 77 := ⟨by decide +kernel, rfl, by decide⟩
theorem aX8_chain_73 : At cX8_chain 73 (.iconst (-1)) 1 74 := ⟨by decide +kernel, rfl⟩
theorem aX8_chain_74 : Br cX8_chain 74 (.goto (10)) (10) 77 84 := ⟨by decide +kernel, rfl, by decide⟩
theorem aX8_chain_77 : At cX8_chain 77 (.aload 7) 2 79 := ⟨by decide +kernel, rfl⟩
theorem aX8_chain_79 : At cX8_chain 79 (.iload_n 1) 1 80 := ⟨by decide +kernel, rfl⟩
theorem aX8_chain_80 : At cX8_chain 80 (.iload_n 2) 1 81 := ⟨by decide +kernel, rfl⟩
theorem aX8_chain_81 : At cX8_chain 81 (.invokevirtual 175) 3 84 := ⟨by decide +kernel, rfl⟩
theorem aX8_chain_84 : At cX8_chain 84 (.istore 8) 2 86 := ⟨by decide +kernel, rfl⟩
theorem aX8_chain_86 : At cX8_chain 86 (.iload 8) 2 88 := ⟨by decide +kernel, rfl⟩
theorem aX8_chain_88 : Br cX8_chain 88 (.ifCond .lt (10)) (10) 91 98 := ⟨by decide +kernel, rfl, by decide⟩
theorem aX8_chain_91 : At cX8_chain 91 (.iload 8) 2 93 := ⟨by decide +kernel, rfl⟩
theorem aX8_chain_93 : At cX8_chain 93 (.istore 4) 2 95 := ⟨by decide +kernel, rfl⟩
theorem aX8_chain_95 : At cX8_chain 95 (.iinc 5 1) 3 98 := ⟨by decide +kernel, rfl⟩
theorem aX8_chain_98 : At cX8_chain 98 (.iinc 6 1) 3 101 := ⟨by decide +kernel, rfl⟩
theorem aX8_chain_101 : Br cX8_chain 101 (.goto (-64)) (-64) 104 37 := ⟨by decide +kernel, rfl, by decide⟩
theorem aX8_chain_104 : At cX8_chain 104 (.iload_n 3) 1 105 := ⟨by decide +kernel, rfl⟩
theorem aX8_chain_105 : At cX8_chain 105 (.iconst (-1)) 1 106 := ⟨by decide +kernel, rfl⟩
theorem aX8_chain_106 : Br cX8_chain 106 (.if_icmp .ne (6)) (6) 109 112 := ⟨by decide +kernel, rfl, by decide⟩
theorem aX8_chain_109 : At cX8_chain 109 (.iload 5) 2 111 := ⟨by decide +kernel, rfl⟩
theorem aX8_chain_111 : At cX8_chain 111 (.ireturn) 1 112 := ⟨by decide +kernel, rfl⟩
theorem aX8_chain_112 : At cX8_chain 112 (.iload 5) 2 114 := ⟨by decide +kernel, rfl⟩
theorem aX8_chain_114 : At cX8_chain 114 (.iload_n 3) 1 115 := ⟨by decide +kernel, rfl⟩
theorem aX8_chain_115 : At cX8_chain 115 (.iconst 1) 1 116 := ⟨by decide +kernel, rfl⟩
theorem aX8_chain_116 : At cX8_chain 116 (.iadd) 1 117 := ⟨by decide +kernel, rfl⟩
theorem aX8_chain_117 : Br cX8_chain 117 (.if_icmp .ne (8)) (8) 120 125 := ⟨by decide +kernel, rfl, by decide⟩
theorem aX8_chain_120 : At cX8_chain 120 (.iload 4) 2 122 := ⟨by decide +kernel, rfl⟩
theorem aX8_chain_122 : Br cX8_chain 122 (.goto (8)) (8) 125 130 := ⟨by decide +kernel, rfl, by decide⟩
theorem aX8_chain_125 : At cX8_chain 125 (.aload_n 0) 1 126 := ⟨by decide +kernel, rfl⟩
theorem aX8_chain_126 : At cX8_chain 126 (.iconst 3) 1 127 := ⟨by decide +kernel, rfl⟩
theorem aX8_chain_127 : At cX8_chain 127 (.invokevirtual 62) 3 130 := ⟨by decide +kernel, rfl⟩
theorem aX8_chain_130 : At cX8_chain 130 (.ireturn) 1 131 := ⟨by decide +kernel, rfl⟩
theorem aX8_hand_0 : At cX8_hand 0 (.aload_n 0) 1 1 := ⟨by decide +kernel, rfl⟩
theorem aX8_hand_1 : At cX8_hand 1 (.getfield 10) 3 4 := ⟨by decide +kernel, rfl⟩
theorem aX8_hand_4 : At cX8_hand 4 (.iload_n 1) 1 5 := ⟨by decide +kernel, rfl⟩
theorem aX8_hand_5 : At cX8_hand 5 (.invokevirtual 169) 3 8 := ⟨by decide +kernel, rfl⟩
theorem aX8_hand_8 : Br cX8_hand 8 (.ifCond .eq (11)) (11) 11 19 := ⟨by decide +kernel, rfl, by decide⟩
theorem aX8_hand_11 : At cX8_hand 11 (.iload_n 2) 1 12 := ⟨by decide +kernel, rfl⟩
theorem aX8_hand_12 : At cX8_hand 12 (.iconst 3) 1 13 := ⟨by decide +kernel, rfl⟩
theorem aX8_hand_13 : At cX8_hand 13 (.invokestatic 58) 3 16 := ⟨by decide +kernel, rfl⟩
theorem aX8_hand_16 : Br cX8_hand 16 (.ifCond .eq (9)) (9) 19 25 := ⟨by decide +kernel, rfl, by decide⟩
theorem aX8_hand_19 : At cX8_hand 19 (.aload_n 0) 1 20 := ⟨by decide +kernel, rfl⟩
theorem aX8_hand_20 : At cX8_hand 20 (.iconst 0) 1 21 := ⟨by decide +kernel, rfl⟩
theorem aX8_hand_21 : At cX8_hand 21 (.invokevirtual 62) 3 24 := ⟨by decide +kernel, rfl⟩
theorem aX8_hand_24 : At cX8_hand 24 (.ireturn) 1 25 := ⟨by decide +kernel, rfl⟩
theorem aX8_hand_25 : At cX8_hand 25 (.iconst 0) 1 26 := ⟨by decide +kernel, rfl⟩
theorem aX8_hand_26 : At cX8_hand 26 (.istore_n 3) 1 27 := ⟨by decide +kernel, rfl⟩
theorem aX8_hand_27 : At cX8_hand 27 (.iconst 0) 1 28 := ⟨by decide +kernel, rfl⟩
theorem aX8_hand_28 : At cX8_hand 28 (.istore 4) 2 30 := ⟨by decide +kernel, rfl⟩
theorem aX8_hand_30 : At cX8_hand 30 (.iload 4) 2 32 := ⟨by decide +kernel, rfl⟩
theorem aX8_hand_32 : At cX8_hand 32 (.bipush 12) 2 34 := ⟨by decide +kernel, rfl⟩
theorem aX8_hand_34 : Br cX8_hand 34 (.if_icmp .ge (30)) (30) 37 64 := ⟨by decide +kernel, rfl, by decide⟩
theorem aX8_hand_37 : At cX8_hand 37 (.aload_n 0) 1 38 := ⟨by decide +kernel, rfl⟩
theorem aX8_hand_38 : At cX8_hand 38 (.getfield 23) 3 41 := ⟨by decide +kernel, rfl⟩
theorem aX8_hand_41 : At cX8_hand 41 (.iload_n 1) 1 42 := ⟨by decide +kernel, rfl⟩
theorem aX8_hand_42 : At cX8_hand 42 (.iload 4) 2 44 := ⟨by decide +kernel, rfl⟩
theorem aX8_hand_44 : At cX8_hand 44 (.invokevirtual 172) 3 47 := ⟨by decide +kernel, rfl⟩
theorem aX8_hand_47 : At cX8_hand 47 (.iload_n 2) 1 48 := ⟨by decide +kernel, rfl⟩
theorem aX8_hand_48 : Br cX8_hand 48 (.if_icmp .ne (10)) (10) 51 58 := ⟨by decide +kernel, rfl, by decide⟩
theorem aX8_hand_51 : At cX8_hand 51 (.iload_n 3) 1 52 := ⟨by decide +kernel, rfl⟩
theorem aX8_hand_52 : At cX8_hand 52 (.iconst 1) 1 53 := ⟨by decide +kernel, rfl⟩
theorem aX8_hand_53 : At cX8_hand 53 (.iload 4) 2 55 := ⟨by decide +kernel, rfl⟩
theorem aX8_hand_55 : At cX8_hand 55 (.ishl) 1 56 := ⟨by decide +kernel, rfl⟩
theorem aX8_hand_56 : At cX8_hand 56 (.ior) 1 57 := ⟨by decide +kernel, rfl⟩
theorem aX8_hand_57 : At cX8_hand 57 (.istore_n 3) 1 58 := ⟨by decide +kernel, rfl⟩
theorem aX8_hand_58 : At cX8_hand 58 (.iinc 4 1) 3 61 := ⟨by decide +kernel, rfl⟩
theorem aX8_hand_61 : Br cX8_hand 61 (.goto (-31)) (-31) 64 30 := ⟨by decide +kernel, rfl, by decide⟩
theorem aX8_hand_64 : At cX8_hand 64 (.iload_n 3) 1 65 := ⟨by decide +kernel, rfl⟩
theorem aX8_hand_65 : At cX8_hand 65 (.ireturn) 1 66 := ⟨by decide +kernel, rfl⟩
theorem aX8_owners_0 : At cX8_owners 0 (.iload_n 1) 1 1 := ⟨by decide +kernel, rfl⟩
theorem aX8_owners_1 : At cX8_owners 1 (.bipush 12) 2 3 := ⟨by decide +kernel, rfl⟩
theorem aX8_owners_3 : At cX8_owners 3 (.invokestatic 58) 3 6 := ⟨by decide +kernel, rfl⟩
theorem aX8_owners_6 : Br cX8_owners 6 (.ifCond .eq (11)) (11) 9 17 := ⟨by decide +kernel, rfl, by decide⟩
theorem aX8_owners_9 : At cX8_owners 9 (.aload_n 0) 1 10 := ⟨by decide +kernel, rfl⟩
theorem aX8_owners_10 : At cX8_owners 10 (.iconst 0) 1 11 := ⟨by decide +kernel, rfl⟩
theorem aX8_owners_11 : At cX8_owners 11 (.invokevirtual 62) 3 14 := ⟨by decide +kernel, rfl⟩
theorem aX8_owners_14 : Br cX8_owners 14 (.goto (8)) (8) 17 22 := ⟨by decide +kernel, rfl, by decide⟩
theorem aX8_owners_17 : At cX8_owners 17 (.aload_n 0) 1 18 := ⟨by decide +kernel, rfl⟩
theorem aX8_owners_18 : At cX8_owners 18 (.iload_n 1) 1 19 := ⟨by decide +kernel, rfl⟩
theorem aX8_owners_19 : At cX8_owners 19 (.invokevirtual 178) 3 22 := ⟨by decide +kernel, rfl⟩
theorem aX8_owners_22 : At cX8_owners 22 (.ireturn) 1 23 := ⟨by decide +kernel, rfl⟩
theorem aX8_sure_0 : At cX8_sure 0 (.iload_n 1) 1 1 := ⟨by decide +kernel, rfl⟩
theorem aX8_sure_1 : At cX8_sure 1 (.bipush 12) 2 3 := ⟨by decide +kernel, rfl⟩
theorem aX8_sure_3 : At cX8_sure 3 (.invokestatic 58) 3 6 := ⟨by decide +kernel, rfl⟩
theorem aX8_sure_6 : Br cX8_sure 6 (.ifCond .eq (9)) (9) 9 15 := ⟨by decide +kernel, rfl, by decide⟩
theorem aX8_sure_9 : At cX8_sure 9 (.aload_n 0) 1 10 := ⟨by decide +kernel, rfl⟩
theorem aX8_sure_10 : At cX8_sure 10 (.iconst 0) 1 11 := ⟨by decide +kernel, rfl⟩
theorem aX8_sure_11 : At cX8_sure 11 (.invokevirtual 62) 3 14 := ⟨by decide +kernel, rfl⟩
theorem aX8_sure_14 : At cX8_sure 14 (.ireturn) 1 15 := ⟨by decide +kernel, rfl⟩
theorem aX8_sure_15 : At cX8_sure 15 (.aload_n 0) 1 16 := ⟨by decide +kernel, rfl⟩
theorem aX8_sure_16 : At cX8_sure 16 (.iload_n 1) 1 17 := ⟨by decide +kernel, rfl⟩
theorem aX8_sure_17 : At cX8_sure 17 (.invokevirtual 178) 3 20 := ⟨by decide +kernel, rfl⟩
theorem aX8_sure_20 : At cX8_sure 20 (.istore_n 2) 1 21 := ⟨by decide +kernel, rfl⟩
theorem aX8_sure_21 : At cX8_sure 21 (.iconst 0) 1 22 := ⟨by decide +kernel, rfl⟩
theorem aX8_sure_22 : At cX8_sure 22 (.istore_n 3) 1 23 := ⟨by decide +kernel, rfl⟩
theorem aX8_sure_23 : At cX8_sure 23 (.iload_n 3) 1 24 := ⟨by decide +kernel, rfl⟩
theorem aX8_sure_24 : At cX8_sure 24 (.iconst 3) 1 25 := ⟨by decide +kernel, rfl⟩
theorem aX8_sure_25 : Br cX8_sure 25 (.if_icmp .ge (18)) (18) 28 43 := ⟨by decide +kernel, rfl, by decide⟩
theorem aX8_sure_28 : At cX8_sure 28 (.iload_n 2) 1 29 := ⟨by decide +kernel, rfl⟩
theorem aX8_sure_29 : At cX8_sure 29 (.iconst 1) 1 30 := ⟨by decide +kernel, rfl⟩
theorem aX8_sure_30 : At cX8_sure 30 (.iload_n 3) 1 31 := ⟨by decide +kernel, rfl⟩
theorem aX8_sure_31 : At cX8_sure 31 (.ishl) 1 32 := ⟨by decide +kernel, rfl⟩
theorem aX8_sure_32 : Br cX8_sure 32 (.if_icmp .ne (5)) (5) 35 37 := ⟨by decide +kernel, rfl, by decide⟩
theorem aX8_sure_35 : At cX8_sure 35 (.iload_n 3) 1 36 := ⟨by decide +kernel, rfl⟩
theorem aX8_sure_36 : At cX8_sure 36 (.ireturn) 1 37 := ⟨by decide +kernel, rfl⟩
theorem aX8_sure_37 : At cX8_sure 37 (.iinc 3 1) 3 40 := ⟨by decide +kernel, rfl⟩
theorem aX8_sure_40 : Br cX8_sure 40 (.goto (-17)) (-17) 43 23 := ⟨by decide +kernel, rfl, by decide⟩
theorem aX8_sure_43 : At cX8_sure 43 (.aload_n 0) 1 44 := ⟨by decide +kernel, rfl⟩
theorem aX8_sure_44 : At cX8_sure 44 (.iconst 3) 1 45 := ⟨by decide +kernel, rfl⟩
theorem aX8_sure_45 : At cX8_sure 45 (.invokevirtual 62) 3 48 := ⟨by decide +kernel, rfl⟩
theorem aX8_sure_48 : At cX8_sure 48 (.ireturn) 1 49 := ⟨by decide +kernel, rfl⟩
theorem aX8_chance_0 : At cX8_chance 0 (.iload_n 1) 1 1 := ⟨by decide +kernel, rfl⟩
theorem aX8_chance_1 : At cX8_chance 1 (.bipush 12) 2 3 := ⟨by decide +kernel, rfl⟩
theorem aX8_chance_3 : At cX8_chance 3 (.invokestatic 58) 3 6 := ⟨by decide +kernel, rfl⟩
theorem aX8_chance_6 : Br cX8_chance 6 (.ifCond .ne (11)) (11) 9 17 := ⟨by decide +kernel, rfl, by decide⟩
theorem aX8_chance_9 : At cX8_chance 9 (.iload_n 2) 1 10 := ⟨by decide +kernel, rfl⟩
theorem aX8_chance_10 : At cX8_chance 10 (.iconst 3) 1 11 := ⟨by decide +kernel, rfl⟩
theorem aX8_chance_11 : At cX8_chance 11 (.invokestatic 58) 3 14 := ⟨by decide +kernel, rfl⟩
theorem aX8_chance_14 : Br cX8_chance 14 (.ifCond .eq (9)) (9) 17 23 := ⟨by decide +kernel, rfl, by decide⟩
theorem aX8_chance_17 : At cX8_chance 17 (.aload_n 0) 1 18 := ⟨by decide +kernel, rfl⟩
theorem aX8_chance_18 : At cX8_chance 18 (.iconst 0) 1 19 := ⟨by decide +kernel, rfl⟩
theorem aX8_chance_19 : At cX8_chance 19 (.invokevirtual 62) 3 22 := ⟨by decide +kernel, rfl⟩
theorem aX8_chance_22 : At cX8_chance 22 (.ireturn) 1 23 := ⟨by decide +kernel, rfl⟩
theorem aX8_chance_23 : At cX8_chance 23 (.iconst 0) 1 24 := ⟨by decide +kernel, rfl⟩
theorem aX8_chance_24 : At cX8_chance 24 (.istore_n 3) 1 25 := ⟨by decide +kernel, rfl⟩
theorem aX8_chance_25 : At cX8_chance 25 (.aload_n 0) 1 26 := ⟨by decide +kernel, rfl⟩
theorem aX8_chance_26 : At cX8_chance 26 (.getfield 10) 3 29 := ⟨by decide +kernel, rfl⟩
theorem aX8_chance_29 : At cX8_chance 29 (.invokevirtual 181) 3 32 := ⟨by decide +kernel, rfl⟩
theorem aX8_chance_32 : At cX8_chance 32 (.istore 4) 2 34 := ⟨by decide +kernel, rfl⟩
theorem aX8_chance_34 : At cX8_chance 34 (.aload_n 0) 1 35 := ⟨by decide +kernel, rfl⟩
theorem aX8_chance_35 : At cX8_chance 35 (.getfield 10) 3 38 := ⟨by decide +kernel, rfl⟩
theorem aX8_chance_38 : At cX8_chance 38 (.invokevirtual 84) 3 41 := ⟨by decide +kernel, rfl⟩
theorem aX8_chance_41 : At cX8_chance 41 (.istore 5) 2 43 := ⟨by decide +kernel, rfl⟩
theorem aX8_chance_43 : At cX8_chance 43 (.iload 5) 2 45 := ⟨by decide +kernel, rfl⟩
theorem aX8_chance_45 : At cX8_chance 45 (.iload 4) 2 47 := ⟨by decide +kernel, rfl⟩
theorem aX8_chance_47 : Br cX8_chance 47 (.if_icmp .ge (26)) (26) 50 73 := ⟨by decide +kernel, rfl, by decide⟩
theorem aX8_chance_50 : At cX8_chance 50 (.aload_n 0) 1 51 := ⟨by decide +kernel, rfl⟩
theorem aX8_chance_51 : At cX8_chance 51 (.getfield 23) 3 54 := ⟨by decide +kernel, rfl⟩
theorem aX8_chance_54 : At cX8_chance 54 (.iload 5) 2 56 := ⟨by decide +kernel, rfl⟩
theorem aX8_chance_56 : At cX8_chance 56 (.iload_n 1) 1 57 := ⟨by decide +kernel, rfl⟩
theorem aX8_chance_57 : At cX8_chance 57 (.invokevirtual 172) 3 60 := ⟨by decide +kernel, rfl⟩
theorem aX8_chance_60 : At cX8_chance 60 (.iload_n 2) 1 61 := ⟨by decide +kernel, rfl⟩
theorem aX8_chance_61 : Br cX8_chance 61 (.if_icmp .ne (6)) (6) 64 67 := ⟨by decide +kernel, rfl, by decide⟩
theorem aX8_chance_64 : At cX8_chance 64 (.iinc 3 1) 3 67 := ⟨by decide +kernel, rfl⟩
theorem aX8_chance_67 : At cX8_chance 67 (.iinc 5 1) 3 70 := ⟨by decide +kernel, rfl⟩
theorem aX8_chance_70 : Br cX8_chance 70 (.goto (-27)) (-27) 73 43 := ⟨by decide +kernel, rfl, by decide⟩
theorem aX8_chance_73 : At cX8_chance 73 (.iload_n 3) 1 74 := ⟨by decide +kernel, rfl⟩
theorem aX8_chance_74 : At cX8_chance 74 (.ireturn) 1 75 := ⟨by decide +kernel, rfl⟩
theorem aX8_least_0 : At cX8_least 0 (.iload_n 1) 1 1 := ⟨by decide +kernel, rfl⟩
theorem aX8_least_1 : At cX8_least 1 (.bipush 12) 2 3 := ⟨by decide +kernel, rfl⟩
theorem aX8_least_3 : At cX8_least 3 (.invokestatic 58) 3 6 := ⟨by decide +kernel, rfl⟩
theorem aX8_least_6 : Br cX8_least 6 (.ifCond .ne (11)) (11) 9 17 := ⟨by decide +kernel, rfl, by decide⟩
theorem aX8_least_9 : At cX8_least 9 (.iload_n 2) 1 10 := ⟨by decide +kernel, rfl⟩
theorem aX8_least_10 : At cX8_least 10 (.iconst 3) 1 11 := ⟨by decide +kernel, rfl⟩
theorem aX8_least_11 : At cX8_least 11 (.invokestatic 58) 3 14 := ⟨by decide +kernel, rfl⟩
theorem aX8_least_14 : Br cX8_least 14 (.ifCond .eq (9)) (9) 17 23 := ⟨by decide +kernel, rfl, by decide⟩
theorem aX8_least_17 : At cX8_least 17 (.aload_n 0) 1 18 := ⟨by decide +kernel, rfl⟩
theorem aX8_least_18 : At cX8_least 18 (.iconst 0) 1 19 := ⟨by decide +kernel, rfl⟩
theorem aX8_least_19 : At cX8_least 19 (.invokevirtual 62) 3 22 := ⟨by decide +kernel, rfl⟩
theorem aX8_least_22 : At cX8_least 22 (.ireturn) 1 23 := ⟨by decide +kernel, rfl⟩
theorem aX8_least_23 : At cX8_least 23 (.aload_n 0) 1 24 := ⟨by decide +kernel, rfl⟩
theorem aX8_least_24 : At cX8_least 24 (.getfield 10) 3 27 := ⟨by decide +kernel, rfl⟩
theorem aX8_least_27 : At cX8_least 27 (.invokevirtual 181) 3 30 := ⟨by decide +kernel, rfl⟩
theorem aX8_least_30 : At cX8_least 30 (.istore_n 3) 1 31 := ⟨by decide +kernel, rfl⟩
theorem aX8_least_31 : At cX8_least 31 (.aload_n 0) 1 32 := ⟨by decide +kernel, rfl⟩
theorem aX8_least_32 : At cX8_least 32 (.getfield 10) 3 35 := ⟨by decide +kernel, rfl⟩
theorem aX8_least_35 : At cX8_least 35 (.invokevirtual 84) 3 38 := ⟨by decide +kernel, rfl⟩
theorem aX8_least_38 : At cX8_least 38 (.istore 4) 2 40 := ⟨by decide +kernel, rfl⟩
theorem aX8_least_40 : At cX8_least 40 (.iload 4) 2 42 := ⟨by decide +kernel, rfl⟩
theorem aX8_least_42 : At cX8_least 42 (.iload_n 3) 1 43 := ⟨by decide +kernel, rfl⟩
theorem aX8_least_43 : Br cX8_least 43 (.if_icmp .ge (26)) (26) 46 69 := ⟨by decide +kernel, rfl, by decide⟩
theorem aX8_least_46 : At cX8_least 46 (.aload_n 0) 1 47 := ⟨by decide +kernel, rfl⟩
theorem aX8_least_47 : At cX8_least 47 (.getfield 23) 3 50 := ⟨by decide +kernel, rfl⟩
theorem aX8_least_50 : At cX8_least 50 (.iload 4) 2 52 := ⟨by decide +kernel, rfl⟩
theorem aX8_least_52 : At cX8_least 52 (.iload_n 1) 1 53 := ⟨by decide +kernel, rfl⟩
theorem aX8_least_53 : At cX8_least 53 (.invokevirtual 172) 3 56 := ⟨by decide +kernel, rfl⟩
theorem aX8_least_56 : At cX8_least 56 (.iload_n 2) 1 57 := ⟨by decide +kernel, rfl⟩
theorem aX8_least_57 : Br cX8_least 57 (.if_icmp .ne (6)) (6) 60 63 := ⟨by decide +kernel, rfl, by decide⟩
theorem aX8_least_60 : At cX8_least 60 (.iload 4) 2 62 := ⟨by decide +kernel, rfl⟩
theorem aX8_least_62 : At cX8_least 62 (.ireturn) 1 63 := ⟨by decide +kernel, rfl⟩
theorem aX8_least_63 : At cX8_least 63 (.iinc 4 1) 3 66 := ⟨by decide +kernel, rfl⟩
theorem aX8_least_66 : Br cX8_least 66 (.goto (-26)) (-26) 69 40 := ⟨by decide +kernel, rfl, by decide⟩
theorem aX8_least_69 : At cX8_least 69 (.aload_n 0) 1 70 := ⟨by decide +kernel, rfl⟩
theorem aX8_least_70 : At cX8_least 70 (.iconst 3) 1 71 := ⟨by decide +kernel, rfl⟩
theorem aX8_least_71 : At cX8_least 71 (.invokevirtual 62) 3 74 := ⟨by decide +kernel, rfl⟩
theorem aX8_least_74 : At cX8_least 74 (.ireturn) 1 75 := ⟨by decide +kernel, rfl⟩
theorem aX8_worth_0 : At cX8_worth 0 (.aload_n 0) 1 1 := ⟨by decide +kernel, rfl⟩
theorem aX8_worth_1 : At cX8_worth 1 (.getfield 10) 3 4 := ⟨by decide +kernel, rfl⟩
theorem aX8_worth_4 : At cX8_worth 4 (.iload_n 1) 1 5 := ⟨by decide +kernel, rfl⟩
theorem aX8_worth_5 : At cX8_worth 5 (.invokevirtual 169) 3 8 := ⟨by decide +kernel, rfl⟩
theorem aX8_worth_8 : Br cX8_worth 8 (.ifCond .eq (11)) (11) 11 19 := ⟨by decide +kernel, rfl, by decide⟩
theorem aX8_worth_11 : At cX8_worth 11 (.iload_n 2) 1 12 := ⟨by decide +kernel, rfl⟩
theorem aX8_worth_12 : At cX8_worth 12 (.iconst 3) 1 13 := ⟨by decide +kernel, rfl⟩
theorem aX8_worth_13 : At cX8_worth 13 (.invokestatic 58) 3 16 := ⟨by decide +kernel, rfl⟩
theorem aX8_worth_16 : Br cX8_worth 16 (.ifCond .eq (9)) (9) 19 25 := ⟨by decide +kernel, rfl, by decide⟩
theorem aX8_worth_19 : At cX8_worth 19 (.aload_n 0) 1 20 := ⟨by decide +kernel, rfl⟩
theorem aX8_worth_20 : At cX8_worth 20 (.iconst 0) 1 21 := ⟨by decide +kernel, rfl⟩
theorem aX8_worth_21 : At cX8_worth 21 (.invokevirtual 62) 3 24 := ⟨by decide +kernel, rfl⟩
theorem aX8_worth_24 : At cX8_worth 24 (.ireturn) 1 25 := ⟨by decide +kernel, rfl⟩
theorem aX8_worth_25 : At cX8_worth 25 (.aload_n 0) 1 26 := ⟨by decide +kernel, rfl⟩
theorem aX8_worth_26 : At cX8_worth 26 (.iload_n 1) 1 27 := ⟨by decide +kernel, rfl⟩
theorem aX8_worth_27 : At cX8_worth 27 (.iload_n 2) 1 28 := ⟨by decide +kernel, rfl⟩
theorem aX8_worth_28 : At cX8_worth 28 (.invokevirtual 187) 3 31 := ⟨by decide +kernel, rfl⟩
theorem aX8_worth_31 : At cX8_worth 31 (.ireturn) 1 32 := ⟨by decide +kernel, rfl⟩
theorem aX8_value_0 : At cX8_value 0 (.iload_n 1) 1 1 := ⟨by decide +kernel, rfl⟩
theorem aX8_value_1 : At cX8_value 1 (.iconst 3) 1 2 := ⟨by decide +kernel, rfl⟩
theorem aX8_value_2 : At cX8_value 2 (.invokestatic 58) 3 5 := ⟨by decide +kernel, rfl⟩
theorem aX8_value_5 : Br cX8_value 5 (.ifCond .eq (9)) (9) 8 14 := ⟨by decide +kernel, rfl, by decide⟩
theorem aX8_value_8 : At cX8_value 8 (.aload_n 0) 1 9 := ⟨by decide +kernel, rfl⟩
theorem aX8_value_9 : At cX8_value 9 (.iconst 0) 1 10 := ⟨by decide +kernel, rfl⟩
theorem aX8_value_10 : At cX8_value 10 (.invokevirtual 190) 3 13 := ⟨by decide +kernel, rfl⟩
theorem aX8_value_13 : At cX8_value 13 (.lreturn) 1 14 := ⟨by decide +kernel, rfl⟩
theorem aX8_value_14 : At cX8_value 14 (.aload_n 0) 1 15 := ⟨by decide +kernel, rfl⟩
theorem aX8_value_15 : At cX8_value 15 (.aload_n 0) 1 16 := ⟨by decide +kernel, rfl⟩
theorem aX8_value_16 : At cX8_value 16 (.getfield 10) 3 19 := ⟨by decide +kernel, rfl⟩
theorem aX8_value_19 : At cX8_value 19 (.invokevirtual 84) 3 22 := ⟨by decide +kernel, rfl⟩
theorem aX8_value_22 : At cX8_value 22 (.aload_n 0) 1 23 := ⟨by decide +kernel, rfl⟩
theorem aX8_value_23 : At cX8_value 23 (.getfield 10) 3 26 := ⟨by decide +kernel, rfl⟩
theorem aX8_value_26 : At cX8_value 26 (.invokevirtual 181) 3 29 := ⟨by decide +kernel, rfl⟩
theorem aX8_value_29 : At cX8_value 29 (.iload_n 1) 1 30 := ⟨by decide +kernel, rfl⟩
theorem aX8_value_30 : At cX8_value 30 (.invokevirtual 194) 3 33 := ⟨by decide +kernel, rfl⟩
theorem aX8_value_33 : At cX8_value 33 (.lreturn) 1 34 := ⟨by decide +kernel, rfl⟩
theorem aX8_best_0 : At cX8_best 0 (.iload_n 1) 1 1 := ⟨by decide +kernel, rfl⟩
theorem aX8_best_1 : At cX8_best 1 (.iconst 3) 1 2 := ⟨by decide +kernel, rfl⟩
theorem aX8_best_2 : At cX8_best 2 (.invokestatic 58) 3 5 := ⟨by decide +kernel, rfl⟩
theorem aX8_best_5 : Br cX8_best 5 (.ifCond .ne (11)) (11) 8 16 := ⟨by decide +kernel, rfl, by decide⟩
theorem aX8_best_8 : At cX8_best 8 (.iload_n 2) 1 9 := ⟨by decide +kernel, rfl⟩
theorem aX8_best_9 : At cX8_best 9 (.iconst 2) 1 10 := ⟨by decide +kernel, rfl⟩
theorem aX8_best_10 : At cX8_best 10 (.invokestatic 58) 3 13 := ⟨by decide +kernel, rfl⟩
theorem aX8_best_13 : Br cX8_best 13 (.ifCond .eq (9)) (9) 16 22 := ⟨by decide +kernel, rfl, by decide⟩
theorem aX8_best_16 : At cX8_best 16 (.aload_n 0) 1 17 := ⟨by decide +kernel, rfl⟩
theorem aX8_best_17 : At cX8_best 17 (.iconst 0) 1 18 := ⟨by decide +kernel, rfl⟩
theorem aX8_best_18 : At cX8_best 18 (.invokevirtual 62) 3 21 := ⟨by decide +kernel, rfl⟩
theorem aX8_best_21 : At cX8_best 21 (.ireturn) 1 22 := ⟨by decide +kernel, rfl⟩
theorem aX8_best_22 : At cX8_best 22 (.aload_n 0) 1 23 := ⟨by decide +kernel, rfl⟩
theorem aX8_best_23 : At cX8_best 23 (.getfield 10) 3 26 := ⟨by decide +kernel, rfl⟩
theorem aX8_best_26 : At cX8_best 26 (.invokevirtual 84) 3 29 := ⟨by decide +kernel, rfl⟩
theorem aX8_best_29 : At cX8_best 29 (.istore_n 3) 1 30 := ⟨by decide +kernel, rfl⟩
theorem aX8_best_30 : At cX8_best 30 (.aload_n 0) 1 31 := ⟨by decide +kernel, rfl⟩
theorem aX8_best_31 : At cX8_best 31 (.iload_n 3) 1 32 := ⟨by decide +kernel, rfl⟩
theorem aX8_best_32 : At cX8_best 32 (.iload_n 1) 1 33 := ⟨by decide +kernel, rfl⟩
theorem aX8_best_33 : At cX8_best 33 (.invokevirtual 187) 3 36 := ⟨by decide +kernel, rfl⟩
theorem aX8_best_36 : At cX8_best 36 (.istore 4) 2 38 := ⟨by decide +kernel, rfl⟩
theorem aX8_best_38 : At cX8_best 38 (.aload_n 0) 1 39 := ⟨by decide +kernel, rfl⟩
theorem aX8_best_39 : At cX8_best 39 (.getfield 10) 3 42 := ⟨by decide +kernel, rfl⟩
theorem aX8_best_42 : At cX8_best 42 (.invokevirtual 181) 3 45 := ⟨by decide +kernel, rfl⟩
theorem aX8_best_45 : At cX8_best 45 (.istore 5) 2 47 := ⟨by decide +kernel, rfl⟩
theorem aX8_best_47 : At cX8_best 47 (.iload_n 3) 1 48 := ⟨by decide +kernel, rfl⟩
theorem aX8_best_48 : At cX8_best 48 (.iconst 1) 1 49 := ⟨by decide +kernel, rfl⟩
theorem aX8_best_49 : At cX8_best 49 (.iadd) 1 50 := ⟨by decide +kernel, rfl⟩
theorem aX8_best_50 : At cX8_best 50 (.istore 6) 2 52 := ⟨by decide +kernel, rfl⟩
theorem aX8_best_52 : At cX8_best 52 (.iload 6) 2 54 := ⟨by decide +kernel, rfl⟩
theorem aX8_best_54 : At cX8_best 54 (.iload 5) 2 56 := ⟨by decide +kernel, rfl⟩
theorem aX8_best_56 : Br cX8_best 56 (.if_icmp .ge (46)) (46) 59 102 := ⟨by decide +kernel, rfl, by decide⟩
theorem aX8_best_59 : At cX8_best 59 (.aload_n 0) 1 60 := ⟨by decide +kernel, rfl⟩
theorem aX8_best_60 : At cX8_best 60 (.iload 6) 2 62 := ⟨by decide +kernel, rfl⟩
theorem aX8_best_62 : At cX8_best 62 (.iload_n 1) 1 63 := ⟨by decide +kernel, rfl⟩
theorem aX8_best_63 : At cX8_best 63 (.invokevirtual 187) 3 66 := ⟨by decide +kernel, rfl⟩
theorem aX8_best_66 : At cX8_best 66 (.istore 7) 2 68 := ⟨by decide +kernel, rfl⟩
theorem aX8_best_68 : At cX8_best 68 (.iload_n 2) 1 69 := ⟨by decide +kernel, rfl⟩
theorem aX8_best_69 : Br cX8_best 69 (.ifCond .ne (13)) (13) 72 82 := ⟨by decide +kernel, rfl, by decide⟩
theorem aX8_best_72 : At cX8_best 72 (.iload 7) 2 74 := ⟨by decide +kernel, rfl⟩
theorem aX8_best_74 : At cX8_best 74 (.iload 4) 2 76 := ⟨by decide +kernel, rfl⟩
theorem aX8_best_76 : Br cX8_best 76 (.if_icmp .le (20)) (20) 79 96 := ⟨by decide +kernel, rfl, by decide⟩
theorem aX8_best_79 : Br cX8_best 79 (.goto (10)) (10) 82 89 := ⟨by decide +kernel, rfl, by decide⟩
theorem aX8_best_82 : At cX8_best 82 (.iload 7) 2 84 := ⟨by decide +kernel, rfl⟩
theorem aX8_best_84 : At cX8_best 84 (.iload 4) 2 86 := ⟨by decide +kernel, rfl⟩
theorem aX8_best_86 : Br cX8_best 86 (.if_icmp .ge (10)) (10) 89 96 := ⟨by decide +kernel, rfl, by decide⟩
theorem aX8_best_89 : At cX8_best 89 (.iload 6) 2 91 := ⟨by decide +kernel, rfl⟩
theorem aX8_best_91 : At cX8_best 91 (.istore_n 3) 1 92 := ⟨by decide +kernel, rfl⟩
theorem aX8_best_92 : At cX8_best 92 (.iload 7) 2 94 := ⟨by decide +kernel, rfl⟩
theorem aX8_best_94 : At cX8_best 94 (.istore 4) 2 96 := ⟨by decide +kernel, rfl⟩
theorem aX8_best_96 : At cX8_best 96 (.iinc 6 1) 3 99 := ⟨by decide +kernel, rfl⟩
theorem aX8_best_99 : Br cX8_best 99 (.goto (-47)) (-47) 102 52 := ⟨by decide +kernel, rfl, by decide⟩
theorem aX8_best_102 : At cX8_best 102 (.iload_n 3) 1 103 := ⟨by decide +kernel, rfl⟩
theorem aX8_best_103 : At cX8_best 103 (.ireturn) 1 104 := ⟨by decide +kernel, rfl⟩
theorem aX8_hope_0 : At cX8_hope 0 (.iload_n 1) 1 1 := ⟨by decide +kernel, rfl⟩
theorem aX8_hope_1 : At cX8_hope 1 (.iconst 3) 1 2 := ⟨by decide +kernel, rfl⟩
theorem aX8_hope_2 : At cX8_hope 2 (.invokestatic 58) 3 5 := ⟨by decide +kernel, rfl⟩
theorem aX8_hope_5 : Br cX8_hope 5 (.ifCond .eq (9)) (9) 8 14 := ⟨by decide +kernel, rfl, by decide⟩
theorem aX8_hope_8 : At cX8_hope 8 (.aload_n 0) 1 9 := ⟨by decide +kernel, rfl⟩
theorem aX8_hope_9 : At cX8_hope 9 (.iconst 0) 1 10 := ⟨by decide +kernel, rfl⟩
theorem aX8_hope_10 : At cX8_hope 10 (.invokevirtual 62) 3 13 := ⟨by decide +kernel, rfl⟩
theorem aX8_hope_13 : At cX8_hope 13 (.ireturn) 1 14 := ⟨by decide +kernel, rfl⟩
theorem aX8_hope_14 : At cX8_hope 14 (.aload_n 0) 1 15 := ⟨by decide +kernel, rfl⟩
theorem aX8_hope_15 : At cX8_hope 15 (.getfield 10) 3 18 := ⟨by decide +kernel, rfl⟩
theorem aX8_hope_18 : At cX8_hope 18 (.getfield 73) 3 21 := ⟨by decide +kernel, rfl⟩
theorem aX8_hope_21 : At cX8_hope 21 (.iconst 4) 1 22 := ⟨by decide +kernel, rfl⟩
theorem aX8_hope_22 : Br cX8_hope 22 (.if_icmp .lt (9)) (9) 25 31 := ⟨by decide +kernel, rfl, by decide⟩
theorem aX8_hope_25 : At cX8_hope 25 (.aload_n 0) 1 26 := ⟨by decide +kernel, rfl⟩
theorem aX8_hope_26 : At cX8_hope 26 (.iconst 3) 1 27 := ⟨by decide +kernel, rfl⟩
theorem aX8_hope_27 : At cX8_hope 27 (.invokevirtual 62) 3 30 := ⟨by decide +kernel, rfl⟩
theorem aX8_hope_30 : At cX8_hope 30 (.ireturn) 1 31 := ⟨by decide +kernel, rfl⟩
theorem aX8_hope_31 : At cX8_hope 31 (.getstatic 198) 3 34 := ⟨by decide +kernel, rfl⟩
theorem aX8_hope_34 : At cX8_hope 34 (.aload_n 0) 1 35 := ⟨by decide +kernel, rfl⟩
theorem aX8_hope_35 : At cX8_hope 35 (.getfield 10) 3 38 := ⟨by decide +kernel, rfl⟩
theorem aX8_hope_38 : At cX8_hope 38 (.getfield 73) 3 41 := ⟨by decide +kernel, rfl⟩
theorem aX8_hope_41 : At cX8_hope 41 (.iaload) 1 42 := ⟨by decide +kernel, rfl⟩
theorem aX8_hope_42 : At cX8_hope 42 (.istore_n 2) 1 43 := ⟨by decide +kernel, rfl⟩
theorem aX8_hope_43 : At cX8_hope 43 (.iconst 0) 1 44 := ⟨by decide +kernel, rfl⟩
theorem aX8_hope_44 : At cX8_hope 44 (.istore_n 3) 1 45 := ⟨by decide +kernel, rfl⟩
theorem aX8_hope_45 : At cX8_hope 45 (.ldc2_w 201) 3 48 := ⟨by decide +kernel, rfl⟩
theorem aX8_hope_48 : At cX8_hope 48 (.lstore 4) 2 50 := ⟨by decide +kernel, rfl⟩
theorem aX8_hope_50 : At cX8_hope 50 (.iconst 0) 1 51 := ⟨by decide +kernel, rfl⟩
theorem aX8_hope_51 : At cX8_hope 51 (.istore 6) 2 53 := ⟨by decide +kernel, rfl⟩
theorem aX8_hope_53 : At cX8_hope 53 (.iload 6) 2 55 := ⟨by decide +kernel, rfl⟩
theorem aX8_hope_55 : At cX8_hope 55 (.bipush 6) 2 57 := ⟨by decide +kernel, rfl⟩
theorem aX8_hope_57 : Br cX8_hope 57 (.if_icmp .ge (51)) (51) 60 108 := ⟨by decide +kernel, rfl, by decide⟩
theorem aX8_hope_60 : At cX8_hope 60 (.aload_n 0) 1 61 := ⟨by decide +kernel, rfl⟩
theorem aX8_hope_61 : At cX8_hope 61 (.getfield 10) 3 64 := ⟨by decide +kernel, rfl⟩
theorem aX8_hope_64 : At cX8_hope 64 (.invokevirtual 84) 3 67 := ⟨by decide +kernel, rfl⟩
theorem aX8_hope_67 : At cX8_hope 67 (.iload 6) 2 69 := ⟨by decide +kernel, rfl⟩
theorem aX8_hope_69 : At cX8_hope 69 (.iload_n 2) 1 70 := ⟨by decide +kernel, rfl⟩
theorem aX8_hope_70 : At cX8_hope 70 (.imul) 1 71 := ⟨by decide +kernel, rfl⟩
theorem aX8_hope_71 : At cX8_hope 71 (.iadd) 1 72 := ⟨by decide +kernel, rfl⟩
theorem aX8_hope_72 : At cX8_hope 72 (.istore 7) 2 74 := ⟨by decide +kernel, rfl⟩
theorem aX8_hope_74 : At cX8_hope 74 (.aload_n 0) 1 75 := ⟨by decide +kernel, rfl⟩
theorem aX8_hope_75 : At cX8_hope 75 (.iload 7) 2 77 := ⟨by decide +kernel, rfl⟩
theorem aX8_hope_77 : At cX8_hope 77 (.iload 7) 2 79 := ⟨by decide +kernel, rfl⟩
theorem aX8_hope_79 : At cX8_hope 79 (.iload_n 2) 1 80 := ⟨by decide +kernel, rfl⟩
theorem aX8_hope_80 : At cX8_hope 80 (.iadd) 1 81 := ⟨by decide +kernel, rfl⟩
theorem aX8_hope_81 : At cX8_hope 81 (.iload_n 1) 1 82 := ⟨by decide +kernel, rfl⟩
theorem aX8_hope_82 : At cX8_hope 82 (.invokevirtual 194) 3 85 := ⟨by decide +kernel, rfl⟩
theorem aX8_hope_85 : At cX8_hope 85 (.lstore 8) 2 87 := ⟨by decide +kernel, rfl⟩
theorem aX8_hope_87 : At cX8_hope 87 (.lload 8) 2 89 := ⟨by decide +kernel, rfl⟩
theorem aX8_hope_89 : At cX8_hope 89 (.lload 4) 2 91 := ⟨by decide +kernel, rfl⟩
theorem aX8_hope_91 : At cX8_hope 91 (.lcmp) 1 92 := ⟨by decide +kernel, rfl⟩
theorem aX8_hope_92 : Br cX8_hope 92 (.ifCond .le (10)) (10) 95 102 := ⟨by decide +kernel, rfl, by decide⟩
theorem aX8_hope_95 : At cX8_hope 95 (.iload 6) 2 97 := ⟨by decide +kernel, rfl⟩
theorem aX8_hope_97 : At cX8_hope 97 (.istore_n 3) 1 98 := ⟨by decide +kernel, rfl⟩
theorem aX8_hope_98 : At cX8_hope 98 (.lload 8) 2 100 := ⟨by decide +kernel, rfl⟩
theorem aX8_hope_100 : At cX8_hope 100 (.lstore 4) 2 102 := ⟨by decide +kernel, rfl⟩
theorem aX8_hope_102 : At cX8_hope 102 (.iinc 6 1) 3 105 := ⟨by decide +kernel, rfl⟩
theorem aX8_hope_105 : Br cX8_hope 105 (.goto (-52)) (-52) 108 53 := ⟨by decide +kernel, rfl, by decide⟩
theorem aX8_hope_108 : At cX8_hope 108 (.iload_n 3) 1 109 := ⟨by decide +kernel, rfl⟩
theorem aX8_hope_109 : At cX8_hope 109 (.ireturn) 1 110 := ⟨by decide +kernel, rfl⟩
theorem aX8_rounds_0 : At cX8_rounds 0 (.iload_n 1) 1 1 := ⟨by decide +kernel, rfl⟩
theorem aX8_rounds_1 : At cX8_rounds 1 (.iconst 4) 1 2 := ⟨by decide +kernel, rfl⟩
theorem aX8_rounds_2 : At cX8_rounds 2 (.invokestatic 58) 3 5 := ⟨by decide +kernel, rfl⟩
theorem aX8_rounds_5 : Br cX8_rounds 5 (.ifCond .ne (14)) (14) 8 19 := ⟨by decide +kernel, rfl, by decide⟩
theorem aX8_rounds_8 : At cX8_rounds 8 (.aload_n 0) 1 9 := ⟨by decide +kernel, rfl⟩
theorem aX8_rounds_9 : At cX8_rounds 9 (.getfield 10) 3 12 := ⟨by decide +kernel, rfl⟩
theorem aX8_rounds_12 : At cX8_rounds 12 (.iload_n 2) 1 13 := ⟨by decide +kernel, rfl⟩
theorem aX8_rounds_13 : At cX8_rounds 13 (.invokevirtual 169) 3 16 := ⟨by decide +kernel, rfl⟩
theorem aX8_rounds_16 : Br cX8_rounds 16 (.ifCond .ne (9)) (9) 19 25 := ⟨by decide +kernel, rfl, by decide⟩
theorem aX8_rounds_19 : At cX8_rounds 19 (.aload_n 0) 1 20 := ⟨by decide +kernel, rfl⟩
theorem aX8_rounds_20 : At cX8_rounds 20 (.iconst 0) 1 21 := ⟨by decide +kernel, rfl⟩
theorem aX8_rounds_21 : At cX8_rounds 21 (.invokevirtual 62) 3 24 := ⟨by decide +kernel, rfl⟩
theorem aX8_rounds_24 : At cX8_rounds 24 (.ireturn) 1 25 := ⟨by decide +kernel, rfl⟩
theorem aX8_rounds_25 : At cX8_rounds 25 (.aload_n 0) 1 26 := ⟨by decide +kernel, rfl⟩
theorem aX8_rounds_26 : At cX8_rounds 26 (.getfield 36) 3 29 := ⟨by decide +kernel, rfl⟩
theorem aX8_rounds_29 : At cX8_rounds 29 (.iload_n 1) 1 30 := ⟨by decide +kernel, rfl⟩
theorem aX8_rounds_30 : At cX8_rounds 30 (.aaload) 1 31 := ⟨by decide +kernel, rfl⟩
theorem aX8_rounds_31 : At cX8_rounds 31 (.astore_n 3) 1 32 := ⟨by decide +kernel, rfl⟩
theorem aX8_rounds_32 : At cX8_rounds 32 (.aload_n 3) 1 33 := ⟨by decide +kernel, rfl⟩
theorem aX8_rounds_33 : At cX8_rounds 33 (.invokevirtual 203) 3 36 := ⟨by decide +kernel, rfl⟩
theorem aX8_rounds_36 : Br cX8_rounds 36 (.ifCond .eq (9)) (9) 39 45 := ⟨by decide +kernel, rfl, by decide⟩
theorem aX8_rounds_39 : At cX8_rounds 39 (.aload_n 0) 1 40 := ⟨by decide +kernel, rfl⟩
theorem aX8_rounds_40 : At cX8_rounds 40 (.iconst 5) 1 41 := ⟨by decide +kernel, rfl⟩
theorem aX8_rounds_41 : At cX8_rounds 41 (.invokevirtual 62) 3 44 := ⟨by decide +kernel, rfl⟩
theorem aX8_rounds_44 : At cX8_rounds 44 (.ireturn) 1 45 := ⟨by decide +kernel, rfl⟩
theorem aX8_rounds_45 : At cX8_rounds 45 (.aload_n 3) 1 46 := ⟨by decide +kernel, rfl⟩
theorem aX8_rounds_46 : At cX8_rounds 46 (.getfield 207) 3 49 := ⟨by decide +kernel, rfl⟩
theorem aX8_rounds_49 : At cX8_rounds 49 (.aload_n 0) 1 50 := ⟨by decide +kernel, rfl⟩
theorem aX8_rounds_50 : At cX8_rounds 50 (.getfield 10) 3 53 := ⟨by decide +kernel, rfl⟩
theorem aX8_rounds_53 : At cX8_rounds 53 (.getfield 101) 3 56 := ⟨by decide +kernel, rfl⟩
theorem aX8_rounds_56 : Br cX8_rounds 56 (.if_icmp .eq (10)) (10) 59 66 := ⟨by decide +kernel, rfl, by decide⟩
theorem aX8_rounds_59 : At cX8_rounds 59 (.aload_n 0) 1 60 := ⟨by decide +kernel, rfl⟩
theorem aX8_rounds_60 : At cX8_rounds 60 (.bipush 6) 2 62 := ⟨by decide +kernel, rfl⟩
theorem aX8_rounds_62 : At cX8_rounds 62 (.invokevirtual 62) 3 65 := ⟨by decide +kernel, rfl⟩
theorem aX8_rounds_65 : At cX8_rounds 65 (.ireturn) 1 66 := ⟨by decide +kernel, rfl⟩
theorem aX8_rounds_66 : At cX8_rounds 66 (.aload_n 0) 1 67 := ⟨by decide +kernel, rfl⟩
theorem aX8_rounds_67 : At cX8_rounds 67 (.aload_n 3) 1 68 := ⟨by decide +kernel, rfl⟩
theorem aX8_rounds_68 : At cX8_rounds 68 (.invokevirtual 208) 3 71 := ⟨by decide +kernel, rfl⟩
theorem aX8_rounds_71 : Br cX8_rounds 71 (.ifCond .ne (9)) (9) 74 80 := ⟨by decide +kernel, rfl, by decide⟩
theorem aX8_rounds_74 : At cX8_rounds 74 (.aload_n 0) 1 75 := ⟨by decide +kernel, rfl⟩
theorem aX8_rounds_75 : At cX8_rounds 75 (.iconst 4) 1 76 := ⟨by decide +kernel, rfl⟩
theorem aX8_rounds_76 : At cX8_rounds 76 (.invokevirtual 62) 3 79 := ⟨by decide +kernel, rfl⟩
theorem aX8_rounds_79 : At cX8_rounds 79 (.ireturn) 1 80 := ⟨by decide +kernel, rfl⟩
theorem aX8_rounds_80 : At cX8_rounds 80 (.aload_n 0) 1 81 := ⟨by decide +kernel, rfl⟩
theorem aX8_rounds_81 : At cX8_rounds 81 (.aload_n 3) 1 82 := ⟨by decide +kernel, rfl⟩
theorem aX8_rounds_82 : At cX8_rounds 82 (.iload_n 2) 1 83 := ⟨by decide +kernel, rfl⟩
theorem aX8_rounds_83 : At cX8_rounds 83 (.invokevirtual 212) 3 86 := ⟨by decide +kernel, rfl⟩
theorem aX8_rounds_86 : At cX8_rounds 86 (.ireturn) 1 87 := ⟨by decide +kernel, rfl⟩
theorem aX8_lays_0 : At cX8_lays 0 (.iload_n 1) 1 1 := ⟨by decide +kernel, rfl⟩
theorem aX8_lays_1 : At cX8_lays 1 (.iconst 4) 1 2 := ⟨by decide +kernel, rfl⟩
theorem aX8_lays_2 : At cX8_lays 2 (.invokestatic 58) 3 5 := ⟨by decide +kernel, rfl⟩
theorem aX8_lays_5 : Br cX8_lays 5 (.ifCond .ne (14)) (14) 8 19 := ⟨by decide +kernel, rfl, by decide⟩
theorem aX8_lays_8 : At cX8_lays 8 (.aload_n 0) 1 9 := ⟨by decide +kernel, rfl⟩
theorem aX8_lays_9 : At cX8_lays 9 (.getfield 10) 3 12 := ⟨by decide +kernel, rfl⟩
theorem aX8_lays_12 : At cX8_lays 12 (.iload_n 2) 1 13 := ⟨by decide +kernel, rfl⟩
theorem aX8_lays_13 : At cX8_lays 13 (.invokevirtual 169) 3 16 := ⟨by decide +kernel, rfl⟩
theorem aX8_lays_16 : Br cX8_lays 16 (.ifCond .ne (9)) (9) 19 25 := ⟨by decide +kernel, rfl, by decide⟩
theorem aX8_lays_19 : At cX8_lays 19 (.aload_n 0) 1 20 := ⟨by decide +kernel, rfl⟩
theorem aX8_lays_20 : At cX8_lays 20 (.iconst 0) 1 21 := ⟨by decide +kernel, rfl⟩
theorem aX8_lays_21 : At cX8_lays 21 (.invokevirtual 62) 3 24 := ⟨by decide +kernel, rfl⟩
theorem aX8_lays_24 : At cX8_lays 24 (.ireturn) 1 25 := ⟨by decide +kernel, rfl⟩
theorem aX8_lays_25 : At cX8_lays 25 (.aload_n 0) 1 26 := ⟨by decide +kernel, rfl⟩
theorem aX8_lays_26 : At cX8_lays 26 (.getfield 36) 3 29 := ⟨by decide +kernel, rfl⟩
theorem aX8_lays_29 : At cX8_lays 29 (.iload_n 1) 1 30 := ⟨by decide +kernel, rfl⟩
theorem aX8_lays_30 : At cX8_lays 30 (.aaload) 1 31 := ⟨by decide +kernel, rfl⟩
theorem aX8_lays_31 : At cX8_lays 31 (.astore_n 3) 1 32 := ⟨by decide +kernel, rfl⟩
theorem aX8_lays_32 : At cX8_lays 32 (.aload_n 3) 1 33 := ⟨by decide +kernel, rfl⟩
theorem aX8_lays_33 : At cX8_lays 33 (.invokevirtual 203) 3 36 := ⟨by decide +kernel, rfl⟩
theorem aX8_lays_36 : Br cX8_lays 36 (.ifCond .eq (9)) (9) 39 45 := ⟨by decide +kernel, rfl, by decide⟩
theorem aX8_lays_39 : At cX8_lays 39 (.aload_n 0) 1 40 := ⟨by decide +kernel, rfl⟩
theorem aX8_lays_40 : At cX8_lays 40 (.iconst 5) 1 41 := ⟨by decide +kernel, rfl⟩
theorem aX8_lays_41 : At cX8_lays 41 (.invokevirtual 62) 3 44 := ⟨by decide +kernel, rfl⟩
theorem aX8_lays_44 : At cX8_lays 44 (.ireturn) 1 45 := ⟨by decide +kernel, rfl⟩
theorem aX8_lays_45 : At cX8_lays 45 (.aload_n 3) 1 46 := ⟨by decide +kernel, rfl⟩
theorem aX8_lays_46 : At cX8_lays 46 (.getfield 207) 3 49 := ⟨by decide +kernel, rfl⟩
theorem aX8_lays_49 : At cX8_lays 49 (.bipush 12) 2 51 := ⟨by decide +kernel, rfl⟩
theorem aX8_lays_51 : At cX8_lays 51 (.invokestatic 216) 3 54 := ⟨by decide +kernel, rfl⟩
theorem aX8_lays_54 : At cX8_lays 54 (.istore 4) 2 56 := ⟨by decide +kernel, rfl⟩
theorem aX8_lays_56 : At cX8_lays 56 (.iconst 0) 1 57 := ⟨by decide +kernel, rfl⟩
theorem aX8_lays_57 : At cX8_lays 57 (.istore 5) 2 59 := ⟨by decide +kernel, rfl⟩
theorem aX8_lays_59 : At cX8_lays 59 (.iload 5) 2 61 := ⟨by decide +kernel, rfl⟩
theorem aX8_lays_61 : At cX8_lays 61 (.iload 4) 2 63 := ⟨by decide +kernel, rfl⟩
theorem aX8_lays_63 : Br cX8_lays 63 (.if_icmp .ge (26)) (26) 66 89 := ⟨by decide +kernel, rfl, by decide⟩
theorem aX8_lays_66 : At cX8_lays 66 (.aload_n 3) 1 67 := ⟨by decide +kernel, rfl⟩
theorem aX8_lays_67 : At cX8_lays 67 (.iload 5) 2 69 := ⟨by decide +kernel, rfl⟩
theorem aX8_lays_69 : At cX8_lays 69 (.aload_n 0) 1 70 := ⟨by decide +kernel, rfl⟩
theorem aX8_lays_70 : At cX8_lays 70 (.getfield 23) 3 73 := ⟨by decide +kernel, rfl⟩
theorem aX8_lays_73 : At cX8_lays 73 (.iload_n 2) 1 74 := ⟨by decide +kernel, rfl⟩
theorem aX8_lays_74 : At cX8_lays 74 (.iload 5) 2 76 := ⟨by decide +kernel, rfl⟩
theorem aX8_lays_76 : At cX8_lays 76 (.invokevirtual 172) 3 79 := ⟨by decide +kernel, rfl⟩
theorem aX8_lays_79 : At cX8_lays 79 (.i2l) 1 80 := ⟨by decide +kernel, rfl⟩
theorem aX8_lays_80 : At cX8_lays 80 (.invokevirtual 221) 3 83 := ⟨by decide +kernel, rfl⟩
theorem aX8_lays_83 : At cX8_lays 83 (.iinc 5 1) 3 86 := ⟨by decide +kernel, rfl⟩
theorem aX8_lays_86 : Br cX8_lays 86 (.goto (-27)) (-27) 89 59 := ⟨by decide +kernel, rfl, by decide⟩
theorem aX8_lays_89 : At cX8_lays 89 (.iload 4) 2 91 := ⟨by decide +kernel, rfl⟩
theorem aX8_lays_91 : At cX8_lays 91 (.ireturn) 1 92 := ⟨by decide +kernel, rfl⟩
theorem aX8_judge_0 : At cX8_judge 0 (.iload_n 1) 1 1 := ⟨by decide +kernel, rfl⟩
theorem aX8_judge_1 : At cX8_judge 1 (.iconst 4) 1 2 := ⟨by decide +kernel, rfl⟩
theorem aX8_judge_2 : At cX8_judge 2 (.invokestatic 58) 3 5 := ⟨by decide +kernel, rfl⟩
theorem aX8_judge_5 : Br cX8_judge 5 (.ifCond .ne (14)) (14) 8 19 := ⟨by decide +kernel, rfl, by decide⟩
theorem aX8_judge_8 : At cX8_judge 8 (.aload_n 0) 1 9 := ⟨by decide +kernel, rfl⟩
theorem aX8_judge_9 : At cX8_judge 9 (.getfield 10) 3 12 := ⟨by decide +kernel, rfl⟩
theorem aX8_judge_12 : At cX8_judge 12 (.iload_n 2) 1 13 := ⟨by decide +kernel, rfl⟩
theorem aX8_judge_13 : At cX8_judge 13 (.invokevirtual 169) 3 16 := ⟨by decide +kernel, rfl⟩
theorem aX8_judge_16 : Br cX8_judge 16 (.ifCond .ne (9)) (9) 19 25 := ⟨by decide +kernel, rfl, by decide⟩
theorem aX8_judge_19 : At cX8_judge 19 (.aload_n 0) 1 20 := ⟨by decide +kernel, rfl⟩
theorem aX8_judge_20 : At cX8_judge 20 (.iconst 0) 1 21 := ⟨by decide +kernel, rfl⟩
theorem aX8_judge_21 : At cX8_judge 21 (.invokevirtual 62) 3 24 := ⟨by decide +kernel, rfl⟩
theorem aX8_judge_24 : At cX8_judge 24 (.ireturn) 1 25 := ⟨by decide +kernel, rfl⟩
theorem aX8_judge_25 : At cX8_judge 25 (.aload_n 0) 1 26 := ⟨by decide +kernel, rfl⟩
theorem aX8_judge_26 : At cX8_judge 26 (.getfield 36) 3 29 := ⟨by decide +kernel, rfl⟩
theorem aX8_judge_29 : At cX8_judge 29 (.iload_n 1) 1 30 := ⟨by decide +kernel, rfl⟩
theorem aX8_judge_30 : At cX8_judge 30 (.aaload) 1 31 := ⟨by decide +kernel, rfl⟩
theorem aX8_judge_31 : At cX8_judge 31 (.astore_n 3) 1 32 := ⟨by decide +kernel, rfl⟩
theorem aX8_judge_32 : At cX8_judge 32 (.aload_n 3) 1 33 := ⟨by decide +kernel, rfl⟩
theorem aX8_judge_33 : At cX8_judge 33 (.invokevirtual 203) 3 36 := ⟨by decide +kernel, rfl⟩
theorem aX8_judge_36 : Br cX8_judge 36 (.ifCond .eq (9)) (9) 39 45 := ⟨by decide +kernel, rfl, by decide⟩
theorem aX8_judge_39 : At cX8_judge 39 (.aload_n 0) 1 40 := ⟨by decide +kernel, rfl⟩
theorem aX8_judge_40 : At cX8_judge 40 (.iconst 5) 1 41 := ⟨by decide +kernel, rfl⟩
theorem aX8_judge_41 : At cX8_judge 41 (.invokevirtual 62) 3 44 := ⟨by decide +kernel, rfl⟩
theorem aX8_judge_44 : At cX8_judge 44 (.ireturn) 1 45 := ⟨by decide +kernel, rfl⟩
theorem aX8_judge_45 : At cX8_judge 45 (.aload_n 3) 1 46 := ⟨by decide +kernel, rfl⟩
theorem aX8_judge_46 : At cX8_judge 46 (.getfield 207) 3 49 := ⟨by decide +kernel, rfl⟩
theorem aX8_judge_49 : At cX8_judge 49 (.bipush 12) 2 51 := ⟨by decide +kernel, rfl⟩
theorem aX8_judge_51 : At cX8_judge 51 (.invokestatic 216) 3 54 := ⟨by decide +kernel, rfl⟩
theorem aX8_judge_54 : At cX8_judge 54 (.istore 4) 2 56 := ⟨by decide +kernel, rfl⟩
theorem aX8_judge_56 : At cX8_judge 56 (.iconst 0) 1 57 := ⟨by decide +kernel, rfl⟩
theorem aX8_judge_57 : At cX8_judge 57 (.istore 5) 2 59 := ⟨by decide +kernel, rfl⟩
theorem aX8_judge_59 : At cX8_judge 59 (.iload 5) 2 61 := ⟨by decide +kernel, rfl⟩
theorem aX8_judge_61 : At cX8_judge 61 (.iload 4) 2 63 := ⟨by decide +kernel, rfl⟩
theorem aX8_judge_63 : Br cX8_judge 63 (.if_icmp .ge (36)) (36) 66 99 := ⟨by decide +kernel, rfl, by decide⟩
theorem aX8_judge_66 : At cX8_judge 66 (.aload_n 3) 1 67 := ⟨by decide +kernel, rfl⟩
theorem aX8_judge_67 : At cX8_judge 67 (.getfield 225) 3 70 := ⟨by decide +kernel, rfl⟩
theorem aX8_judge_70 : At cX8_judge 70 (.iload 5) 2 72 := ⟨by decide +kernel, rfl⟩
theorem aX8_judge_72 : At cX8_judge 72 (.laload) 1 73 := ⟨by decide +kernel, rfl⟩
theorem aX8_judge_73 : At cX8_judge 73 (.aload_n 0) 1 74 := ⟨by decide +kernel, rfl⟩
theorem aX8_judge_74 : At cX8_judge 74 (.getfield 23) 3 77 := ⟨by decide +kernel, rfl⟩
theorem aX8_judge_77 : At cX8_judge 77 (.iload_n 2) 1 78 := ⟨by decide +kernel, rfl⟩
theorem aX8_judge_78 : At cX8_judge 78 (.iload 5) 2 80 := ⟨by decide +kernel, rfl⟩
theorem aX8_judge_80 : At cX8_judge 80 (.invokevirtual 172) 3 83 := ⟨by decide +kernel, rfl⟩
theorem aX8_judge_83 : At cX8_judge 83 (.i2l) 1 84 := ⟨by decide +kernel, rfl⟩
theorem aX8_judge_84 : At cX8_judge 84 (.lcmp) 1 85 := ⟨by decide +kernel, rfl⟩
theorem aX8_judge_85 : Br cX8_judge 85 (.ifCond .eq (8)) (8) 88 93 := ⟨by decide +kernel, rfl, by decide⟩
theorem aX8_judge_88 : At cX8_judge 88 (.iconst 1) 1 89 := ⟨by decide +kernel, rfl⟩
theorem aX8_judge_89 : At cX8_judge 89 (.iload 5) 2 91 := ⟨by decide +kernel, rfl⟩
theorem aX8_judge_91 : At cX8_judge 91 (.iadd) 1 92 := ⟨by decide +kernel, rfl⟩
theorem aX8_judge_92 : At cX8_judge 92 (.ireturn) 1 93 := ⟨by decide +kernel, rfl⟩
theorem aX8_judge_93 : At cX8_judge 93 (.iinc 5 1) 3 96 := ⟨by decide +kernel, rfl⟩
theorem aX8_judge_96 : Br cX8_judge 96 (.goto (-37)) (-37) 99 59 := ⟨by decide +kernel, rfl, by decide⟩
theorem aX8_judge_99 : At cX8_judge 99 (.aload_n 3) 1 100 := ⟨by decide +kernel, rfl⟩
theorem aX8_judge_100 : At cX8_judge 100 (.getfield 207) 3 103 := ⟨by decide +kernel, rfl⟩
theorem aX8_judge_103 : At cX8_judge 103 (.bipush 12) 2 105 := ⟨by decide +kernel, rfl⟩
theorem aX8_judge_105 : Br cX8_judge 105 (.if_icmp .ne (7)) (7) 108 112 := ⟨by decide +kernel, rfl, by decide⟩
theorem aX8_judge_108 : At cX8_judge 108 (.iconst 0) 1 109 := ⟨by decide +kernel, rfl⟩
theorem aX8_judge_109 : Br cX8_judge 109 (.goto (7)) (7) 112 116 := ⟨by decide +kernel, rfl, by decide⟩
theorem aX8_judge_112 : At cX8_judge 112 (.iconst 1) 1 113 := ⟨by decide +kernel, rfl⟩
theorem aX8_judge_113 : At cX8_judge 113 (.iload 4) 2 115 := ⟨by decide +kernel, rfl⟩
theorem aX8_judge_115 : At cX8_judge 115 (.iadd) 1 116 := ⟨by decide +kernel, rfl⟩
theorem aX8_judge_116 : At cX8_judge 116 (.ireturn) 1 117 := ⟨by decide +kernel, rfl⟩
theorem aX8_sheet_0 : At cX8_sheet 0 (.iload_n 1) 1 1 := ⟨by decide +kernel, rfl⟩
theorem aX8_sheet_1 : At cX8_sheet 1 (.iconst 4) 1 2 := ⟨by decide +kernel, rfl⟩
theorem aX8_sheet_2 : At cX8_sheet 2 (.invokestatic 58) 3 5 := ⟨by decide +kernel, rfl⟩
theorem aX8_sheet_5 : Br cX8_sheet 5 (.ifCond .ne (13)) (13) 8 18 := ⟨by decide +kernel, rfl, by decide⟩
theorem aX8_sheet_8 : At cX8_sheet 8 (.iload_n 2) 1 9 := ⟨by decide +kernel, rfl⟩
theorem aX8_sheet_9 : At cX8_sheet 9 (.iconst (-1)) 1 10 := ⟨by decide +kernel, rfl⟩
theorem aX8_sheet_10 : Br cX8_sheet 10 (.if_icmp .lt (8)) (8) 13 18 := ⟨by decide +kernel, rfl, by decide⟩
theorem aX8_sheet_13 : At cX8_sheet 13 (.iload_n 2) 1 14 := ⟨by decide +kernel, rfl⟩
theorem aX8_sheet_14 : At cX8_sheet 14 (.iconst 2) 1 15 := ⟨by decide +kernel, rfl⟩
theorem aX8_sheet_15 : Br cX8_sheet 15 (.if_icmp .le (9)) (9) 18 24 := ⟨by decide +kernel, rfl, by decide⟩
theorem aX8_sheet_18 : At cX8_sheet 18 (.aload_n 0) 1 19 := ⟨by decide +kernel, rfl⟩
theorem aX8_sheet_19 : At cX8_sheet 19 (.iconst 0) 1 20 := ⟨by decide +kernel, rfl⟩
theorem aX8_sheet_20 : At cX8_sheet 20 (.invokevirtual 62) 3 23 := ⟨by decide +kernel, rfl⟩
theorem aX8_sheet_23 : At cX8_sheet 23 (.ireturn) 1 24 := ⟨by decide +kernel, rfl⟩
theorem aX8_sheet_24 : At cX8_sheet 24 (.iload_n 2) 1 25 := ⟨by decide +kernel, rfl⟩
theorem aX8_sheet_25 : At cX8_sheet 25 (.iconst (-1)) 1 26 := ⟨by decide +kernel, rfl⟩
theorem aX8_sheet_26 : Br cX8_sheet 26 (.if_icmp .ne (16)) (16) 29 42 := ⟨by decide +kernel, rfl, by decide⟩
theorem aX8_sheet_29 : At cX8_sheet 29 (.aload_n 0) 1 30 := ⟨by decide +kernel, rfl⟩
theorem aX8_sheet_30 : At cX8_sheet 30 (.getfield 36) 3 33 := ⟨by decide +kernel, rfl⟩
theorem aX8_sheet_33 : At cX8_sheet 33 (.iload_n 1) 1 34 := ⟨by decide +kernel, rfl⟩
theorem aX8_sheet_34 : At cX8_sheet 34 (.aaload) 1 35 := ⟨by decide +kernel, rfl⟩
theorem aX8_sheet_35 : At cX8_sheet 35 (.iconst (-1)) 1 36 := ⟨by decide +kernel, rfl⟩
theorem aX8_sheet_36 : At cX8_sheet 36 (.iconst 0) 1 37 := ⟨by decide +kernel, rfl⟩
theorem aX8_sheet_37 : At cX8_sheet 37 (.invokevirtual 233) 3 40 := ⟨by decide +kernel, rfl⟩
theorem aX8_sheet_40 : At cX8_sheet 40 (.iconst 0) 1 41 := ⟨by decide +kernel, rfl⟩
theorem aX8_sheet_41 : At cX8_sheet 41 (.ireturn) 1 42 := ⟨by decide +kernel, rfl⟩
theorem aX8_sheet_42 : At cX8_sheet 42 (.iload_n 3) 1 43 := ⟨by decide +kernel, rfl⟩
theorem aX8_sheet_43 : Br cX8_sheet 43 (.ifCond .ge (10)) (10) 46 53 := ⟨by decide +kernel, rfl, by decide⟩
theorem aX8_sheet_46 : At cX8_sheet 46 (.aload_n 0) 1 47 := ⟨by decide +kernel, rfl⟩
theorem aX8_sheet_47 : At cX8_sheet 47 (.bipush 6) 2 49 := ⟨by decide +kernel, rfl⟩
theorem aX8_sheet_49 : At cX8_sheet 49 (.invokevirtual 62) 3 52 := ⟨by decide +kernel, rfl⟩
theorem aX8_sheet_52 : At cX8_sheet 52 (.ireturn) 1 53 := ⟨by decide +kernel, rfl⟩
theorem aX8_sheet_53 : At cX8_sheet 53 (.iload_n 3) 1 54 := ⟨by decide +kernel, rfl⟩
theorem aX8_sheet_54 : At cX8_sheet 54 (.bipush 40) 2 56 := ⟨by decide +kernel, rfl⟩
theorem aX8_sheet_56 : Br cX8_sheet 56 (.if_icmp .le (9)) (9) 59 65 := ⟨by decide +kernel, rfl, by decide⟩
theorem aX8_sheet_59 : At cX8_sheet 59 (.aload_n 0) 1 60 := ⟨by decide +kernel, rfl⟩
theorem aX8_sheet_60 : At cX8_sheet 60 (.iconst 0) 1 61 := ⟨by decide +kernel, rfl⟩
theorem aX8_sheet_61 : At cX8_sheet 61 (.invokevirtual 62) 3 64 := ⟨by decide +kernel, rfl⟩
theorem aX8_sheet_64 : At cX8_sheet 64 (.ireturn) 1 65 := ⟨by decide +kernel, rfl⟩
theorem aX8_sheet_65 : At cX8_sheet 65 (.aload_n 0) 1 66 := ⟨by decide +kernel, rfl⟩
theorem aX8_sheet_66 : At cX8_sheet 66 (.getfield 36) 3 69 := ⟨by decide +kernel, rfl⟩
theorem aX8_sheet_69 : At cX8_sheet 69 (.iload_n 1) 1 70 := ⟨by decide +kernel, rfl⟩
theorem aX8_sheet_70 : At cX8_sheet 70 (.aaload) 1 71 := ⟨by decide +kernel, rfl⟩
theorem aX8_sheet_71 : At cX8_sheet 71 (.iload_n 2) 1 72 := ⟨by decide +kernel, rfl⟩
theorem aX8_sheet_72 : At cX8_sheet 72 (.iload_n 3) 1 73 := ⟨by decide +kernel, rfl⟩
theorem aX8_sheet_73 : At cX8_sheet 73 (.invokevirtual 233) 3 76 := ⟨by decide +kernel, rfl⟩
theorem aX8_sheet_76 : At cX8_sheet 76 (.iload_n 3) 1 77 := ⟨by decide +kernel, rfl⟩
theorem aX8_sheet_77 : At cX8_sheet 77 (.ireturn) 1 78 := ⟨by decide +kernel, rfl⟩
theorem aX8_write_0 : At cX8_write 0 (.iload_n 1) 1 1 := ⟨by decide +kernel, rfl⟩
theorem aX8_write_1 : At cX8_write 1 (.iconst 4) 1 2 := ⟨by decide +kernel, rfl⟩
theorem aX8_write_2 : At cX8_write 2 (.invokestatic 58) 3 5 := ⟨by decide +kernel, rfl⟩
theorem aX8_write_5 : Br cX8_write 5 (.ifCond .eq (9)) (9) 8 14 := ⟨by decide +kernel, rfl, by decide⟩
theorem aX8_write_8 : At cX8_write 8 (.aload_n 0) 1 9 := ⟨by decide +kernel, rfl⟩
theorem aX8_write_9 : At cX8_write 9 (.iconst 0) 1 10 := ⟨by decide +kernel, rfl⟩
theorem aX8_write_10 : At cX8_write 10 (.invokevirtual 62) 3 13 := ⟨by decide +kernel, rfl⟩
theorem aX8_write_13 : At cX8_write 13 (.ireturn) 1 14 := ⟨by decide +kernel, rfl⟩
theorem aX8_write_14 : At cX8_write 14 (.aload_n 0) 1 15 := ⟨by decide +kernel, rfl⟩
theorem aX8_write_15 : At cX8_write 15 (.getfield 36) 3 18 := ⟨by decide +kernel, rfl⟩
theorem aX8_write_18 : At cX8_write 18 (.iload_n 1) 1 19 := ⟨by decide +kernel, rfl⟩
theorem aX8_write_19 : At cX8_write 19 (.aaload) 1 20 := ⟨by decide +kernel, rfl⟩
theorem aX8_write_20 : At cX8_write 20 (.astore 5) 2 22 := ⟨by decide +kernel, rfl⟩
theorem aX8_write_22 : At cX8_write 22 (.aload 5) 2 24 := ⟨by decide +kernel, rfl⟩
theorem aX8_write_24 : At cX8_write 24 (.invokevirtual 203) 3 27 := ⟨by decide +kernel, rfl⟩
theorem aX8_write_27 : Br cX8_write 27 (.ifCond .eq (9)) (9) 30 36 := ⟨by decide +kernel, rfl, by decide⟩
theorem aX8_write_30 : At cX8_write 30 (.aload_n 0) 1 31 := ⟨by decide +kernel, rfl⟩
theorem aX8_write_31 : At cX8_write 31 (.iconst 5) 1 32 := ⟨by decide +kernel, rfl⟩
theorem aX8_write_32 : At cX8_write 32 (.invokevirtual 62) 3 35 := ⟨by decide +kernel, rfl⟩
theorem aX8_write_35 : At cX8_write 35 (.ireturn) 1 36 := ⟨by decide +kernel, rfl⟩
theorem aX8_write_36 : At cX8_write 36 (.iload_n 2) 1 37 := ⟨by decide +kernel, rfl⟩
theorem aX8_write_37 : At cX8_write 37 (.aload 5) 2 39 := ⟨by decide +kernel, rfl⟩
theorem aX8_write_39 : At cX8_write 39 (.getfield 207) 3 42 := ⟨by decide +kernel, rfl⟩
theorem aX8_write_42 : At cX8_write 42 (.invokestatic 58) 3 45 := ⟨by decide +kernel, rfl⟩
theorem aX8_write_45 : Br cX8_write 45 (.ifCond .eq (9)) (9) 48 54 := ⟨by decide +kernel, rfl, by decide⟩
theorem aX8_write_48 : At cX8_write 48 (.aload_n 0) 1 49 := ⟨by decide +kernel, rfl⟩
theorem aX8_write_49 : At cX8_write 49 (.iconst 0) 1 50 := ⟨by decide +kernel, rfl⟩
theorem aX8_write_50 : At cX8_write 50 (.invokevirtual 62) 3 53 := ⟨by decide +kernel, rfl⟩
theorem aX8_write_53 : At cX8_write 53 (.ireturn) 1 54 := ⟨by decide +kernel, rfl⟩
theorem aX8_write_54 : At cX8_write 54 (.aload 5) 2 56 := ⟨by decide +kernel, rfl⟩
theorem aX8_write_56 : At cX8_write 56 (.iload_n 2) 1 57 := ⟨by decide +kernel, rfl⟩
theorem aX8_write_57 : At cX8_write 57 (.lload_n 3) 1 58 := ⟨by decide +kernel, rfl⟩
theorem aX8_write_58 : At cX8_write 58 (.invokevirtual 221) 3 61 := ⟨by decide +kernel, rfl⟩
theorem aX8_write_61 : At cX8_write 61 (.iconst 1) 1 62 := ⟨by decide +kernel, rfl⟩
theorem aX8_write_62 : At cX8_write 62 (.ireturn) 1 63 := ⟨by decide +kernel, rfl⟩
theorem aX8_image_0 : At cX8_image 0 (.aload_n 0) 1 1 := ⟨by decide +kernel, rfl⟩
theorem aX8_image_1 : At cX8_image 1 (.getfield 254) 3 4 := ⟨by decide +kernel, rfl⟩
theorem aX8_image_4 : At cX8_image 4 (.bipush 6) 2 6 := ⟨by decide +kernel, rfl⟩
theorem aX8_image_6 : Br cX8_image 6 (.if_icmp .lt (9)) (9) 9 15 := ⟨by decide +kernel, rfl, by decide⟩
theorem aX8_image_9 : At cX8_image 9 (.aload_n 0) 1 10 := ⟨by decide +kernel, rfl⟩
theorem aX8_image_10 : At cX8_image 10 (.iconst 1) 1 11 := ⟨by decide +kernel, rfl⟩
theorem aX8_image_11 : At cX8_image 11 (.invokevirtual 62) 3 14 := ⟨by decide +kernel, rfl⟩
theorem aX8_image_14 : At cX8_image 14 (.ireturn) 1 15 := ⟨by decide +kernel, rfl⟩
theorem aX8_image_15 : At cX8_image 15 (.aload_n 0) 1 16 := ⟨by decide +kernel, rfl⟩
theorem aX8_image_16 : At cX8_image 16 (.getfield 16) 3 19 := ⟨by decide +kernel, rfl⟩
theorem aX8_image_19 : At cX8_image 19 (.aload_n 0) 1 20 := ⟨by decide +kernel, rfl⟩
theorem aX8_image_20 : At cX8_image 20 (.getfield 254) 3 23 := ⟨by decide +kernel, rfl⟩
theorem aX8_image_23 : At cX8_image 23 (.aaload) 1 24 := ⟨by decide +kernel, rfl⟩
theorem aX8_image_24 : At cX8_image 24 (.aload_n 0) 1 25 := ⟨by decide +kernel, rfl⟩
theorem aX8_image_25 : At cX8_image 25 (.getfield 10) 3 28 := ⟨by decide +kernel, rfl⟩
theorem aX8_image_28 : At cX8_image 28 (.invokevirtual 257) 3 31 := ⟨by decide +kernel, rfl⟩
theorem aX8_image_31 : At cX8_image 31 (.aload_n 0) 1 32 := ⟨by decide +kernel, rfl⟩
theorem aX8_image_32 : At cX8_image 32 (.dup) 1 33 := ⟨by decide +kernel, rfl⟩
theorem aX8_image_33 : At cX8_image 33 (.getfield 254) 3 36 := ⟨by decide +kernel, rfl⟩
theorem aX8_image_36 : At cX8_image 36 (.iconst 1) 1 37 := ⟨by decide +kernel, rfl⟩
theorem aX8_image_37 : At cX8_image 37 (.iadd) 1 38 := ⟨by decide +kernel, rfl⟩
theorem aX8_image_38 : At cX8_image 38 (.putfield 254) 3 41 := ⟨by decide +kernel, rfl⟩
theorem aX8_image_41 : At cX8_image 41 (.aload_n 0) 1 42 := ⟨by decide +kernel, rfl⟩
theorem aX8_image_42 : At cX8_image 42 (.getfield 254) 3 45 := ⟨by decide +kernel, rfl⟩
theorem aX8_image_45 : At cX8_image 45 (.ireturn) 1 46 := ⟨by decide +kernel, rfl⟩
theorem aX8_back_0 : At cX8_back 0 (.aload_n 0) 1 1 := ⟨by decide +kernel, rfl⟩
theorem aX8_back_1 : At cX8_back 1 (.getfield 254) 3 4 := ⟨by decide +kernel, rfl⟩
theorem aX8_back_4 : Br cX8_back 4 (.ifCond .gt (9)) (9) 7 13 := ⟨by decide +kernel, rfl, by decide⟩
theorem aX8_back_7 : At cX8_back 7 (.aload_n 0) 1 8 := ⟨by decide +kernel, rfl⟩
theorem aX8_back_8 : At cX8_back 8 (.iconst 3) 1 9 := ⟨by decide +kernel, rfl⟩
theorem aX8_back_9 : At cX8_back 9 (.invokevirtual 62) 3 12 := ⟨by decide +kernel, rfl⟩
theorem aX8_back_12 : At cX8_back 12 (.ireturn) 1 13 := ⟨by decide +kernel, rfl⟩
theorem aX8_back_13 : At cX8_back 13 (.aload_n 0) 1 14 := ⟨by decide +kernel, rfl⟩
theorem aX8_back_14 : At cX8_back 14 (.dup) 1 15 := ⟨by decide +kernel, rfl⟩
theorem aX8_back_15 : At cX8_back 15 (.getfield 254) 3 18 := ⟨by decide +kernel, rfl⟩
theorem aX8_back_18 : At cX8_back 18 (.iconst 1) 1 19 := ⟨by decide +kernel, rfl⟩
theorem aX8_back_19 : At cX8_back 19 (.isub) 1 20 := ⟨by decide +kernel, rfl⟩
theorem aX8_back_20 : At cX8_back 20 (.putfield 254) 3 23 := ⟨by decide +kernel, rfl⟩
theorem aX8_back_23 : At cX8_back 23 (.aload_n 0) 1 24 := ⟨by decide +kernel, rfl⟩
theorem aX8_back_24 : At cX8_back 24 (.getfield 10) 3 27 := ⟨by decide +kernel, rfl⟩
theorem aX8_back_27 : At cX8_back 27 (.aload_n 0) 1 28 := ⟨by decide +kernel, rfl⟩
theorem aX8_back_28 : At cX8_back 28 (.getfield 16) 3 31 := ⟨by decide +kernel, rfl⟩
theorem aX8_back_31 : At cX8_back 31 (.aload_n 0) 1 32 := ⟨by decide +kernel, rfl⟩
theorem aX8_back_32 : At cX8_back 32 (.getfield 254) 3 35 := ⟨by decide +kernel, rfl⟩
theorem aX8_back_35 : At cX8_back 35 (.aaload) 1 36 := ⟨by decide +kernel, rfl⟩
theorem aX8_back_36 : At cX8_back 36 (.invokevirtual 257) 3 39 := ⟨by decide +kernel, rfl⟩
theorem aX8_back_39 : At cX8_back 39 (.aload_n 0) 1 40 := ⟨by decide +kernel, rfl⟩
theorem aX8_back_40 : At cX8_back 40 (.invokevirtual 125) 3 43 := ⟨by decide +kernel, rfl⟩
theorem aX8_back_43 : At cX8_back 43 (.aload_n 0) 1 44 := ⟨by decide +kernel, rfl⟩
theorem aX8_back_44 : At cX8_back 44 (.getfield 10) 3 47 := ⟨by decide +kernel, rfl⟩
theorem aX8_back_47 : At cX8_back 47 (.getfield 101) 3 50 := ⟨by decide +kernel, rfl⟩
theorem aX8_back_50 : At cX8_back 50 (.ireturn) 1 51 := ⟨by decide +kernel, rfl⟩
theorem aX8_count_0 : At cX8_count 0 (.iload_n 1) 1 1 := ⟨by decide +kernel, rfl⟩
theorem aX8_count_1 : At cX8_count 1 (.tableswitch 96 0 6 #[43, 51, 59, 67, 72, 80, 91]) 43 44 := ⟨by decide +kernel, rfl⟩
theorem aX8_count_44 : At cX8_count 44 (.aload_n 0) 1 45 := ⟨by decide +kernel, rfl⟩
theorem aX8_count_45 : At cX8_count 45 (.getfield 10) 3 48 := ⟨by decide +kernel, rfl⟩
theorem aX8_count_48 : At cX8_count 48 (.getfield 101) 3 51 := ⟨by decide +kernel, rfl⟩
theorem aX8_count_51 : At cX8_count 51 (.ireturn) 1 52 := ⟨by decide +kernel, rfl⟩
theorem aX8_count_52 : At cX8_count 52 (.aload_n 0) 1 53 := ⟨by decide +kernel, rfl⟩
theorem aX8_count_53 : At cX8_count 53 (.getfield 10) 3 56 := ⟨by decide +kernel, rfl⟩
theorem aX8_count_56 : At cX8_count 56 (.getfield 73) 3 59 := ⟨by decide +kernel, rfl⟩
theorem aX8_count_59 : At cX8_count 59 (.ireturn) 1 60 := ⟨by decide +kernel, rfl⟩
theorem aX8_count_60 : At cX8_count 60 (.aload_n 0) 1 61 := ⟨by decide +kernel, rfl⟩
theorem aX8_count_61 : At cX8_count 61 (.getfield 10) 3 64 := ⟨by decide +kernel, rfl⟩
theorem aX8_count_64 : At cX8_count 64 (.invokevirtual 88) 3 67 := ⟨by decide +kernel, rfl⟩
theorem aX8_count_67 : At cX8_count 67 (.ireturn) 1 68 := ⟨by decide +kernel, rfl⟩
theorem aX8_count_68 : At cX8_count 68 (.aload_n 0) 1 69 := ⟨by decide +kernel, rfl⟩
theorem aX8_count_69 : At cX8_count 69 (.getfield 254) 3 72 := ⟨by decide +kernel, rfl⟩
theorem aX8_count_72 : At cX8_count 72 (.ireturn) 1 73 := ⟨by decide +kernel, rfl⟩
theorem aX8_count_73 : At cX8_count 73 (.aload_n 0) 1 74 := ⟨by decide +kernel, rfl⟩
theorem aX8_count_74 : At cX8_count 74 (.getfield 10) 3 77 := ⟨by decide +kernel, rfl⟩
theorem aX8_count_77 : At cX8_count 77 (.getfield 80) 3 80 := ⟨by decide +kernel, rfl⟩
theorem aX8_count_80 : At cX8_count 80 (.ireturn) 1 81 := ⟨by decide +kernel, rfl⟩
theorem aX8_count_81 : At cX8_count 81 (.aload_n 0) 1 82 := ⟨by decide +kernel, rfl⟩
theorem aX8_count_82 : At cX8_count 82 (.getfield 30) 3 85 := ⟨by decide +kernel, rfl⟩
theorem aX8_count_85 : At cX8_count 85 (.getfield 108) 3 88 := ⟨by decide +kernel, rfl⟩
theorem aX8_count_88 : At cX8_count 88 (.getfield 112) 3 91 := ⟨by decide +kernel, rfl⟩
theorem aX8_count_91 : At cX8_count 91 (.ireturn) 1 92 := ⟨by decide +kernel, rfl⟩
theorem aX8_count_92 : At cX8_count 92 (.aload_n 0) 1 93 := ⟨by decide +kernel, rfl⟩
theorem aX8_count_93 : At cX8_count 93 (.invokevirtual 260) 3 96 := ⟨by decide +kernel, rfl⟩
theorem aX8_count_96 : At cX8_count 96 (.ireturn) 1 97 := ⟨by decide +kernel, rfl⟩
theorem aX8_count_97 : At cX8_count 97 (.aload_n 0) 1 98 := ⟨by decide +kernel, rfl⟩
theorem aX8_count_98 : At cX8_count 98 (.iconst 0) 1 99 := ⟨by decide +kernel, rfl⟩
theorem aX8_count_99 : At cX8_count 99 (.invokevirtual 62) 3 102 := ⟨by decide +kernel, rfl⟩
theorem aX8_count_102 : At cX8_count 102 (.ireturn) 1 103 := ⟨by decide +kernel, rfl⟩
theorem aX8_isOutside_0 : At cX8_isOutside 0 (.iload_n 0) 1 1 := ⟨by decide +kernel, rfl⟩
theorem aX8_isOutside_1 : Br cX8_isOutside 1 (.ifCond .lt (8)) (8) 4 9 := ⟨by decide +kernel, rfl, by decide⟩
theorem aX8_isOutside_4 : At cX8_isOutside 4 (.iload_n 0) 1 5 := ⟨by decide +kernel, rfl⟩
theorem aX8_isOutside_5 : At cX8_isOutside 5 (.iload_n 1) 1 6 := ⟨by decide +kernel, rfl⟩
theorem aX8_isOutside_6 : Br cX8_isOutside 6 (.if_icmp .lt (7)) (7) 9 13 := ⟨by decide +kernel, rfl, by decide⟩
theorem aX8_isOutside_9 : At cX8_isOutside 9 (.iconst 1) 1 10 := ⟨by decide +kernel, rfl⟩
theorem aX8_isOutside_10 : Br cX8_isOutside 10 (.goto (4)) (4) 13 14 := ⟨by decide +kernel, rfl, by decide⟩
theorem aX8_isOutside_13 : At cX8_isOutside 13 (.iconst 0) 1 14 := ⟨by decide +kernel, rfl⟩
theorem aX8_isOutside_14 : At cX8_isOutside 14 (.ireturn) 1 15 := ⟨by decide +kernel, rfl⟩
theorem aX8_areNoPair_0 : At cX8_areNoPair 0 (.iload_n 0) 1 1 := ⟨by decide +kernel, rfl⟩
theorem aX8_areNoPair_1 : At cX8_areNoPair 1 (.iconst 3) 1 2 := ⟨by decide +kernel, rfl⟩
theorem aX8_areNoPair_2 : At cX8_areNoPair 2 (.invokestatic 58) 3 5 := ⟨by decide +kernel, rfl⟩
theorem aX8_areNoPair_5 : Br cX8_areNoPair 5 (.ifCond .ne (16)) (16) 8 21 := ⟨by decide +kernel, rfl, by decide⟩
theorem aX8_areNoPair_8 : At cX8_areNoPair 8 (.iload_n 1) 1 9 := ⟨by decide +kernel, rfl⟩
theorem aX8_areNoPair_9 : At cX8_areNoPair 9 (.iconst 3) 1 10 := ⟨by decide +kernel, rfl⟩
theorem aX8_areNoPair_10 : At cX8_areNoPair 10 (.invokestatic 58) 3 13 := ⟨by decide +kernel, rfl⟩
theorem aX8_areNoPair_13 : Br cX8_areNoPair 13 (.ifCond .ne (8)) (8) 16 21 := ⟨by decide +kernel, rfl, by decide⟩
theorem aX8_areNoPair_16 : At cX8_areNoPair 16 (.iload_n 0) 1 17 := ⟨by decide +kernel, rfl⟩
theorem aX8_areNoPair_17 : At cX8_areNoPair 17 (.iload_n 1) 1 18 := ⟨by decide +kernel, rfl⟩
theorem aX8_areNoPair_18 : Br cX8_areNoPair 18 (.if_icmp .ne (7)) (7) 21 25 := ⟨by decide +kernel, rfl, by decide⟩
theorem aX8_areNoPair_21 : At cX8_areNoPair 21 (.iconst 1) 1 22 := ⟨by decide +kernel, rfl⟩
theorem aX8_areNoPair_22 : Br cX8_areNoPair 22 (.goto (4)) (4) 25 26 := ⟨by decide +kernel, rfl, by decide⟩
theorem aX8_areNoPair_25 : At cX8_areNoPair 25 (.iconst 0) 1 26 := ⟨by decide +kernel, rfl⟩
theorem aX8_areNoPair_26 : At cX8_areNoPair 26 (.ireturn) 1 27 := ⟨by decide +kernel, rfl⟩
theorem aX8_placeUnder_0 : At cX8_placeUnder 0 (.iload_n 0) 1 1 := ⟨by decide +kernel, rfl⟩
theorem aX8_placeUnder_1 : At cX8_placeUnder 1 (.getstatic 198) 3 4 := ⟨by decide +kernel, rfl⟩
theorem aX8_placeUnder_4 : At cX8_placeUnder 4 (.iload_n 1) 1 5 := ⟨by decide +kernel, rfl⟩
theorem aX8_placeUnder_5 : At cX8_placeUnder 5 (.iconst 3) 1 6 := ⟨by decide +kernel, rfl⟩
theorem aX8_placeUnder_6 : At cX8_placeUnder 6 (.idiv) 1 7 := ⟨by decide +kernel, rfl⟩
theorem aX8_placeUnder_7 : At cX8_placeUnder 7 (.iaload) 1 8 := ⟨by decide +kernel, rfl⟩
theorem aX8_placeUnder_8 : At cX8_placeUnder 8 (.idiv) 1 9 := ⟨by decide +kernel, rfl⟩
theorem aX8_placeUnder_9 : At cX8_placeUnder 9 (.bipush 6) 2 11 := ⟨by decide +kernel, rfl⟩
theorem aX8_placeUnder_11 : At cX8_placeUnder 11 (.irem) 1 12 := ⟨by decide +kernel, rfl⟩
theorem aX8_placeUnder_12 : At cX8_placeUnder 12 (.istore_n 2) 1 13 := ⟨by decide +kernel, rfl⟩
theorem aX8_placeUnder_13 : At cX8_placeUnder 13 (.getstatic 263) 3 16 := ⟨by decide +kernel, rfl⟩
theorem aX8_placeUnder_16 : At cX8_placeUnder 16 (.iload_n 2) 1 17 := ⟨by decide +kernel, rfl⟩
theorem aX8_placeUnder_17 : At cX8_placeUnder 17 (.iconst 3) 1 18 := ⟨by decide +kernel, rfl⟩
theorem aX8_placeUnder_18 : At cX8_placeUnder 18 (.imul) 1 19 := ⟨by decide +kernel, rfl⟩
theorem aX8_placeUnder_19 : At cX8_placeUnder 19 (.iload_n 1) 1 20 := ⟨by decide +kernel, rfl⟩
theorem aX8_placeUnder_20 : At cX8_placeUnder 20 (.iconst 3) 1 21 := ⟨by decide +kernel, rfl⟩
theorem aX8_placeUnder_21 : At cX8_placeUnder 21 (.irem) 1 22 := ⟨by decide +kernel, rfl⟩
theorem aX8_placeUnder_22 : At cX8_placeUnder 22 (.iadd) 1 23 := ⟨by decide +kernel, rfl⟩
theorem aX8_placeUnder_23 : At cX8_placeUnder 23 (.iaload) 1 24 := ⟨by decide +kernel, rfl⟩
theorem aX8_placeUnder_24 : At cX8_placeUnder 24 (.ireturn) 1 25 := ⟨by decide +kernel, rfl⟩
theorem aX8_finding_0 : At cX8_finding 0 (.aload_n 0) 1 1 := ⟨by decide +kernel, rfl⟩
theorem aX8_finding_1 : At cX8_finding 1 (.getfield 50) 3 4 := ⟨by decide +kernel, rfl⟩
theorem aX8_finding_4 : At cX8_finding 4 (.iload_n 1) 1 5 := ⟨by decide +kernel, rfl⟩
theorem aX8_finding_5 : At cX8_finding 5 (.dup2) 1 6 := ⟨by decide +kernel, rfl⟩
theorem aX8_finding_6 : At cX8_finding 6 (.iaload) 1 7 := ⟨by decide +kernel, rfl⟩
theorem aX8_finding_7 : At cX8_finding 7 (.iconst 1) 1 8 := ⟨by decide +kernel, rfl⟩
theorem aX8_finding_8 : At cX8_finding 8 (.iadd) 1 9 := ⟨by decide +kernel, rfl⟩
theorem aX8_finding_9 : At cX8_finding 9 (.iastore) 1 10 := ⟨by decide +kernel, rfl⟩
theorem aX8_finding_10 : At cX8_finding 10 (.ldc_w 269) 3 13 := ⟨by decide +kernel, rfl⟩
theorem aX8_finding_13 : At cX8_finding 13 (.iload_n 1) 1 14 := ⟨by decide +kernel, rfl⟩
theorem aX8_finding_14 : At cX8_finding 14 (.isub) 1 15 := ⟨by decide +kernel, rfl⟩
theorem aX8_finding_15 : At cX8_finding 15 (.ireturn) 1 16 := ⟨by decide +kernel, rfl⟩
theorem aX8_longFinding_0 : At cX8_longFinding 0 (.aload_n 0) 1 1 := ⟨by decide +kernel, rfl⟩
theorem aX8_longFinding_1 : At cX8_longFinding 1 (.getfield 50) 3 4 := ⟨by decide +kernel, rfl⟩
theorem aX8_longFinding_4 : At cX8_longFinding 4 (.iload_n 1) 1 5 := ⟨by decide +kernel, rfl⟩
theorem aX8_longFinding_5 : At cX8_longFinding 5 (.dup2) 1 6 := ⟨by decide +kernel, rfl⟩
theorem aX8_longFinding_6 : At cX8_longFinding 6 (.iaload) 1 7 := ⟨by decide +kernel, rfl⟩
theorem aX8_longFinding_7 : At cX8_longFinding 7 (.iconst 1) 1 8 := ⟨by decide +kernel, rfl⟩
theorem aX8_longFinding_8 : At cX8_longFinding 8 (.iadd) 1 9 := ⟨by decide +kernel, rfl⟩
theorem aX8_longFinding_9 : At cX8_longFinding 9 (.iastore) 1 10 := ⟨by decide +kernel, rfl⟩
theorem aX8_longFinding_10 : At cX8_longFinding 10 (.ldc2_w 270) 3 13 := ⟨by decide +kernel, rfl⟩
theorem aX8_longFinding_13 : At cX8_longFinding 13 (.iload_n 1) 1 14 := ⟨by decide +kernel, rfl⟩
theorem aX8_longFinding_14 : At cX8_longFinding 14 (.i2l) 1 15 := ⟨by decide +kernel, rfl⟩
theorem aX8_longFinding_15 : At cX8_longFinding 15 (.lsub) 1 16 := ⟨by decide +kernel, rfl⟩
theorem aX8_longFinding_16 : At cX8_longFinding 16 (.lreturn) 1 17 := ⟨by decide +kernel, rfl⟩
theorem aX8_enter_0 : At cX8_enter 0 (.aload_n 1) 1 1 := ⟨by decide +kernel, rfl⟩
theorem aX8_enter_1 : At cX8_enter 1 (.getfield 140) 3 4 := ⟨by decide +kernel, rfl⟩
theorem aX8_enter_4 : At cX8_enter 4 (.iconst 3) 1 5 := ⟨by decide +kernel, rfl⟩
theorem aX8_enter_5 : At cX8_enter 5 (.idiv) 1 6 := ⟨by decide +kernel, rfl⟩
theorem aX8_enter_6 : At cX8_enter 6 (.aload_n 0) 1 7 := ⟨by decide +kernel, rfl⟩
theorem aX8_enter_7 : At cX8_enter 7 (.getfield 10) 3 10 := ⟨by decide +kernel, rfl⟩
theorem aX8_enter_10 : At cX8_enter 10 (.getfield 73) 3 13 := ⟨by decide +kernel, rfl⟩
theorem aX8_enter_13 : Br cX8_enter 13 (.if_icmp .ge (9)) (9) 16 22 := ⟨by decide +kernel, rfl, by decide⟩
theorem aX8_enter_16 : At cX8_enter 16 (.aload_n 0) 1 17 := ⟨by decide +kernel, rfl⟩
theorem aX8_enter_17 : At cX8_enter 17 (.iconst 3) 1 18 := ⟨by decide +kernel, rfl⟩
theorem aX8_enter_18 : At cX8_enter 18 (.invokevirtual 62) 3 21 := ⟨by decide +kernel, rfl⟩
theorem aX8_enter_21 : At cX8_enter 21 (.ireturn) 1 22 := ⟨by decide +kernel, rfl⟩
theorem aX8_enter_22 : At cX8_enter 22 (.aload_n 0) 1 23 := ⟨by decide +kernel, rfl⟩
theorem aX8_enter_23 : At cX8_enter 23 (.getfield 10) 3 26 := ⟨by decide +kernel, rfl⟩
theorem aX8_enter_26 : At cX8_enter 26 (.getfield 101) 3 29 := ⟨by decide +kernel, rfl⟩
theorem aX8_enter_29 : At cX8_enter 29 (.bipush 12) 2 31 := ⟨by decide +kernel, rfl⟩
theorem aX8_enter_31 : Br cX8_enter 31 (.if_icmp .lt (9)) (9) 34 40 := ⟨by decide +kernel, rfl, by decide⟩
theorem aX8_enter_34 : At cX8_enter 34 (.aload_n 0) 1 35 := ⟨by decide +kernel, rfl⟩
theorem aX8_enter_35 : At cX8_enter 35 (.iconst 1) 1 36 := ⟨by decide +kernel, rfl⟩
theorem aX8_enter_36 : At cX8_enter 36 (.invokevirtual 62) 3 39 := ⟨by decide +kernel, rfl⟩
theorem aX8_enter_39 : At cX8_enter 39 (.ireturn) 1 40 := ⟨by decide +kernel, rfl⟩
theorem aX8_enter_40 : At cX8_enter 40 (.aload_n 0) 1 41 := ⟨by decide +kernel, rfl⟩
theorem aX8_enter_41 : At cX8_enter 41 (.aload_n 1) 1 42 := ⟨by decide +kernel, rfl⟩
theorem aX8_enter_42 : At cX8_enter 42 (.invokevirtual 121) 3 45 := ⟨by decide +kernel, rfl⟩
theorem aX8_enter_45 : Br cX8_enter 45 (.ifCond .eq (15)) (15) 48 60 := ⟨by decide +kernel, rfl, by decide⟩
theorem aX8_enter_48 : At cX8_enter 48 (.aload_n 0) 1 49 := ⟨by decide +kernel, rfl⟩
theorem aX8_enter_49 : At cX8_enter 49 (.getfield 10) 3 52 := ⟨by decide +kernel, rfl⟩
theorem aX8_enter_52 : At cX8_enter 52 (.getfield 101) 3 55 := ⟨by decide +kernel, rfl⟩
theorem aX8_enter_55 : At cX8_enter 55 (.iconst 1) 1 56 := ⟨by decide +kernel, rfl⟩
theorem aX8_enter_56 : At cX8_enter 56 (.isub) 1 57 := ⟨by decide +kernel, rfl⟩
theorem aX8_enter_57 : Br cX8_enter 57 (.goto (8)) (8) 60 65 := ⟨by decide +kernel, rfl, by decide⟩
theorem aX8_enter_60 : At cX8_enter 60 (.aload_n 0) 1 61 := ⟨by decide +kernel, rfl⟩
theorem aX8_enter_61 : At cX8_enter 61 (.iconst 4) 1 62 := ⟨by decide +kernel, rfl⟩
theorem aX8_enter_62 : At cX8_enter 62 (.invokevirtual 62) 3 65 := ⟨by decide +kernel, rfl⟩
theorem aX8_enter_65 : At cX8_enter 65 (.ireturn) 1 66 := ⟨by decide +kernel, rfl⟩
theorem aX8_takes_0 : At cX8_takes 0 (.aload_n 1) 1 1 := ⟨by decide +kernel, rfl⟩
theorem aX8_takes_1 : Br cX8_takes 1 (.ifnull (15)) (15) 4 16 := ⟨by decide +kernel, rfl, by decide⟩
theorem aX8_takes_4 : At cX8_takes 4 (.aload_n 0) 1 5 := ⟨by decide +kernel, rfl⟩
theorem aX8_takes_5 : At cX8_takes 5 (.getfield 10) 3 8 := ⟨by decide +kernel, rfl⟩
theorem aX8_takes_8 : At cX8_takes 8 (.getfield 101) 3 11 := ⟨by decide +kernel, rfl⟩
theorem aX8_takes_11 : At cX8_takes 11 (.bipush 12) 2 13 := ⟨by decide +kernel, rfl⟩
theorem aX8_takes_13 : Br cX8_takes 13 (.if_icmp .lt (5)) (5) 16 18 := ⟨by decide +kernel, rfl, by decide⟩
theorem aX8_takes_16 : At cX8_takes 16 (.iconst 0) 1 17 := ⟨by decide +kernel, rfl⟩
theorem aX8_takes_17 : At cX8_takes 17 (.ireturn) 1 18 := ⟨by decide +kernel, rfl⟩
theorem aX8_takes_18 : At cX8_takes 18 (.aload_n 0) 1 19 := ⟨by decide +kernel, rfl⟩
theorem aX8_takes_19 : At cX8_takes 19 (.getfield 10) 3 22 := ⟨by decide +kernel, rfl⟩
theorem aX8_takes_22 : At cX8_takes 22 (.invokevirtual 84) 3 25 := ⟨by decide +kernel, rfl⟩
theorem aX8_takes_25 : At cX8_takes 25 (.istore_n 2) 1 26 := ⟨by decide +kernel, rfl⟩
theorem aX8_takes_26 : At cX8_takes 26 (.aload_n 0) 1 27 := ⟨by decide +kernel, rfl⟩
theorem aX8_takes_27 : At cX8_takes 27 (.getfield 10) 3 30 := ⟨by decide +kernel, rfl⟩
theorem aX8_takes_30 : At cX8_takes 30 (.invokevirtual 181) 3 33 := ⟨by decide +kernel, rfl⟩
theorem aX8_takes_33 : At cX8_takes 33 (.istore_n 3) 1 34 := ⟨by decide +kernel, rfl⟩
theorem aX8_takes_34 : At cX8_takes 34 (.iload_n 2) 1 35 := ⟨by decide +kernel, rfl⟩
theorem aX8_takes_35 : At cX8_takes 35 (.istore 4) 2 37 := ⟨by decide +kernel, rfl⟩
theorem aX8_takes_37 : At cX8_takes 37 (.iload 4) 2 39 := ⟨by decide +kernel, rfl⟩
theorem aX8_takes_39 : At cX8_takes 39 (.iload_n 3) 1 40 := ⟨by decide +kernel, rfl⟩
theorem aX8_takes_40 : Br cX8_takes 40 (.if_icmp .ge (21)) (21) 43 61 := ⟨by decide +kernel, rfl, by decide⟩
theorem aX8_takes_43 : At cX8_takes 43 (.aload_n 0) 1 44 := ⟨by decide +kernel, rfl⟩
theorem aX8_takes_44 : At cX8_takes 44 (.iload 4) 2 46 := ⟨by decide +kernel, rfl⟩
theorem aX8_takes_46 : At cX8_takes 46 (.aload_n 1) 1 47 := ⟨by decide +kernel, rfl⟩
theorem aX8_takes_47 : At cX8_takes 47 (.invokevirtual 272) 3 50 := ⟨by decide +kernel, rfl⟩
theorem aX8_takes_50 : Br cX8_takes 50 (.ifCond .eq (5)) (5) 53 55 := ⟨by decide +kernel, rfl, by decide⟩
theorem aX8_takes_53 : At cX8_takes 53 (.iconst 0) 1 54 := ⟨by decide +kernel, rfl⟩
theorem aX8_takes_54 : At cX8_takes 54 (.ireturn) 1 55 := ⟨by decide +kernel, rfl⟩
theorem aX8_takes_55 : At cX8_takes 55 (.iinc 4 1) 3 58 := ⟨by decide +kernel, rfl⟩
theorem aX8_takes_58 : Br cX8_takes 58 (.goto (-21)) (-21) 61 37 := ⟨by decide +kernel, rfl, by decide⟩
theorem aX8_takes_61 : At cX8_takes 61 (.aload_n 0) 1 62 := ⟨by decide +kernel, rfl⟩
theorem aX8_takes_62 : At cX8_takes 62 (.getfield 10) 3 65 := ⟨by decide +kernel, rfl⟩
theorem aX8_takes_65 : At cX8_takes 65 (.getfield 166) 3 68 := ⟨by decide +kernel, rfl⟩
theorem aX8_takes_68 : At cX8_takes 68 (.aload_n 0) 1 69 := ⟨by decide +kernel, rfl⟩
theorem aX8_takes_69 : At cX8_takes 69 (.getfield 10) 3 72 := ⟨by decide +kernel, rfl⟩
theorem aX8_takes_72 : At cX8_takes 72 (.getfield 101) 3 75 := ⟨by decide +kernel, rfl⟩
theorem aX8_takes_75 : At cX8_takes 75 (.aload_n 1) 1 76 := ⟨by decide +kernel, rfl⟩
theorem aX8_takes_76 : At cX8_takes 76 (.aastore) 1 77 := ⟨by decide +kernel, rfl⟩
theorem aX8_takes_77 : At cX8_takes 77 (.aload_n 0) 1 78 := ⟨by decide +kernel, rfl⟩
theorem aX8_takes_78 : At cX8_takes 78 (.getfield 10) 3 81 := ⟨by decide +kernel, rfl⟩
theorem aX8_takes_81 : At cX8_takes 81 (.dup) 1 82 := ⟨by decide +kernel, rfl⟩
theorem aX8_takes_82 : At cX8_takes 82 (.getfield 101) 3 85 := ⟨by decide +kernel, rfl⟩
theorem aX8_takes_85 : At cX8_takes 85 (.iconst 1) 1 86 := ⟨by decide +kernel, rfl⟩
theorem aX8_takes_86 : At cX8_takes 86 (.iadd) 1 87 := ⟨by decide +kernel, rfl⟩
theorem aX8_takes_87 : At cX8_takes 87 (.putfield 101) 3 90 := ⟨by decide +kernel, rfl⟩
theorem aX8_takes_90 : At cX8_takes 90 (.aload_n 0) 1 91 := ⟨by decide +kernel, rfl⟩
theorem aX8_takes_91 : At cX8_takes 91 (.getfield 23) 3 94 := ⟨by decide +kernel, rfl⟩
theorem aX8_takes_94 : At cX8_takes 94 (.aload_n 1) 1 95 := ⟨by decide +kernel, rfl⟩
theorem aX8_takes_95 : At cX8_takes 95 (.iload_n 2) 1 96 := ⟨by decide +kernel, rfl⟩
theorem aX8_takes_96 : At cX8_takes 96 (.iload_n 3) 1 97 := ⟨by decide +kernel, rfl⟩
theorem aX8_takes_97 : At cX8_takes 97 (.invokevirtual 276) 3 100 := ⟨by decide +kernel, rfl⟩
theorem aX8_takes_100 : At cX8_takes 100 (.iconst 1) 1 101 := ⟨by decide +kernel, rfl⟩
theorem aX8_takes_101 : At cX8_takes 101 (.ireturn) 1 102 := ⟨by decide +kernel, rfl⟩
theorem aX8_clashesUnder_0 : At cX8_clashesUnder 0 (.aload_n 2) 1 1 := ⟨by decide +kernel, rfl⟩
theorem aX8_clashesUnder_1 : At cX8_clashesUnder 1 (.iload_n 1) 1 2 := ⟨by decide +kernel, rfl⟩
theorem aX8_clashesUnder_2 : At cX8_clashesUnder 2 (.invokevirtual 160) 3 5 := ⟨by decide +kernel, rfl⟩
theorem aX8_clashesUnder_5 : At cX8_clashesUnder 5 (.istore_n 3) 1 6 := ⟨by decide +kernel, rfl⟩
theorem aX8_clashesUnder_6 : At cX8_clashesUnder 6 (.iload_n 3) 1 7 := ⟨by decide +kernel, rfl⟩
theorem aX8_clashesUnder_7 : Br cX8_clashesUnder 7 (.ifCond .ge (5)) (5) 10 12 := ⟨by decide +kernel, rfl, by decide⟩
theorem aX8_clashesUnder_10 : At cX8_clashesUnder 10 (.iconst 0) 1 11 := ⟨by decide +kernel, rfl⟩
theorem aX8_clashesUnder_11 : At cX8_clashesUnder 11 (.ireturn) 1 12 := ⟨by decide +kernel, rfl⟩
theorem aX8_clashesUnder_12 : At cX8_clashesUnder 12 (.aload_n 2) 1 13 := ⟨by decide +kernel, rfl⟩
theorem aX8_clashesUnder_13 : At cX8_clashesUnder 13 (.iload_n 1) 1 14 := ⟨by decide +kernel, rfl⟩
theorem aX8_clashesUnder_14 : At cX8_clashesUnder 14 (.invokevirtual 163) 3 17 := ⟨by decide +kernel, rfl⟩
theorem aX8_clashesUnder_17 : At cX8_clashesUnder 17 (.istore 4) 2 19 := ⟨by decide +kernel, rfl⟩
theorem aX8_clashesUnder_19 : At cX8_clashesUnder 19 (.aload_n 0) 1 20 := ⟨by decide +kernel, rfl⟩
theorem aX8_clashesUnder_20 : At cX8_clashesUnder 20 (.getfield 10) 3 23 := ⟨by decide +kernel, rfl⟩
theorem aX8_clashesUnder_23 : At cX8_clashesUnder 23 (.iload_n 1) 1 24 := ⟨by decide +kernel, rfl⟩
theorem aX8_clashesUnder_24 : At cX8_clashesUnder 24 (.iload_n 3) 1 25 := ⟨by decide +kernel, rfl⟩
theorem aX8_clashesUnder_25 : At cX8_clashesUnder 25 (.aload_n 2) 1 26 := ⟨by decide +kernel, rfl⟩
theorem aX8_clashesUnder_26 : At cX8_clashesUnder 26 (.getfield 134) 3 29 := ⟨by decide +kernel, rfl⟩
theorem aX8_clashesUnder_29 : At cX8_clashesUnder 29 (.aload_n 2) 1 30 := ⟨by decide +kernel, rfl⟩
theorem aX8_clashesUnder_30 : At cX8_clashesUnder 30 (.getfield 137) 3 33 := ⟨by decide +kernel, rfl⟩
theorem aX8_clashesUnder_33 : At cX8_clashesUnder 33 (.invokevirtual 280) 3 36 := ⟨by decide +kernel, rfl⟩
theorem aX8_clashesUnder_36 : At cX8_clashesUnder 36 (.istore 5) 2 38 := ⟨by decide +kernel, rfl⟩
theorem aX8_clashesUnder_38 : At cX8_clashesUnder 38 (.iload 4) 2 40 := ⟨by decide +kernel, rfl⟩
theorem aX8_clashesUnder_40 : Br cX8_clashesUnder 40 (.ifCond .ge (7)) (7) 43 47 := ⟨by decide +kernel, rfl, by decide⟩
theorem aX8_clashesUnder_43 : At cX8_clashesUnder 43 (.iconst (-1)) 1 44 := ⟨by decide +kernel, rfl⟩
theorem aX8_clashesUnder_44 : Br cX8_clashesUnder 44 (.goto (21)) (21) 47 65 := ⟨by decide +kernel, rfl, by decide⟩
theorem aX8_clashesUnder_47 : At cX8_clashesUnder 47 (.aload_n 0) 1 48 := ⟨by decide +kernel, rfl⟩
theorem aX8_clashesUnder_48 : At cX8_clashesUnder 48 (.getfield 10) 3 51 := ⟨by decide +kernel, rfl⟩
theorem aX8_clashesUnder_51 : At cX8_clashesUnder 51 (.iload_n 1) 1 52 := ⟨by decide +kernel, rfl⟩
theorem aX8_clashesUnder_52 : At cX8_clashesUnder 52 (.iload 4) 2 54 := ⟨by decide +kernel, rfl⟩
theorem aX8_clashesUnder_54 : At cX8_clashesUnder 54 (.aload_n 2) 1 55 := ⟨by decide +kernel, rfl⟩
theorem aX8_clashesUnder_55 : At cX8_clashesUnder 55 (.getfield 137) 3 58 := ⟨by decide +kernel, rfl⟩
theorem aX8_clashesUnder_58 : At cX8_clashesUnder 58 (.aload_n 2) 1 59 := ⟨by decide +kernel, rfl⟩
theorem aX8_clashesUnder_59 : At cX8_clashesUnder 59 (.getfield 134) 3 62 := ⟨by decide +kernel, rfl⟩
theorem aX8_clashesUnder_62 : At cX8_clashesUnder 62 (.invokevirtual 280) 3 65 := ⟨by decide +kernel, rfl⟩
theorem aX8_clashesUnder_65 : At cX8_clashesUnder 65 (.istore 6) 2 67 := ⟨by decide +kernel, rfl⟩
theorem aX8_clashesUnder_67 : At cX8_clashesUnder 67 (.iload 5) 2 69 := ⟨by decide +kernel, rfl⟩
theorem aX8_clashesUnder_69 : Br cX8_clashesUnder 69 (.ifCond .ge (10)) (10) 72 79 := ⟨by decide +kernel, rfl, by decide⟩
theorem aX8_clashesUnder_72 : At cX8_clashesUnder 72 (.iload 6) 2 74 := ⟨by decide +kernel, rfl⟩
theorem aX8_clashesUnder_74 : Br cX8_clashesUnder 74 (.ifCond .ge (5)) (5) 77 79 := ⟨by decide +kernel, rfl, by decide⟩
theorem aX8_clashesUnder_77 : At cX8_clashesUnder 77 (.iconst 0) 1 78 := ⟨by decide +kernel, rfl⟩
theorem aX8_clashesUnder_78 : At cX8_clashesUnder 78 (.ireturn) 1 79 := ⟨by decide +kernel, rfl⟩
theorem aX8_clashesUnder_79 : At cX8_clashesUnder 79 (.iload 5) 2 81 := ⟨by decide +kernel, rfl⟩
theorem aX8_clashesUnder_81 : Br cX8_clashesUnder 81 (.ifCond .lt (18)) (18) 84 99 := ⟨by decide +kernel, rfl, by decide⟩
theorem aX8_clashesUnder_84 : At cX8_clashesUnder 84 (.iload 6) 2 86 := ⟨by decide +kernel, rfl⟩
theorem aX8_clashesUnder_86 : Br cX8_clashesUnder 86 (.ifCond .lt (9)) (9) 89 95 := ⟨by decide +kernel, rfl, by decide⟩
theorem aX8_clashesUnder_89 : At cX8_clashesUnder 89 (.iload_n 3) 1 90 := ⟨by decide +kernel, rfl⟩
theorem aX8_clashesUnder_90 : At cX8_clashesUnder 90 (.iload 4) 2 92 := ⟨by decide +kernel, rfl⟩
theorem aX8_clashesUnder_92 : Br cX8_clashesUnder 92 (.if_icmp .ge (7)) (7) 95 99 := ⟨by decide +kernel, rfl, by decide⟩
theorem aX8_clashesUnder_95 : At cX8_clashesUnder 95 (.iconst 1) 1 96 := ⟨by decide +kernel, rfl⟩
theorem aX8_clashesUnder_96 : Br cX8_clashesUnder 96 (.goto (4)) (4) 99 100 := ⟨by decide +kernel, rfl, by decide⟩
theorem aX8_clashesUnder_99 : At cX8_clashesUnder 99 (.iconst 0) 1 100 := ⟨by decide +kernel, rfl⟩
theorem aX8_clashesUnder_100 : At cX8_clashesUnder 100 (.istore 7) 2 102 := ⟨by decide +kernel, rfl⟩
theorem aX8_clashesUnder_102 : At cX8_clashesUnder 102 (.aload_n 0) 1 103 := ⟨by decide +kernel, rfl⟩
theorem aX8_clashesUnder_103 : At cX8_clashesUnder 103 (.getfield 46) 3 106 := ⟨by decide +kernel, rfl⟩
theorem aX8_clashesUnder_106 : At cX8_clashesUnder 106 (.iconst 0) 1 107 := ⟨by decide +kernel, rfl⟩
theorem aX8_clashesUnder_107 : At cX8_clashesUnder 107 (.iload_n 1) 1 108 := ⟨by decide +kernel, rfl⟩
theorem aX8_clashesUnder_108 : At cX8_clashesUnder 108 (.iastore) 1 109 := ⟨by decide +kernel, rfl⟩
theorem aX8_clashesUnder_109 : At cX8_clashesUnder 109 (.aload_n 0) 1 110 := ⟨by decide +kernel, rfl⟩
theorem aX8_clashesUnder_110 : At cX8_clashesUnder 110 (.getfield 46) 3 113 := ⟨by decide +kernel, rfl⟩
theorem aX8_clashesUnder_113 : At cX8_clashesUnder 113 (.iconst 1) 1 114 := ⟨by decide +kernel, rfl⟩
theorem aX8_clashesUnder_114 : At cX8_clashesUnder 114 (.iload 7) 2 116 := ⟨by decide +kernel, rfl⟩
theorem aX8_clashesUnder_116 : Br cX8_clashesUnder 116 (.ifCond .eq (7)) (7) 119 123 := ⟨by decide +kernel, rfl, by decide⟩
theorem aX8_clashesUnder_119 : At cX8_clashesUnder 119 (.iload_n 3) 1 120 := ⟨by decide +kernel, rfl⟩
theorem aX8_clashesUnder_120 : Br cX8_clashesUnder 120 (.goto (5)) (5) 123 125 := ⟨by decide +kernel, rfl, by decide⟩
theorem aX8_clashesUnder_123 : At cX8_clashesUnder 123 (.iload 4) 2 125 := ⟨by decide +kernel, rfl⟩
theorem aX8_clashesUnder_125 : At cX8_clashesUnder 125 (.iastore) 1 126 := ⟨by decide +kernel, rfl⟩
theorem aX8_clashesUnder_126 : At cX8_clashesUnder 126 (.aload_n 0) 1 127 := ⟨by decide +kernel, rfl⟩
theorem aX8_clashesUnder_127 : At cX8_clashesUnder 127 (.getfield 46) 3 130 := ⟨by decide +kernel, rfl⟩
theorem aX8_clashesUnder_130 : At cX8_clashesUnder 130 (.iconst 2) 1 131 := ⟨by decide +kernel, rfl⟩
theorem aX8_clashesUnder_131 : At cX8_clashesUnder 131 (.iload 7) 2 133 := ⟨by decide +kernel, rfl⟩
theorem aX8_clashesUnder_133 : Br cX8_clashesUnder 133 (.ifCond .eq (8)) (8) 136 141 := ⟨by decide +kernel, rfl, by decide⟩
theorem aX8_clashesUnder_136 : At cX8_clashesUnder 136 (.iload 5) 2 138 := ⟨by decide +kernel, rfl⟩
theorem aX8_clashesUnder_138 : Br cX8_clashesUnder 138 (.goto (5)) (5) 141 143 := ⟨by decide +kernel, rfl, by decide⟩
theorem aX8_clashesUnder_141 : At cX8_clashesUnder 141 (.iload 6) 2 143 := ⟨by decide +kernel, rfl⟩
theorem aX8_clashesUnder_143 : At cX8_clashesUnder 143 (.iastore) 1 144 := ⟨by decide +kernel, rfl⟩
theorem aX8_clashesUnder_144 : At cX8_clashesUnder 144 (.iconst 1) 1 145 := ⟨by decide +kernel, rfl⟩
theorem aX8_clashesUnder_145 : At cX8_clashesUnder 145 (.ireturn) 1 146 := ⟨by decide +kernel, rfl⟩
theorem aX8_settleAll_0 : At cX8_settleAll 0 (.aload_n 0) 1 1 := ⟨by decide +kernel, rfl⟩
theorem aX8_settleAll_1 : At cX8_settleAll 1 (.getfield 10) 3 4 := ⟨by decide +kernel, rfl⟩
theorem aX8_settleAll_4 : At cX8_settleAll 4 (.invokevirtual 84) 3 7 := ⟨by decide +kernel, rfl⟩
theorem aX8_settleAll_7 : At cX8_settleAll 7 (.istore_n 1) 1 8 := ⟨by decide +kernel, rfl⟩
theorem aX8_settleAll_8 : At cX8_settleAll 8 (.aload_n 0) 1 9 := ⟨by decide +kernel, rfl⟩
theorem aX8_settleAll_9 : At cX8_settleAll 9 (.getfield 10) 3 12 := ⟨by decide +kernel, rfl⟩
theorem aX8_settleAll_12 : At cX8_settleAll 12 (.invokevirtual 181) 3 15 := ⟨by decide +kernel, rfl⟩
theorem aX8_settleAll_15 : At cX8_settleAll 15 (.istore_n 2) 1 16 := ⟨by decide +kernel, rfl⟩
theorem aX8_settleAll_16 : At cX8_settleAll 16 (.aload_n 0) 1 17 := ⟨by decide +kernel, rfl⟩
theorem aX8_settleAll_17 : At cX8_settleAll 17 (.getfield 23) 3 20 := ⟨by decide +kernel, rfl⟩
theorem aX8_settleAll_20 : At cX8_settleAll 20 (.iload_n 1) 1 21 := ⟨by decide +kernel, rfl⟩
theorem aX8_settleAll_21 : At cX8_settleAll 21 (.iload_n 2) 1 22 := ⟨by decide +kernel, rfl⟩
theorem aX8_settleAll_22 : At cX8_settleAll 22 (.invokevirtual 54) 3 25 := ⟨by decide +kernel, rfl⟩
theorem aX8_settleAll_25 : At cX8_settleAll 25 (.iconst 0) 1 26 := ⟨by decide +kernel, rfl⟩
theorem aX8_settleAll_26 : At cX8_settleAll 26 (.istore_n 3) 1 27 := ⟨by decide +kernel, rfl⟩
theorem aX8_settleAll_27 : At cX8_settleAll 27 (.iload_n 3) 1 28 := ⟨by decide +kernel, rfl⟩
theorem aX8_settleAll_28 : At cX8_settleAll 28 (.aload_n 0) 1 29 := ⟨by decide +kernel, rfl⟩
theorem aX8_settleAll_29 : At cX8_settleAll 29 (.getfield 10) 3 32 := ⟨by decide +kernel, rfl⟩
theorem aX8_settleAll_32 : At cX8_settleAll 32 (.getfield 101) 3 35 := ⟨by decide +kernel, rfl⟩
theorem aX8_settleAll_35 : Br cX8_settleAll 35 (.if_icmp .ge (26)) (26) 38 61 := ⟨by decide +kernel, rfl, by decide⟩
theorem aX8_settleAll_38 : At cX8_settleAll 38 (.aload_n 0) 1 39 := ⟨by decide +kernel, rfl⟩
theorem aX8_settleAll_39 : At cX8_settleAll 39 (.getfield 23) 3 42 := ⟨by decide +kernel, rfl⟩
theorem aX8_settleAll_42 : At cX8_settleAll 42 (.aload_n 0) 1 43 := ⟨by decide +kernel, rfl⟩
theorem aX8_settleAll_43 : At cX8_settleAll 43 (.getfield 10) 3 46 := ⟨by decide +kernel, rfl⟩
theorem aX8_settleAll_46 : At cX8_settleAll 46 (.iload_n 3) 1 47 := ⟨by decide +kernel, rfl⟩
theorem aX8_settleAll_47 : At cX8_settleAll 47 (.invokevirtual 128) 3 50 := ⟨by decide +kernel, rfl⟩
theorem aX8_settleAll_50 : At cX8_settleAll 50 (.iload_n 1) 1 51 := ⟨by decide +kernel, rfl⟩
theorem aX8_settleAll_51 : At cX8_settleAll 51 (.iload_n 2) 1 52 := ⟨by decide +kernel, rfl⟩
theorem aX8_settleAll_52 : At cX8_settleAll 52 (.invokevirtual 276) 3 55 := ⟨by decide +kernel, rfl⟩
theorem aX8_settleAll_55 : At cX8_settleAll 55 (.iinc 3 1) 3 58 := ⟨by decide +kernel, rfl⟩
theorem aX8_settleAll_58 : Br cX8_settleAll 58 (.goto (-31)) (-31) 61 27 := ⟨by decide +kernel, rfl, by decide⟩
theorem aX8_settleAll_61 : At cX8_settleAll 61 (.return_) 1 62 := ⟨by decide +kernel, rfl⟩
theorem aX8_countConveying_0 : At cX8_countConveying 0 (.iconst 0) 1 1 := ⟨by decide +kernel, rfl⟩
theorem aX8_countConveying_1 : At cX8_countConveying 1 (.istore_n 2) 1 2 := ⟨by decide +kernel, rfl⟩
theorem aX8_countConveying_2 : At cX8_countConveying 2 (.aload_n 0) 1 3 := ⟨by decide +kernel, rfl⟩
theorem aX8_countConveying_3 : At cX8_countConveying 3 (.getfield 10) 3 6 := ⟨by decide +kernel, rfl⟩
theorem aX8_countConveying_6 : At cX8_countConveying 6 (.invokevirtual 181) 3 9 := ⟨by decide +kernel, rfl⟩
theorem aX8_countConveying_9 : At cX8_countConveying 9 (.istore_n 3) 1 10 := ⟨by decide +kernel, rfl⟩
theorem aX8_countConveying_10 : At cX8_countConveying 10 (.aload_n 0) 1 11 := ⟨by decide +kernel, rfl⟩
theorem aX8_countConveying_11 : At cX8_countConveying 11 (.getfield 10) 3 14 := ⟨by decide +kernel, rfl⟩
theorem aX8_countConveying_14 : At cX8_countConveying 14 (.invokevirtual 84) 3 17 := ⟨by decide +kernel, rfl⟩
theorem aX8_countConveying_17 : At cX8_countConveying 17 (.istore 4) 2 19 := ⟨by decide +kernel, rfl⟩
theorem aX8_countConveying_19 : At cX8_countConveying 19 (.iload 4) 2 21 := ⟨by decide +kernel, rfl⟩
theorem aX8_countConveying_21 : At cX8_countConveying 21 (.iload_n 3) 1 22 := ⟨by decide +kernel, rfl⟩
theorem aX8_countConveying_22 : Br cX8_countConveying 22 (.if_icmp .ge (21)) (21) 25 43 := ⟨by decide +kernel, rfl, by decide⟩
theorem aX8_countConveying_25 : At cX8_countConveying 25 (.aload_n 1) 1 26 := ⟨by decide +kernel, rfl⟩
theorem aX8_countConveying_26 : At cX8_countConveying 26 (.iload 4) 2 28 := ⟨by decide +kernel, rfl⟩
theorem aX8_countConveying_28 : At cX8_countConveying 28 (.invokevirtual 160) 3 31 := ⟨by decide +kernel, rfl⟩
theorem aX8_countConveying_31 : Br cX8_countConveying 31 (.ifCond .lt (6)) (6) 34 37 := ⟨by decide +kernel, rfl, by decide⟩
theorem aX8_countConveying_34 : At cX8_countConveying 34 (.iinc 2 1) 3 37 := ⟨by decide +kernel, rfl⟩
theorem aX8_countConveying_37 : At cX8_countConveying 37 (.iinc 4 1) 3 40 := ⟨by decide +kernel, rfl⟩
theorem aX8_countConveying_40 : Br cX8_countConveying 40 (.goto (-21)) (-21) 43 19 := ⟨by decide +kernel, rfl, by decide⟩
theorem aX8_countConveying_43 : At cX8_countConveying 43 (.iload_n 2) 1 44 := ⟨by decide +kernel, rfl⟩
theorem aX8_countConveying_44 : At cX8_countConveying 44 (.ireturn) 1 45 := ⟨by decide +kernel, rfl⟩
theorem aX8_everOwners_0 : At cX8_everOwners 0 (.iconst 0) 1 1 := ⟨by decide +kernel, rfl⟩
theorem aX8_everOwners_1 : At cX8_everOwners 1 (.istore_n 2) 1 2 := ⟨by decide +kernel, rfl⟩
theorem aX8_everOwners_2 : At cX8_everOwners 2 (.aload_n 0) 1 3 := ⟨by decide +kernel, rfl⟩
theorem aX8_everOwners_3 : At cX8_everOwners 3 (.getfield 10) 3 6 := ⟨by decide +kernel, rfl⟩
theorem aX8_everOwners_6 : At cX8_everOwners 6 (.invokevirtual 181) 3 9 := ⟨by decide +kernel, rfl⟩
theorem aX8_everOwners_9 : At cX8_everOwners 9 (.istore_n 3) 1 10 := ⟨by decide +kernel, rfl⟩
theorem aX8_everOwners_10 : At cX8_everOwners 10 (.aload_n 0) 1 11 := ⟨by decide +kernel, rfl⟩
theorem aX8_everOwners_11 : At cX8_everOwners 11 (.getfield 10) 3 14 := ⟨by decide +kernel, rfl⟩
theorem aX8_everOwners_14 : At cX8_everOwners 14 (.invokevirtual 84) 3 17 := ⟨by decide +kernel, rfl⟩
theorem aX8_everOwners_17 : At cX8_everOwners 17 (.istore 4) 2 19 := ⟨by decide +kernel, rfl⟩
theorem aX8_everOwners_19 : At cX8_everOwners 19 (.iload 4) 2 21 := ⟨by decide +kernel, rfl⟩
theorem aX8_everOwners_21 : At cX8_everOwners 21 (.iload_n 3) 1 22 := ⟨by decide +kernel, rfl⟩
theorem aX8_everOwners_22 : Br cX8_everOwners 22 (.if_icmp .ge (24)) (24) 25 46 := ⟨by decide +kernel, rfl, by decide⟩
theorem aX8_everOwners_25 : At cX8_everOwners 25 (.iload_n 2) 1 26 := ⟨by decide +kernel, rfl⟩
theorem aX8_everOwners_26 : At cX8_everOwners 26 (.iconst 1) 1 27 := ⟨by decide +kernel, rfl⟩
theorem aX8_everOwners_27 : At cX8_everOwners 27 (.aload_n 0) 1 28 := ⟨by decide +kernel, rfl⟩
theorem aX8_everOwners_28 : At cX8_everOwners 28 (.getfield 23) 3 31 := ⟨by decide +kernel, rfl⟩
theorem aX8_everOwners_31 : At cX8_everOwners 31 (.iload 4) 2 33 := ⟨by decide +kernel, rfl⟩
theorem aX8_everOwners_33 : At cX8_everOwners 33 (.iload_n 1) 1 34 := ⟨by decide +kernel, rfl⟩
theorem aX8_everOwners_34 : At cX8_everOwners 34 (.invokevirtual 172) 3 37 := ⟨by decide +kernel, rfl⟩
theorem aX8_everOwners_37 : At cX8_everOwners 37 (.ishl) 1 38 := ⟨by decide +kernel, rfl⟩
theorem aX8_everOwners_38 : At cX8_everOwners 38 (.ior) 1 39 := ⟨by decide +kernel, rfl⟩
theorem aX8_everOwners_39 : At cX8_everOwners 39 (.istore_n 2) 1 40 := ⟨by decide +kernel, rfl⟩
theorem aX8_everOwners_40 : At cX8_everOwners 40 (.iinc 4 1) 3 43 := ⟨by decide +kernel, rfl⟩
theorem aX8_everOwners_43 : Br cX8_everOwners 43 (.goto (-24)) (-24) 46 19 := ⟨by decide +kernel, rfl, by decide⟩
theorem aX8_everOwners_46 : At cX8_everOwners 46 (.iload_n 2) 1 47 := ⟨by decide +kernel, rfl⟩
theorem aX8_everOwners_47 : At cX8_everOwners 47 (.ireturn) 1 48 := ⟨by decide +kernel, rfl⟩
theorem aX8_worthUnder_0 : At cX8_worthUnder 0 (.iconst 0) 1 1 := ⟨by decide +kernel, rfl⟩
theorem aX8_worthUnder_1 : At cX8_worthUnder 1 (.istore_n 3) 1 2 := ⟨by decide +kernel, rfl⟩
theorem aX8_worthUnder_2 : At cX8_worthUnder 2 (.iconst 0) 1 3 := ⟨by decide +kernel, rfl⟩
theorem aX8_worthUnder_3 : At cX8_worthUnder 3 (.istore 4) 2 5 := ⟨by decide +kernel, rfl⟩
theorem aX8_worthUnder_5 : At cX8_worthUnder 5 (.iload 4) 2 7 := ⟨by decide +kernel, rfl⟩
theorem aX8_worthUnder_7 : At cX8_worthUnder 7 (.bipush 12) 2 9 := ⟨by decide +kernel, rfl⟩
theorem aX8_worthUnder_9 : Br cX8_worthUnder 9 (.if_icmp .ge (40)) (40) 12 49 := ⟨by decide +kernel, rfl, by decide⟩
theorem aX8_worthUnder_12 : At cX8_worthUnder 12 (.aload_n 0) 1 13 := ⟨by decide +kernel, rfl⟩
theorem aX8_worthUnder_13 : At cX8_worthUnder 13 (.getfield 23) 3 16 := ⟨by decide +kernel, rfl⟩
theorem aX8_worthUnder_16 : At cX8_worthUnder 16 (.iload_n 1) 1 17 := ⟨by decide +kernel, rfl⟩
theorem aX8_worthUnder_17 : At cX8_worthUnder 17 (.iload 4) 2 19 := ⟨by decide +kernel, rfl⟩
theorem aX8_worthUnder_19 : At cX8_worthUnder 19 (.invokevirtual 172) 3 22 := ⟨by decide +kernel, rfl⟩
theorem aX8_worthUnder_22 : At cX8_worthUnder 22 (.iload_n 2) 1 23 := ⟨by decide +kernel, rfl⟩
theorem aX8_worthUnder_23 : Br cX8_worthUnder 23 (.if_icmp .ne (20)) (20) 26 43 := ⟨by decide +kernel, rfl, by decide⟩
theorem aX8_worthUnder_26 : At cX8_worthUnder 26 (.iload_n 3) 1 27 := ⟨by decide +kernel, rfl⟩
theorem aX8_worthUnder_27 : At cX8_worthUnder 27 (.aload_n 0) 1 28 := ⟨by decide +kernel, rfl⟩
theorem aX8_worthUnder_28 : At cX8_worthUnder 28 (.getfield 10) 3 31 := ⟨by decide +kernel, rfl⟩
theorem aX8_worthUnder_31 : At cX8_worthUnder 31 (.getfield 184) 3 34 := ⟨by decide +kernel, rfl⟩
theorem aX8_worthUnder_34 : At cX8_worthUnder 34 (.iload_n 1) 1 35 := ⟨by decide +kernel, rfl⟩
theorem aX8_worthUnder_35 : At cX8_worthUnder 35 (.iload 4) 2 37 := ⟨by decide +kernel, rfl⟩
theorem aX8_worthUnder_37 : At cX8_worthUnder 37 (.invokestatic 69) 3 40 := ⟨by decide +kernel, rfl⟩
theorem aX8_worthUnder_40 : At cX8_worthUnder 40 (.iaload) 1 41 := ⟨by decide +kernel, rfl⟩
theorem aX8_worthUnder_41 : At cX8_worthUnder 41 (.iadd) 1 42 := ⟨by decide +kernel, rfl⟩
theorem aX8_worthUnder_42 : At cX8_worthUnder 42 (.istore_n 3) 1 43 := ⟨by decide +kernel, rfl⟩
theorem aX8_worthUnder_43 : At cX8_worthUnder 43 (.iinc 4 1) 3 46 := ⟨by decide +kernel, rfl⟩
theorem aX8_worthUnder_46 : Br cX8_worthUnder 46 (.goto (-41)) (-41) 49 5 := ⟨by decide +kernel, rfl, by decide⟩
theorem aX8_worthUnder_49 : At cX8_worthUnder 49 (.iload_n 3) 1 50 := ⟨by decide +kernel, rfl⟩
theorem aX8_worthUnder_50 : At cX8_worthUnder 50 (.ireturn) 1 51 := ⟨by decide +kernel, rfl⟩
theorem aX8_worthOver_0 : At cX8_worthOver 0 (.lconst 0) 1 1 := ⟨by decide +kernel, rfl⟩
theorem aX8_worthOver_1 : At cX8_worthOver 1 (.lstore 4) 2 3 := ⟨by decide +kernel, rfl⟩
theorem aX8_worthOver_3 : At cX8_worthOver 3 (.iload_n 1) 1 4 := ⟨by decide +kernel, rfl⟩
theorem aX8_worthOver_4 : At cX8_worthOver 4 (.istore 6) 2 6 := ⟨by decide +kernel, rfl⟩
theorem aX8_worthOver_6 : At cX8_worthOver 6 (.iload 6) 2 8 := ⟨by decide +kernel, rfl⟩
theorem aX8_worthOver_8 : At cX8_worthOver 8 (.iload_n 2) 1 9 := ⟨by decide +kernel, rfl⟩
theorem aX8_worthOver_9 : Br cX8_worthOver 9 (.if_icmp .ge (22)) (22) 12 31 := ⟨by decide +kernel, rfl, by decide⟩
theorem aX8_worthOver_12 : At cX8_worthOver 12 (.lload 4) 2 14 := ⟨by decide +kernel, rfl⟩
theorem aX8_worthOver_14 : At cX8_worthOver 14 (.aload_n 0) 1 15 := ⟨by decide +kernel, rfl⟩
theorem aX8_worthOver_15 : At cX8_worthOver 15 (.iload 6) 2 17 := ⟨by decide +kernel, rfl⟩
theorem aX8_worthOver_17 : At cX8_worthOver 17 (.iload_n 3) 1 18 := ⟨by decide +kernel, rfl⟩
theorem aX8_worthOver_18 : At cX8_worthOver 18 (.invokevirtual 187) 3 21 := ⟨by decide +kernel, rfl⟩
theorem aX8_worthOver_21 : At cX8_worthOver 21 (.i2l) 1 22 := ⟨by decide +kernel, rfl⟩
theorem aX8_worthOver_22 : At cX8_worthOver 22 (.ladd) 1 23 := ⟨by decide +kernel, rfl⟩
theorem aX8_worthOver_23 : At cX8_worthOver 23 (.lstore 4) 2 25 := ⟨by decide +kernel, rfl⟩
theorem aX8_worthOver_25 : At cX8_worthOver 25 (.iinc 6 1) 3 28 := ⟨by decide +kernel, rfl⟩
theorem aX8_worthOver_28 : Br cX8_worthOver 28 (.goto (-22)) (-22) 31 6 := ⟨by decide +kernel, rfl, by decide⟩
theorem aX8_worthOver_31 : At cX8_worthOver 31 (.lload 4) 2 33 := ⟨by decide +kernel, rfl⟩
theorem aX8_worthOver_33 : At cX8_worthOver 33 (.lreturn) 1 34 := ⟨by decide +kernel, rfl⟩
theorem aX8_tellsEachDeal_0 : At cX8_tellsEachDeal 0 (.iconst 0) 1 1 := ⟨by decide +kernel, rfl⟩
theorem aX8_tellsEachDeal_1 : At cX8_tellsEachDeal 1 (.istore_n 2) 1 2 := ⟨by decide +kernel, rfl⟩
theorem aX8_tellsEachDeal_2 : At cX8_tellsEachDeal 2 (.iconst 0) 1 3 := ⟨by decide +kernel, rfl⟩
theorem aX8_tellsEachDeal_3 : At cX8_tellsEachDeal 3 (.istore_n 3) 1 4 := ⟨by decide +kernel, rfl⟩
theorem aX8_tellsEachDeal_4 : At cX8_tellsEachDeal 4 (.iload_n 3) 1 5 := ⟨by decide +kernel, rfl⟩
theorem aX8_tellsEachDeal_5 : At cX8_tellsEachDeal 5 (.aload_n 1) 1 6 := ⟨by decide +kernel, rfl⟩
theorem aX8_tellsEachDeal_6 : At cX8_tellsEachDeal 6 (.getfield 207) 3 9 := ⟨by decide +kernel, rfl⟩
theorem aX8_tellsEachDeal_9 : Br cX8_tellsEachDeal 9 (.if_icmp .ge (58)) (58) 12 67 := ⟨by decide +kernel, rfl, by decide⟩
theorem aX8_tellsEachDeal_12 : At cX8_tellsEachDeal 12 (.aload_n 1) 1 13 := ⟨by decide +kernel, rfl⟩
theorem aX8_tellsEachDeal_13 : At cX8_tellsEachDeal 13 (.getfield 225) 3 16 := ⟨by decide +kernel, rfl⟩
theorem aX8_tellsEachDeal_16 : At cX8_tellsEachDeal 16 (.iload_n 3) 1 17 := ⟨by decide +kernel, rfl⟩
theorem aX8_tellsEachDeal_17 : At cX8_tellsEachDeal 17 (.laload) 1 18 := ⟨by decide +kernel, rfl⟩
theorem aX8_tellsEachDeal_18 : At cX8_tellsEachDeal 18 (.lstore 4) 2 20 := ⟨by decide +kernel, rfl⟩
theorem aX8_tellsEachDeal_20 : At cX8_tellsEachDeal 20 (.lload 4) 2 22 := ⟨by decide +kernel, rfl⟩
theorem aX8_tellsEachDeal_22 : At cX8_tellsEachDeal 22 (.lconst 0) 1 23 := ⟨by decide +kernel, rfl⟩
theorem aX8_tellsEachDeal_23 : At cX8_tellsEachDeal 23 (.lcmp) 1 24 := ⟨by decide +kernel, rfl⟩
theorem aX8_tellsEachDeal_24 : Br cX8_tellsEachDeal 24 (.ifCond .lt (27)) (27) 27 51 := ⟨by decide +kernel, rfl, by decide⟩
theorem aX8_tellsEachDeal_27 : At cX8_tellsEachDeal 27 (.lload 4) 2 29 := ⟨by decide +kernel, rfl⟩
theorem aX8_tellsEachDeal_29 : At cX8_tellsEachDeal 29 (.aload_n 0) 1 30 := ⟨by decide +kernel, rfl⟩
theorem aX8_tellsEachDeal_30 : At cX8_tellsEachDeal 30 (.getfield 10) 3 33 := ⟨by decide +kernel, rfl⟩
theorem aX8_tellsEachDeal_33 : At cX8_tellsEachDeal 33 (.getfield 101) 3 36 := ⟨by decide +kernel, rfl⟩
theorem aX8_tellsEachDeal_36 : At cX8_tellsEachDeal 36 (.i2l) 1 37 := ⟨by decide +kernel, rfl⟩
theorem aX8_tellsEachDeal_37 : At cX8_tellsEachDeal 37 (.lcmp) 1 38 := ⟨by decide +kernel, rfl⟩
theorem aX8_tellsEachDeal_38 : Br cX8_tellsEachDeal 38 (.ifCond .ge (13)) (13) 41 51 := ⟨by decide +kernel, rfl, by decide⟩
theorem aX8_tellsEachDeal_41 : At cX8_tellsEachDeal 41 (.iload_n 2) 1 42 := ⟨by decide +kernel, rfl⟩
theorem aX8_tellsEachDeal_42 : At cX8_tellsEachDeal 42 (.lload 4) 2 44 := ⟨by decide +kernel, rfl⟩
theorem aX8_tellsEachDeal_44 : At cX8_tellsEachDeal 44 (.l2i) 1 45 := ⟨by decide +kernel, rfl⟩
theorem aX8_tellsEachDeal_45 : At cX8_tellsEachDeal 45 (.ishr) 1 46 := ⟨by decide +kernel, rfl⟩
theorem aX8_tellsEachDeal_46 : At cX8_tellsEachDeal 46 (.iconst 1) 1 47 := ⟨by decide +kernel, rfl⟩
theorem aX8_tellsEachDeal_47 : At cX8_tellsEachDeal 47 (.iand) 1 48 := ⟨by decide +kernel, rfl⟩
theorem aX8_tellsEachDeal_48 : Br cX8_tellsEachDeal 48 (.ifCond .eq (5)) (5) 51 53 := ⟨by decide +kernel, rfl, by decide⟩
theorem aX8_tellsEachDeal_51 : At cX8_tellsEachDeal 51 (.iconst 0) 1 52 := ⟨by decide +kernel, rfl⟩
theorem aX8_tellsEachDeal_52 : At cX8_tellsEachDeal 52 (.ireturn) 1 53 := ⟨by decide +kernel, rfl⟩
theorem aX8_tellsEachDeal_53 : At cX8_tellsEachDeal 53 (.iload_n 2) 1 54 := ⟨by decide +kernel, rfl⟩
theorem aX8_tellsEachDeal_54 : At cX8_tellsEachDeal 54 (.iconst 1) 1 55 := ⟨by decide +kernel, rfl⟩
theorem aX8_tellsEachDeal_55 : At cX8_tellsEachDeal 55 (.lload 4) 2 57 := ⟨by decide +kernel, rfl⟩
theorem aX8_tellsEachDeal_57 : At cX8_tellsEachDeal 57 (.l2i) 1 58 := ⟨by decide +kernel, rfl⟩
theorem aX8_tellsEachDeal_58 : At cX8_tellsEachDeal 58 (.ishl) 1 59 := ⟨by decide +kernel, rfl⟩
theorem aX8_tellsEachDeal_59 : At cX8_tellsEachDeal 59 (.ior) 1 60 := ⟨by decide +kernel, rfl⟩
theorem aX8_tellsEachDeal_60 : At cX8_tellsEachDeal 60 (.istore_n 2) 1 61 := ⟨by decide +kernel, rfl⟩
theorem aX8_tellsEachDeal_61 : At cX8_tellsEachDeal 61 (.iinc 3 1) 3 64 := ⟨by decide +kernel, rfl⟩
theorem aX8_tellsEachDeal_64 : Br cX8_tellsEachDeal 64 (.goto (-60)) (-60) 67 4 := ⟨by decide +kernel, rfl, by decide⟩
theorem aX8_tellsEachDeal_67 : At cX8_tellsEachDeal 67 (.iconst 1) 1 68 := ⟨by decide +kernel, rfl⟩
theorem aX8_tellsEachDeal_68 : At cX8_tellsEachDeal 68 (.ireturn) 1 69 := ⟨by decide +kernel, rfl⟩
theorem aX8_countRounds_0 : At cX8_countRounds 0 (.new 284) 3 3 := ⟨by decide +kernel, rfl⟩
theorem aX8_countRounds_3 : At cX8_countRounds 3 (.dup) 1 4 := ⟨by decide +kernel, rfl⟩
theorem aX8_countRounds_4 : At cX8_countRounds 4 (.iload_n 2) 1 5 := ⟨by decide +kernel, rfl⟩
theorem aX8_countRounds_5 : At cX8_countRounds 5 (.invokespecial 286) 3 8 := ⟨by decide +kernel, rfl⟩
theorem aX8_countRounds_8 : At cX8_countRounds 8 (.astore_n 3) 1 9 := ⟨by decide +kernel, rfl⟩
theorem aX8_countRounds_9 : At cX8_countRounds 9 (.iconst 1) 1 10 := ⟨by decide +kernel, rfl⟩
theorem aX8_countRounds_10 : At cX8_countRounds 10 (.istore 4) 2 12 := ⟨by decide +kernel, rfl⟩
theorem aX8_countRounds_12 : At cX8_countRounds 12 (.iload 4) 2 14 := ⟨by decide +kernel, rfl⟩
theorem aX8_countRounds_14 : At cX8_countRounds 14 (.bipush 24) 2 16 := ⟨by decide +kernel, rfl⟩
theorem aX8_countRounds_16 : Br cX8_countRounds 16 (.if_icmp .gt (18)) (18) 19 34 := ⟨by decide +kernel, rfl, by decide⟩
theorem aX8_countRounds_19 : At cX8_countRounds 19 (.aload_n 0) 1 20 := ⟨by decide +kernel, rfl⟩
theorem aX8_countRounds_20 : At cX8_countRounds 20 (.aload_n 1) 1 21 := ⟨by decide +kernel, rfl⟩
theorem aX8_countRounds_21 : At cX8_countRounds 21 (.aload_n 3) 1 22 := ⟨by decide +kernel, rfl⟩
theorem aX8_countRounds_22 : At cX8_countRounds 22 (.invokevirtual 289) 3 25 := ⟨by decide +kernel, rfl⟩
theorem aX8_countRounds_25 : Br cX8_countRounds 25 (.ifCond .eq (9)) (9) 28 34 := ⟨by decide +kernel, rfl, by decide⟩
theorem aX8_countRounds_28 : At cX8_countRounds 28 (.iinc 4 1) 3 31 := ⟨by decide +kernel, rfl⟩
theorem aX8_countRounds_31 : Br cX8_countRounds 31 (.goto (-19)) (-19) 34 12 := ⟨by decide +kernel, rfl, by decide⟩
theorem aX8_countRounds_34 : At cX8_countRounds 34 (.iload 4) 2 36 := ⟨by decide +kernel, rfl⟩
theorem aX8_countRounds_36 : At cX8_countRounds 36 (.ireturn) 1 37 := ⟨by decide +kernel, rfl⟩
theorem aX8_goesOver_0 : At cX8_goesOver 0 (.iconst 0) 1 1 := ⟨by decide +kernel, rfl⟩
theorem aX8_goesOver_1 : At cX8_goesOver 1 (.istore_n 3) 1 2 := ⟨by decide +kernel, rfl⟩
theorem aX8_goesOver_2 : At cX8_goesOver 2 (.iconst 0) 1 3 := ⟨by decide +kernel, rfl⟩
theorem aX8_goesOver_3 : At cX8_goesOver 3 (.istore 4) 2 5 := ⟨by decide +kernel, rfl⟩
theorem aX8_goesOver_5 : At cX8_goesOver 5 (.iload 4) 2 7 := ⟨by decide +kernel, rfl⟩
theorem aX8_goesOver_7 : At cX8_goesOver 7 (.aload_n 1) 1 8 := ⟨by decide +kernel, rfl⟩
theorem aX8_goesOver_8 : At cX8_goesOver 8 (.getfield 207) 3 11 := ⟨by decide +kernel, rfl⟩
theorem aX8_goesOver_11 : Br cX8_goesOver 11 (.if_icmp .ge (48)) (48) 14 59 := ⟨by decide +kernel, rfl, by decide⟩
theorem aX8_goesOver_14 : At cX8_goesOver 14 (.aload_n 1) 1 15 := ⟨by decide +kernel, rfl⟩
theorem aX8_goesOver_15 : At cX8_goesOver 15 (.getfield 225) 3 18 := ⟨by decide +kernel, rfl⟩
theorem aX8_goesOver_18 : At cX8_goesOver 18 (.iload 4) 2 20 := ⟨by decide +kernel, rfl⟩
theorem aX8_goesOver_20 : At cX8_goesOver 20 (.laload) 1 21 := ⟨by decide +kernel, rfl⟩
theorem aX8_goesOver_21 : At cX8_goesOver 21 (.l2i) 1 22 := ⟨by decide +kernel, rfl⟩
theorem aX8_goesOver_22 : At cX8_goesOver 22 (.istore 5) 2 24 := ⟨by decide +kernel, rfl⟩
theorem aX8_goesOver_24 : At cX8_goesOver 24 (.aload_n 0) 1 25 := ⟨by decide +kernel, rfl⟩
theorem aX8_goesOver_25 : At cX8_goesOver 25 (.getfield 10) 3 28 := ⟨by decide +kernel, rfl⟩
theorem aX8_goesOver_28 : At cX8_goesOver 28 (.iload 5) 2 30 := ⟨by decide +kernel, rfl⟩
theorem aX8_goesOver_30 : At cX8_goesOver 30 (.invokevirtual 128) 3 33 := ⟨by decide +kernel, rfl⟩
theorem aX8_goesOver_33 : At cX8_goesOver 33 (.astore 6) 2 35 := ⟨by decide +kernel, rfl⟩
theorem aX8_goesOver_35 : At cX8_goesOver 35 (.aload 6) 2 37 := ⟨by decide +kernel, rfl⟩
theorem aX8_goesOver_37 : Br cX8_goesOver 37 (.ifnull (16)) (16) 40 53 := ⟨by decide +kernel, rfl, by decide⟩
theorem aX8_goesOver_40 : At cX8_goesOver 40 (.aload_n 2) 1 41 := ⟨by decide +kernel, rfl⟩
theorem aX8_goesOver_41 : At cX8_goesOver 41 (.aload 6) 2 43 := ⟨by decide +kernel, rfl⟩
theorem aX8_goesOver_43 : At cX8_goesOver 43 (.iload 5) 2 45 := ⟨by decide +kernel, rfl⟩
theorem aX8_goesOver_45 : At cX8_goesOver 45 (.invokevirtual 293) 3 48 := ⟨by decide +kernel, rfl⟩
theorem aX8_goesOver_48 : Br cX8_goesOver 48 (.ifCond .eq (5)) (5) 51 53 := ⟨by decide +kernel, rfl, by decide⟩
theorem aX8_goesOver_51 : At cX8_goesOver 51 (.iconst 1) 1 52 := ⟨by decide +kernel, rfl⟩
theorem aX8_goesOver_52 : At cX8_goesOver 52 (.istore_n 3) 1 53 := ⟨by decide +kernel, rfl⟩
theorem aX8_goesOver_53 : At cX8_goesOver 53 (.iinc 4 1) 3 56 := ⟨by decide +kernel, rfl⟩
theorem aX8_goesOver_56 : Br cX8_goesOver 56 (.goto (-51)) (-51) 59 5 := ⟨by decide +kernel, rfl, by decide⟩
theorem aX8_goesOver_59 : At cX8_goesOver 59 (.iload_n 3) 1 60 := ⟨by decide +kernel, rfl⟩
theorem aX8_goesOver_60 : At cX8_goesOver 60 (.ireturn) 1 61 := ⟨by decide +kernel, rfl⟩
theorem aX8_countHeld_0 : At cX8_countHeld 0 (.iconst 0) 1 1 := ⟨by decide +kernel, rfl⟩
theorem aX8_countHeld_1 : At cX8_countHeld 1 (.istore_n 1) 1 2 := ⟨by decide +kernel, rfl⟩
theorem aX8_countHeld_2 : At cX8_countHeld 2 (.iconst 0) 1 3 := ⟨by decide +kernel, rfl⟩
theorem aX8_countHeld_3 : At cX8_countHeld 3 (.istore_n 2) 1 4 := ⟨by decide +kernel, rfl⟩
theorem aX8_countHeld_4 : At cX8_countHeld 4 (.iload_n 2) 1 5 := ⟨by decide +kernel, rfl⟩
theorem aX8_countHeld_5 : At cX8_countHeld 5 (.iconst 4) 1 6 := ⟨by decide +kernel, rfl⟩
theorem aX8_countHeld_6 : Br cX8_countHeld 6 (.if_icmp .ge (21)) (21) 9 27 := ⟨by decide +kernel, rfl, by decide⟩
theorem aX8_countHeld_9 : At cX8_countHeld 9 (.aload_n 0) 1 10 := ⟨by decide +kernel, rfl⟩
theorem aX8_countHeld_10 : At cX8_countHeld 10 (.getfield 42) 3 13 := ⟨by decide +kernel, rfl⟩
theorem aX8_countHeld_13 : At cX8_countHeld 13 (.iload_n 2) 1 14 := ⟨by decide +kernel, rfl⟩
theorem aX8_countHeld_14 : At cX8_countHeld 14 (.aaload) 1 15 := ⟨by decide +kernel, rfl⟩
theorem aX8_countHeld_15 : Br cX8_countHeld 15 (.ifnull (6)) (6) 18 21 := ⟨by decide +kernel, rfl, by decide⟩
theorem aX8_countHeld_18 : At cX8_countHeld 18 (.iinc 1 1) 3 21 := ⟨by decide +kernel, rfl⟩
theorem aX8_countHeld_21 : At cX8_countHeld 21 (.iinc 2 1) 3 24 := ⟨by decide +kernel, rfl⟩
theorem aX8_countHeld_24 : Br cX8_countHeld 24 (.goto (-20)) (-20) 27 4 := ⟨by decide +kernel, rfl, by decide⟩
theorem aX8_countHeld_27 : At cX8_countHeld 27 (.iload_n 1) 1 28 := ⟨by decide +kernel, rfl⟩
theorem aX8_countHeld_28 : At cX8_countHeld 28 (.ireturn) 1 29 := ⟨by decide +kernel, rfl⟩
end
section
/-! words by their places; links (written by wip/p45/gen10.py) -/
theorem tb0 {w : Cond} (h : w ∈ k2_sels lw_privs) : w ∈ lw_tbl := List.mem_append_left _ h
theorem tb1 {w : Cond} (h : w ∈ tables_1_1) : w ∈ lw_tbl := List.mem_append_right _ (by unfold tables_1; exact List.mem_append_left _ h)
theorem tb2 {w : Cond} (h : w ∈ tables_1_2) : w ∈ lw_tbl := List.mem_append_right _ (by unfold tables_1; exact List.mem_append_right _ (List.mem_append_left _ h))
theorem tb3 {w : Cond} (h : w ∈ tables_1_3) : w ∈ lw_tbl := List.mem_append_right _ (by unfold tables_1; exact List.mem_append_right _ (List.mem_append_right _ (List.mem_append_left _ h)))
theorem tb4 {w : Cond} (h : w ∈ tables_1_4) : w ∈ lw_tbl := List.mem_append_right _ (by unfold tables_1; exact List.mem_append_right _ (List.mem_append_right _ (List.mem_append_right _ (h))))
theorem tq0 {w : Cond} (i : Nat) (h : (k2_sels lw_privs)[i]? = some w) (g : goodWord w = true) : w ∈ TT := List.mem_filter.mpr ⟨tb0 (List.mem_of_getElem? h), g⟩
theorem tq1 {w : Cond} (i : Nat) (h : tables_1_1[i]? = some w) (g : goodWord w = true) : w ∈ TT := List.mem_filter.mpr ⟨tb1 (List.mem_of_getElem? h), g⟩
theorem tq2 {w : Cond} (i : Nat) (h : tables_1_2[i]? = some w) (g : goodWord w = true) : w ∈ TT := List.mem_filter.mpr ⟨tb2 (List.mem_of_getElem? h), g⟩
theorem tq3 {w : Cond} (i : Nat) (h : tables_1_3[i]? = some w) (g : goodWord w = true) : w ∈ TT := List.mem_filter.mpr ⟨tb3 (List.mem_of_getElem? h), g⟩
theorem tq4 {w : Cond} (i : Nat) (h : tables_1_4[i]? = some w) (g : goodWord w = true) : w ∈ TT := List.mem_filter.mpr ⟨tb4 (List.mem_of_getElem? h), g⟩
-- methods: code, initialised
set_option maxRecDepth 20000 in
theorem okX0_init : MdOk mX0_init := ⟨tq1 33 rfl rfl, ⟨by decide, by decide⟩, tq1 2 rfl rfl⟩
theorem npX0_init : npar mX0_init 0 := by unfold npar; decide +kernel
set_option maxRecDepth 20000 in
theorem okX0_become : MdOk mX0_become := ⟨tq2 166 rfl rfl, ⟨by decide, by decide⟩, tq1 2 rfl rfl⟩
theorem npX0_become : npar mX0_become 1 := by unfold npar; decide +kernel
set_option maxRecDepth 20000 in
theorem okX0_firstOpen : MdOk mX0_firstOpen := ⟨tq1 209 rfl rfl, ⟨by decide, by decide⟩, tq1 2 rfl rfl⟩
theorem npX0_firstOpen : npar mX0_firstOpen 0 := by unfold npar; decide +kernel
set_option maxRecDepth 20000 in
theorem okX0_openCount : MdOk mX0_openCount := ⟨tq1 215 rfl rfl, ⟨by decide, by decide⟩, tq1 2 rfl rfl⟩
theorem npX0_openCount : npar mX0_openCount 0 := by unfold npar; decide +kernel
set_option maxRecDepth 20000 in
theorem okX0_endOpen : MdOk mX0_endOpen := ⟨tq1 205 rfl rfl, ⟨by decide, by decide⟩, tq1 2 rfl rfl⟩
theorem npX0_endOpen : npar mX0_endOpen 0 := by unfold npar; decide +kernel
set_option maxRecDepth 20000 in
theorem okX0_isOpen : MdOk mX0_isOpen := ⟨tq2 13 rfl rfl, ⟨by decide, by decide⟩, tq1 2 rfl rfl⟩
theorem npX0_isOpen : npar mX0_isOpen 1 := by unfold npar; decide +kernel
set_option maxRecDepth 20000 in
theorem okX0_dealAt : MdOk mX0_dealAt := ⟨tq1 196 rfl rfl, ⟨by decide, by decide⟩, tq1 2 rfl rfl⟩
theorem npX0_dealAt : npar mX0_dealAt 1 := by unfold npar; decide +kernel
set_option maxRecDepth 20000 in
theorem okX0_clashOf : MdOk mX0_clashOf := ⟨tq3 232 rfl rfl, ⟨by decide, by decide⟩, tq1 2 rfl rfl⟩
theorem npX0_clashOf : npar mX0_clashOf 4 := by unfold npar; decide +kernel
set_option maxRecDepth 20000 in
theorem okX1_init : MdOk mX1_init := ⟨tq3 181 rfl rfl, ⟨by decide, by decide⟩, tq1 18 rfl rfl⟩
theorem npX1_init : npar mX1_init 7 := by unfold npar; decide +kernel
set_option maxRecDepth 20000 in
theorem okX1_gives : MdOk mX1_gives := ⟨tq1 222 rfl rfl, ⟨by decide, by decide⟩, tq1 18 rfl rfl⟩
theorem npX1_gives : npar mX1_gives 1 := by unfold npar; decide +kernel
set_option maxRecDepth 20000 in
theorem okX1_getsBack : MdOk mX1_getsBack := ⟨tq2 0 rfl rfl, ⟨by decide, by decide⟩, tq1 18 rfl rfl⟩
theorem npX1_getsBack : npar mX1_getsBack 1 := by unfold npar; decide +kernel
set_option maxRecDepth 20000 in
theorem okX1_takerOf : MdOk mX1_takerOf := ⟨tq2 26 rfl rfl, ⟨by decide, by decide⟩, tq1 18 rfl rfl⟩
theorem npX1_takerOf : npar mX1_takerOf 2 := by unfold npar; decide +kernel
set_option maxRecDepth 20000 in
theorem okX1_mayGive : MdOk mX1_mayGive := ⟨tq2 31 rfl rfl, ⟨by decide, by decide⟩, tq1 18 rfl rfl⟩
theorem npX1_mayGive : npar mX1_mayGive 1 := by unfold npar; decide +kernel
set_option maxRecDepth 20000 in
theorem okX2_init : MdOk mX2_init := ⟨tq1 68 rfl rfl, ⟨by decide, by decide⟩, tq1 3 rfl rfl⟩
theorem npX2_init : npar mX2_init 0 := by unfold npar; decide +kernel
set_option maxRecDepth 20000 in
theorem okX2_at : MdOk mX2_at := ⟨tq2 18 rfl rfl, ⟨by decide, by decide⟩, tq1 3 rfl rfl⟩
theorem npX2_at : npar mX2_at 2 := by unfold npar; decide +kernel
set_option maxRecDepth 20000 in
theorem okX2_startAll : MdOk mX2_startAll := ⟨tq1 147 rfl rfl, ⟨by decide, by decide⟩, tq1 3 rfl rfl⟩
theorem npX2_startAll : npar mX2_startAll 2 := by unfold npar; decide +kernel
set_option maxRecDepth 20000 in
theorem okX2_settle : MdOk mX2_settle := ⟨tq2 181 rfl rfl, ⟨by decide, by decide⟩, tq1 3 rfl rfl⟩
theorem npX2_settle : npar mX2_settle 3 := by unfold npar; decide +kernel
set_option maxRecDepth 20000 in
theorem okX2_give : MdOk mX2_give := ⟨tq2 186 rfl rfl, ⟨by decide, by decide⟩, tq1 3 rfl rfl⟩
theorem npX2_give : npar mX2_give 3 := by unfold npar; decide +kernel
set_option maxRecDepth 20000 in
theorem okX3_init : MdOk mX3_init := ⟨tq1 78 rfl rfl, ⟨by decide, by decide⟩, tq1 4 rfl rfl⟩
theorem npX3_init : npar mX3_init 0 := by unfold npar; decide +kernel
set_option maxRecDepth 20000 in
theorem okX4_init : MdOk mX4_init := ⟨tq2 107 rfl rfl, ⟨by decide, by decide⟩, tq1 19 rfl rfl⟩
theorem npX4_init : npar mX4_init 1 := by unfold npar; decide +kernel
set_option maxRecDepth 20000 in
theorem okX4_move : MdOk mX4_move := ⟨tq2 129 rfl rfl, ⟨by decide, by decide⟩, tq1 19 rfl rfl⟩
theorem npX4_move : npar mX4_move 2 := by unfold npar; decide +kernel
set_option maxRecDepth 20000 in
theorem okX5_init : MdOk mX5_init := ⟨tq1 130 rfl rfl, ⟨by decide, by decide⟩, tq1 7 rfl rfl⟩
theorem npX5_init : npar mX5_init 0 := by unfold npar; decide +kernel
set_option maxRecDepth 20000 in
theorem okX5_isMissing : MdOk mX5_isMissing := ⟨tq2 94 rfl rfl, ⟨by decide, by decide⟩, tq1 7 rfl rfl⟩
theorem npX5_isMissing : npar mX5_isMissing 0 := by unfold npar; decide +kernel
set_option maxRecDepth 20000 in
theorem okX5_become : MdOk mX5_become := ⟨tq2 154 rfl rfl, ⟨by decide, by decide⟩, tq1 7 rfl rfl⟩
theorem npX5_become : npar mX5_become 2 := by unfold npar; decide +kernel
set_option maxRecDepth 20000 in
theorem okX5_put : MdOk mX5_put := ⟨tq2 142 rfl rfl, ⟨by decide, by decide⟩, tq1 7 rfl rfl⟩
theorem npX5_put : npar mX5_put 2 := by unfold npar; decide +kernel
set_option maxRecDepth 20000 in
theorem okX6_init : MdOk mX6_init := ⟨tq1 104 rfl rfl, ⟨by decide, by decide⟩, tq1 6 rfl rfl⟩
theorem npX6_init : npar mX6_init 0 := by unfold npar; decide +kernel
set_option maxRecDepth 20000 in
theorem okX6_has : MdOk mX6_has := ⟨tq1 226 rfl rfl, ⟨by decide, by decide⟩, tq1 6 rfl rfl⟩
theorem npX6_has : npar mX6_has 1 := by unfold npar; decide +kernel
set_option maxRecDepth 20000 in
theorem okX7_init : MdOk mX7_init := ⟨tq1 84 rfl rfl, ⟨by decide, by decide⟩, tq1 5 rfl rfl⟩
theorem npX7_init : npar mX7_init 0 := by unfold npar; decide +kernel
set_option maxRecDepth 20000 in
theorem okX8_init : MdOk mX8_init := ⟨tq1 25 rfl rfl, ⟨by decide, by decide⟩, tq1 1 rfl rfl⟩
theorem npX8_init : npar mX8_init 0 := by unfold npar; decide +kernel
set_option maxRecDepth 20000 in
theorem okX8_fall : MdOk mX8_fall := ⟨tq1 180 rfl rfl, ⟨by decide, by decide⟩, tq1 1 rfl rfl⟩
theorem npX8_fall : npar mX8_fall 1 := by unfold npar; decide +kernel
set_option maxRecDepth 20000 in
theorem okX8_fallen : MdOk mX8_fallen := ⟨tq4 12 rfl rfl, ⟨by decide, by decide⟩, tq1 1 rfl rfl⟩
theorem npX8_fallen : npar mX8_fallen 1 := by unfold npar; decide +kernel
set_option maxRecDepth 20000 in
theorem okX8_sale : MdOk mX8_sale := ⟨tq3 175 rfl rfl, ⟨by decide, by decide⟩, tq1 1 rfl rfl⟩
theorem npX8_sale : npar mX8_sale 5 := by unfold npar; decide +kernel
set_option maxRecDepth 20000 in
theorem okX8_swap : MdOk mX8_swap := ⟨tq3 238 rfl rfl, ⟨by decide, by decide⟩, tq1 1 rfl rfl⟩
theorem npX8_swap : npar mX8_swap 5 := by unfold npar; decide +kernel
set_option maxRecDepth 20000 in
theorem okX8_of : MdOk mX8_of := ⟨tq1 192 rfl rfl, ⟨by decide, by decide⟩, tq1 1 rfl rfl⟩
theorem npX8_of : npar mX8_of 2 := by unfold npar; decide +kernel
set_option maxRecDepth 20000 in
theorem okX8_conveys : MdOk mX8_conveys := ⟨tq1 236 rfl rfl, ⟨by decide, by decide⟩, tq1 1 rfl rfl⟩
theorem npX8_conveys : npar mX8_conveys 3 := by unfold npar; decide +kernel
set_option maxRecDepth 20000 in
theorem okX8_prune : MdOk mX8_prune := ⟨tq2 5 rfl rfl, ⟨by decide, by decide⟩, tq1 1 rfl rfl⟩
theorem npX8_prune : npar mX8_prune 0 := by unfold npar; decide +kernel
set_option maxRecDepth 20000 in
theorem okX8_clash : MdOk mX8_clash := ⟨tq4 5 rfl rfl, ⟨by decide, by decide⟩, tq1 1 rfl rfl⟩
theorem npX8_clash : npar mX8_clash 1 := by unfold npar; decide +kernel
set_option maxRecDepth 20000 in
theorem okX8_owner : MdOk mX8_owner := ⟨tq2 9 rfl rfl, ⟨by decide, by decide⟩, tq1 1 rfl rfl⟩
theorem npX8_owner : npar mX8_owner 2 := by unfold npar; decide +kernel
set_option maxRecDepth 20000 in
theorem okX8_chain : MdOk mX8_chain := ⟨tq2 22 rfl rfl, ⟨by decide, by decide⟩, tq1 1 rfl rfl⟩
theorem npX8_chain : npar mX8_chain 3 := by unfold npar; decide +kernel
set_option maxRecDepth 20000 in
theorem okX8_hand : MdOk mX8_hand := ⟨tq2 35 rfl rfl, ⟨by decide, by decide⟩, tq1 1 rfl rfl⟩
theorem npX8_hand : npar mX8_hand 2 := by unfold npar; decide +kernel
set_option maxRecDepth 20000 in
theorem okX8_owners : MdOk mX8_owners := ⟨tq2 39 rfl rfl, ⟨by decide, by decide⟩, tq1 1 rfl rfl⟩
theorem npX8_owners : npar mX8_owners 1 := by unfold npar; decide +kernel
set_option maxRecDepth 20000 in
theorem okX8_sure : MdOk mX8_sure := ⟨tq2 47 rfl rfl, ⟨by decide, by decide⟩, tq1 1 rfl rfl⟩
theorem npX8_sure : npar mX8_sure 1 := by unfold npar; decide +kernel
set_option maxRecDepth 20000 in
theorem okX8_chance : MdOk mX8_chance := ⟨tq2 51 rfl rfl, ⟨by decide, by decide⟩, tq1 1 rfl rfl⟩
theorem npX8_chance : npar mX8_chance 2 := by unfold npar; decide +kernel
set_option maxRecDepth 20000 in
theorem okX8_least : MdOk mX8_least := ⟨tq2 55 rfl rfl, ⟨by decide, by decide⟩, tq1 1 rfl rfl⟩
theorem npX8_least : npar mX8_least 2 := by unfold npar; decide +kernel
set_option maxRecDepth 20000 in
theorem okX8_worth : MdOk mX8_worth := ⟨tq2 59 rfl rfl, ⟨by decide, by decide⟩, tq1 1 rfl rfl⟩
theorem npX8_worth : npar mX8_worth 2 := by unfold npar; decide +kernel
set_option maxRecDepth 20000 in
theorem okX8_value : MdOk mX8_value := ⟨tq2 68 rfl rfl, ⟨by decide, by decide⟩, tq1 1 rfl rfl⟩
theorem npX8_value : npar mX8_value 1 := by unfold npar; decide +kernel
set_option maxRecDepth 20000 in
theorem okX8_best : MdOk mX8_best := ⟨tq2 81 rfl rfl, ⟨by decide, by decide⟩, tq1 1 rfl rfl⟩
theorem npX8_best : npar mX8_best 2 := by unfold npar; decide +kernel
set_option maxRecDepth 20000 in
theorem okX8_hope : MdOk mX8_hope := ⟨tq2 85 rfl rfl, ⟨by decide, by decide⟩, tq1 1 rfl rfl⟩
theorem npX8_hope : npar mX8_hope 1 := by unfold npar; decide +kernel
set_option maxRecDepth 20000 in
theorem okX8_rounds : MdOk mX8_rounds := ⟨tq2 90 rfl rfl, ⟨by decide, by decide⟩, tq1 1 rfl rfl⟩
theorem npX8_rounds : npar mX8_rounds 2 := by unfold npar; decide +kernel
set_option maxRecDepth 20000 in
theorem okX8_lays : MdOk mX8_lays := ⟨tq2 135 rfl rfl, ⟨by decide, by decide⟩, tq1 1 rfl rfl⟩
theorem npX8_lays : npar mX8_lays 2 := by unfold npar; decide +kernel
set_option maxRecDepth 20000 in
theorem okX8_judge : MdOk mX8_judge := ⟨tq2 146 rfl rfl, ⟨by decide, by decide⟩, tq1 1 rfl rfl⟩
theorem npX8_judge : npar mX8_judge 2 := by unfold npar; decide +kernel
set_option maxRecDepth 20000 in
theorem okX8_sheet : MdOk mX8_sheet := ⟨tq2 150 rfl rfl, ⟨by decide, by decide⟩, tq1 1 rfl rfl⟩
theorem npX8_sheet : npar mX8_sheet 3 := by unfold npar; decide +kernel
set_option maxRecDepth 20000 in
theorem okX8_write : MdOk mX8_write := ⟨tq2 158 rfl rfl, ⟨by decide, by decide⟩, tq1 1 rfl rfl⟩
theorem npX8_write : npar mX8_write 3 := by unfold npar; decide +kernel
set_option maxRecDepth 20000 in
theorem okX8_image : MdOk mX8_image := ⟨tq2 162 rfl rfl, ⟨by decide, by decide⟩, tq1 1 rfl rfl⟩
theorem npX8_image : npar mX8_image 0 := by unfold npar; decide +kernel
set_option maxRecDepth 20000 in
theorem okX8_back : MdOk mX8_back := ⟨tq2 173 rfl rfl, ⟨by decide, by decide⟩, tq1 1 rfl rfl⟩
theorem npX8_back : npar mX8_back 0 := by unfold npar; decide +kernel
set_option maxRecDepth 20000 in
theorem okX8_count : MdOk mX8_count := ⟨tq2 190 rfl rfl, ⟨by decide, by decide⟩, tq1 1 rfl rfl⟩
theorem npX8_count : npar mX8_count 1 := by unfold npar; decide +kernel
set_option maxRecDepth 20000 in
theorem okX8_isOutside : MdOk mX8_isOutside := ⟨tq1 183 rfl rfl, ⟨by decide, by decide⟩, tq1 1 rfl rfl⟩
theorem npX8_isOutside : npar mX8_isOutside 2 := by unfold npar; decide +kernel
set_option maxRecDepth 20000 in
theorem okX8_areNoPair : MdOk mX8_areNoPair := ⟨tq3 178 rfl rfl, ⟨by decide, by decide⟩, tq1 1 rfl rfl⟩
theorem npX8_areNoPair : npar mX8_areNoPair 2 := by unfold npar; decide +kernel
set_option maxRecDepth 20000 in
theorem okX8_placeUnder : MdOk mX8_placeUnder := ⟨tq1 229 rfl rfl, ⟨by decide, by decide⟩, tq1 1 rfl rfl⟩
theorem npX8_placeUnder : npar mX8_placeUnder 2 := by unfold npar; decide +kernel
set_option maxRecDepth 20000 in
theorem okX8_finding : MdOk mX8_finding := ⟨tq1 187 rfl rfl, ⟨by decide, by decide⟩, tq1 1 rfl rfl⟩
theorem npX8_finding : npar mX8_finding 1 := by unfold npar; decide +kernel
set_option maxRecDepth 20000 in
theorem okX8_longFinding : MdOk mX8_longFinding := ⟨tq2 72 rfl rfl, ⟨by decide, by decide⟩, tq1 1 rfl rfl⟩
theorem npX8_longFinding : npar mX8_longFinding 1 := by unfold npar; decide +kernel
set_option maxRecDepth 20000 in
theorem okX8_enter : MdOk mX8_enter := ⟨tq3 220 rfl rfl, ⟨by decide, by decide⟩, tq1 1 rfl rfl⟩
theorem npX8_enter : npar mX8_enter 1 := by unfold npar; decide +kernel
set_option maxRecDepth 20000 in
theorem okX8_takes : MdOk mX8_takes := ⟨tq3 224 rfl rfl, ⟨by decide, by decide⟩, tq1 1 rfl rfl⟩
theorem npX8_takes : npar mX8_takes 1 := by unfold npar; decide +kernel
set_option maxRecDepth 20000 in
theorem okX8_clashesUnder : MdOk mX8_clashesUnder := ⟨tq3 228 rfl rfl, ⟨by decide, by decide⟩, tq1 1 rfl rfl⟩
theorem npX8_clashesUnder : npar mX8_clashesUnder 2 := by unfold npar; decide +kernel
set_option maxRecDepth 20000 in
theorem okX8_settleAll : MdOk mX8_settleAll := ⟨tq2 177 rfl rfl, ⟨by decide, by decide⟩, tq1 1 rfl rfl⟩
theorem npX8_settleAll : npar mX8_settleAll 0 := by unfold npar; decide +kernel
set_option maxRecDepth 20000 in
theorem okX8_countConveying : MdOk mX8_countConveying := ⟨tq1 201 rfl rfl, ⟨by decide, by decide⟩, tq1 1 rfl rfl⟩
theorem npX8_countConveying : npar mX8_countConveying 1 := by unfold npar; decide +kernel
set_option maxRecDepth 20000 in
theorem okX8_everOwners : MdOk mX8_everOwners := ⟨tq2 43 rfl rfl, ⟨by decide, by decide⟩, tq1 1 rfl rfl⟩
theorem npX8_everOwners : npar mX8_everOwners 1 := by unfold npar; decide +kernel
set_option maxRecDepth 20000 in
theorem okX8_worthUnder : MdOk mX8_worthUnder := ⟨tq2 63 rfl rfl, ⟨by decide, by decide⟩, tq1 1 rfl rfl⟩
theorem npX8_worthUnder : npar mX8_worthUnder 2 := by unfold npar; decide +kernel
set_option maxRecDepth 20000 in
theorem okX8_worthOver : MdOk mX8_worthOver := ⟨tq2 77 rfl rfl, ⟨by decide, by decide⟩, tq1 1 rfl rfl⟩
theorem npX8_worthOver : npar mX8_worthOver 3 := by unfold npar; decide +kernel
set_option maxRecDepth 20000 in
theorem okX8_tellsEachDeal : MdOk mX8_tellsEachDeal := ⟨tq2 98 rfl rfl, ⟨by decide, by decide⟩, tq1 1 rfl rfl⟩
theorem npX8_tellsEachDeal : npar mX8_tellsEachDeal 1 := by unfold npar; decide +kernel
set_option maxRecDepth 20000 in
theorem okX8_countRounds : MdOk mX8_countRounds := ⟨tq2 102 rfl rfl, ⟨by decide, by decide⟩, tq1 1 rfl rfl⟩
theorem npX8_countRounds : npar mX8_countRounds 2 := by unfold npar; decide +kernel
set_option maxRecDepth 20000 in
theorem okX8_goesOver : MdOk mX8_goesOver := ⟨tq2 125 rfl rfl, ⟨by decide, by decide⟩, tq1 1 rfl rfl⟩
theorem npX8_goesOver : npar mX8_goesOver 2 := by unfold npar; decide +kernel
set_option maxRecDepth 20000 in
theorem okX8_countHeld : MdOk mX8_countHeld := ⟨tq2 195 rfl rfl, ⟨by decide, by decide⟩, tq1 1 rfl rfl⟩
theorem npX8_countHeld : npar mX8_countHeld 0 := by unfold npar; decide +kernel
set_option maxRecDepth 20000 in
theorem okX9_init : MdOk mX9_init := ⟨tq2 200 rfl rfl, ⟨by decide, by decide⟩, tq1 8 rfl rfl⟩
theorem npX9_init : npar mX9_init 0 := by unfold npar; decide +kernel
set_option maxRecDepth 20000 in
theorem okX9_from : MdOk mX9_from := ⟨tq3 34 rfl rfl, ⟨by decide, by decide⟩, tq1 8 rfl rfl⟩
theorem npX9_from : npar mX9_from 0 := by unfold npar; decide +kernel
set_option maxRecDepth 20000 in
theorem okX9_size : MdOk mX9_size := ⟨tq3 38 rfl rfl, ⟨by decide, by decide⟩, tq1 8 rfl rfl⟩
theorem npX9_size : npar mX9_size 0 := by unfold npar; decide +kernel
set_option maxRecDepth 20000 in
theorem okX9_holds : MdOk mX9_holds := ⟨tq3 154 rfl rfl, ⟨by decide, by decide⟩, tq1 8 rfl rfl⟩
theorem npX9_holds : npar mX9_holds 2 := by unfold npar; decide +kernel
set_option maxRecDepth 20000 in
theorem okX9_conveys : MdOk mX9_conveys := ⟨tq3 148 rfl rfl, ⟨by decide, by decide⟩, tq1 8 rfl rfl⟩
theorem npX9_conveys : npar mX9_conveys 3 := by unfold npar; decide +kernel
set_option maxRecDepth 20000 in
theorem okX9_lapses : MdOk mX9_lapses := ⟨tq3 158 rfl rfl, ⟨by decide, by decide⟩, tq1 8 rfl rfl⟩
theorem npX9_lapses : npar mX9_lapses 2 := by unfold npar; decide +kernel
set_option maxRecDepth 20000 in
theorem okX9_chain : MdOk mX9_chain := ⟨tq3 144 rfl rfl, ⟨by decide, by decide⟩, tq1 8 rfl rfl⟩
theorem npX9_chain : npar mX9_chain 2 := by unfold npar; decide +kernel
set_option maxRecDepth 20000 in
theorem okX9_clashes : MdOk mX9_clashes := ⟨tq3 138 rfl rfl, ⟨by decide, by decide⟩, tq1 8 rfl rfl⟩
theorem npX9_clashes : npar mX9_clashes 0 := by unfold npar; decide +kernel
set_option maxRecDepth 20000 in
theorem okX9_comes : MdOk mX9_comes := ⟨tq3 76 rfl rfl, ⟨by decide, by decide⟩, tq1 8 rfl rfl⟩
theorem npX9_comes : npar mX9_comes 2 := by unfold npar; decide +kernel
set_option maxRecDepth 20000 in
theorem okJ6_bitCount_0f7a4 : MdOk mJ6_bitCount_0f7a4 := ⟨tq4 15 rfl rfl, ⟨by decide, by decide⟩, tq1 20 rfl rfl⟩
theorem npJ6_bitCount_0f7a4 : npar mJ6_bitCount_0f7a4 1 := by unfold npar; decide +kernel
set_option maxRecDepth 20000 in
theorem okJ9_max_7cf53 : MdOk mJ9_max_7cf53 := ⟨tq3 98 rfl rfl, ⟨by decide, by decide⟩, tq1 15 rfl rfl⟩
theorem npJ9_max_7cf53 : npar mJ9_max_7cf53 2 := by unfold npar; decide +kernel
set_option maxRecDepth 20000 in
theorem okJ9_min_7cf53 : MdOk mJ9_min_7cf53 := ⟨tq2 138 rfl rfl, ⟨by decide, by decide⟩, tq1 15 rfl rfl⟩
theorem npJ9_min_7cf53 : npar mJ9_min_7cf53 2 := by unfold npar; decide +kernel
set_option maxRecDepth 20000 in
theorem okJxa1e45_init_da8c8 : MdOk mJxa1e45_init_da8c8 := ⟨tq2 212 rfl rfl, ⟨by decide, by decide⟩, tq1 9 rfl rfl⟩
theorem npJxa1e45_init_da8c8 : npar mJxa1e45_init_da8c8 0 := by unfold npar; decide +kernel
set_option maxRecDepth 20000 in
theorem okJxc12de_init_da8c8 : MdOk mJxc12de_init_da8c8 := ⟨tq2 209 rfl rfl, ⟨by decide, by decide⟩, tq1 10 rfl rfl⟩
theorem npJxc12de_init_da8c8 : npar mJxc12de_init_da8c8 0 := by unfold npar; decide +kernel
set_option maxRecDepth 20000 in
theorem okJx4a65c_init_da8c8 : MdOk mJx4a65c_init_da8c8 := ⟨tq2 206 rfl rfl, ⟨by decide, by decide⟩, tq1 11 rfl rfl⟩
theorem npJx4a65c_init_da8c8 : npar mJx4a65c_init_da8c8 0 := by unfold npar; decide +kernel
set_option maxRecDepth 20000 in
theorem okJx4a65c_grow_92f84 : MdOk mJx4a65c_grow_92f84 := ⟨tq3 92 rfl rfl, ⟨by decide, by decide⟩, tq1 11 rfl rfl⟩
theorem npJx4a65c_grow_92f84 : npar mJx4a65c_grow_92f84 1 := by unfold npar; decide +kernel
set_option maxRecDepth 20000 in
theorem okJx4a65c_grow_d5877 : MdOk mJx4a65c_grow_d5877 := ⟨tq3 88 rfl rfl, ⟨by decide, by decide⟩, tq1 11 rfl rfl⟩
theorem npJx4a65c_grow_d5877 : npar mJx4a65c_grow_d5877 0 := by unfold npar; decide +kernel
set_option maxRecDepth 20000 in
theorem okJx4a65c_size_8abf5 : MdOk mJx4a65c_size_8abf5 := ⟨tq3 134 rfl rfl, ⟨by decide, by decide⟩, tq1 11 rfl rfl⟩
theorem npJx4a65c_size_8abf5 : npar mJx4a65c_size_8abf5 0 := by unfold npar; decide +kernel
set_option maxRecDepth 20000 in
theorem okJx4a65c_elementData_915e3 : MdOk mJx4a65c_elementData_915e3 := ⟨tq3 68 rfl rfl, ⟨by decide, by decide⟩, tq1 11 rfl rfl⟩
theorem npJx4a65c_elementData_915e3 : npar mJx4a65c_elementData_915e3 1 := by unfold npar; decide +kernel
set_option maxRecDepth 20000 in
theorem okJx4a65c_get_915e3 : MdOk mJx4a65c_get_915e3 := ⟨tq3 58 rfl rfl, ⟨by decide, by decide⟩, tq1 11 rfl rfl⟩
theorem npJx4a65c_get_915e3 : npar mJx4a65c_get_915e3 1 := by unfold npar; decide +kernel
set_option maxRecDepth 20000 in
theorem okJx4a65c_add_72be8 : MdOk mJx4a65c_add_72be8 := ⟨tq3 84 rfl rfl, ⟨by decide, by decide⟩, tq1 11 rfl rfl⟩
theorem npJx4a65c_add_72be8 : npar mJx4a65c_add_72be8 3 := by unfold npar; decide +kernel
set_option maxRecDepth 20000 in
theorem okJx4a65c_add_9ea2d : MdOk mJx4a65c_add_9ea2d := ⟨tq3 80 rfl rfl, ⟨by decide, by decide⟩, tq1 11 rfl rfl⟩
theorem npJx4a65c_add_9ea2d : npar mJx4a65c_add_9ea2d 1 := by unfold npar; decide +kernel
set_option maxRecDepth 20000 in
theorem okJ7_copyOf_1904c : MdOk mJ7_copyOf_1904c := ⟨tq3 105 rfl rfl, ⟨by decide, by decide⟩, tq1 16 rfl rfl⟩
theorem npJ7_copyOf_1904c : npar mJ7_copyOf_1904c 2 := by unfold npar; decide +kernel
set_option maxRecDepth 20000 in
theorem okJ7_copyOf_6403c : MdOk mJ7_copyOf_6403c := ⟨tq3 123 rfl rfl, ⟨by decide, by decide⟩, tq1 16 rfl rfl⟩
theorem npJ7_copyOf_6403c : npar mJ7_copyOf_6403c 3 := by unfold npar; decide +kernel
set_option maxRecDepth 20000 in
theorem okJ15_checkIndex_7cf53 : MdOk mJ15_checkIndex_7cf53 := ⟨tq3 61 rfl rfl, ⟨by decide, by decide⟩, tq1 12 rfl rfl⟩
theorem npJ15_checkIndex_7cf53 : npar mJ15_checkIndex_7cf53 2 := by unfold npar; decide +kernel
set_option maxRecDepth 20000 in
theorem okJ8_newLength_cabcc : MdOk mJ8_newLength_cabcc := ⟨tq3 95 rfl rfl, ⟨by decide, by decide⟩, tq1 14 rfl rfl⟩
theorem npJ8_newLength_cabcc : npar mJ8_newLength_cabcc 3 := by unfold npar; decide +kernel
set_option maxRecDepth 20000 in
theorem okJ8_hugeLength_7cf53 : MdOk mJ8_hugeLength_7cf53 := ⟨tq3 102 rfl rfl, ⟨by decide, by decide⟩, tq1 14 rfl rfl⟩
theorem npJ8_hugeLength_7cf53 : npar mJ8_hugeLength_7cf53 2 := by unfold npar; decide +kernel
set_option maxRecDepth 20000 in
theorem okJ3_checkIndex_8e157 : MdOk mJ3_checkIndex_8e157 := ⟨tq3 64 rfl rfl, ⟨by decide, by decide⟩, tq1 13 rfl rfl⟩
theorem npJ3_checkIndex_8e157 : npar mJ3_checkIndex_8e157 3 := by unfold npar; decide +kernel
set_option maxRecDepth 20000 in
theorem okL_at : MdOk mL_at := ⟨tq3 41 rfl rfl, ⟨by decide, by decide⟩, tq1 0 rfl rfl⟩
theorem npL_at : npar mL_at 2 := by unfold npar; decide +kernel
set_option maxRecDepth 20000 in
theorem okL_mod : MdOk mL_mod := ⟨tq3 45 rfl rfl, ⟨by decide, by decide⟩, tq1 0 rfl rfl⟩
theorem npL_mod : npar mL_mod 2 := by unfold npar; decide +kernel
set_option maxRecDepth 20000 in
theorem okL_placeIn : MdOk mL_placeIn := ⟨tq3 161 rfl rfl, ⟨by decide, by decide⟩, tq1 0 rfl rfl⟩
theorem npL_placeIn : npar mL_placeIn 3 := by unfold npar; decide +kernel
set_option maxRecDepth 20000 in
theorem okL_place : MdOk mL_place := ⟨tq3 166 rfl rfl, ⟨by decide, by decide⟩, tq1 0 rfl rfl⟩
theorem npL_place : npar mL_place 2 := by unfold npar; decide +kernel
set_option maxRecDepth 20000 in
theorem okL_deal : MdOk mL_deal := ⟨tq3 54 rfl rfl, ⟨by decide, by decide⟩, tq1 0 rfl rfl⟩
theorem npL_deal : npar mL_deal 1 := by unfold npar; decide +kernel
set_option maxRecDepth 20000 in
theorem okL_isClash : MdOk mL_isClash := ⟨tq4 1 rfl rfl, ⟨by decide, by decide⟩, tq1 0 rfl rfl⟩
theorem npL_isClash : npar mL_isClash 2 := by unfold npar; decide +kernel
set_option maxRecDepth 20000 in
theorem okL_told : MdOk mL_told := ⟨tq3 72 rfl rfl, ⟨by decide, by decide⟩, tq1 0 rfl rfl⟩
theorem npL_told : npar mL_told 3 := by unfold npar; decide +kernel
set_option maxRecDepth 20000 in
theorem okL_falls : MdOk mL_falls := ⟨tq3 51 rfl rfl, ⟨by decide, by decide⟩, tq1 0 rfl rfl⟩
theorem npL_falls : npar mL_falls 3 := by unfold npar; decide +kernel
set_option maxRecDepth 20000 in
theorem okL_made : MdOk mL_made := ⟨tq3 48 rfl rfl, ⟨by decide, by decide⟩, tq1 0 rfl rfl⟩
theorem npL_made : npar mL_made 5 := by unfold npar; decide +kernel
set_option maxRecDepth 20000 in
theorem okL_same : MdOk mL_same := ⟨tq4 8 rfl rfl, ⟨by decide, by decide⟩, tq1 0 rfl rfl⟩
theorem npL_same : npar mL_same 2 := by unfold npar; decide +kernel
-- calls
set_option maxRecDepth 20000 in
theorem kL_116 : CalI RL 116 mX8_init 0 := ⟨okX8_init, npX8_init, rfl, rfl, tq1 23 rfl rfl, tq1 24 rfl rfl⟩
set_option maxRecDepth 20000 in
theorem kX8_1 : .methodLink RX8 1 Lib.objectInit ∈ TT := tq1 26 rfl rfl
set_option maxRecDepth 20000 in
theorem kX8_9 : CalIN RX8 9 mX0_init 0 := ⟨okX0_init, npX0_init, rfl, rfl, ⟨_, (show Cond.methodLinkNest RX8 9 yX0_init RX8 ∈ nestW by simp [nestW])⟩, tq1 32 rfl rfl⟩
set_option maxRecDepth 20000 in
theorem kX0_3 : .methodLink RX0 3 Lib.objectInit ∈ TT := tq1 34 rfl rfl
set_option maxRecDepth 20000 in
theorem kX8_22 : CalIN RX8 22 mX2_init 0 := ⟨okX2_init, npX2_init, rfl, rfl, ⟨_, (show Cond.methodLinkNest RX8 22 yX2_init RX8 ∈ nestW by simp [nestW])⟩, tq1 67 rfl rfl⟩
set_option maxRecDepth 20000 in
theorem kX2_3 : .methodLink RX2 3 Lib.objectInit ∈ TT := tq1 69 rfl rfl
set_option maxRecDepth 20000 in
theorem kX8_29 : CalI RX8 29 mX3_init 0 := ⟨okX3_init, npX3_init, rfl, rfl, tq1 76 rfl rfl, tq1 77 rfl rfl⟩
set_option maxRecDepth 20000 in
theorem kX3_3 : .methodLink RX3 3 Lib.objectInit ∈ TT := tq1 79 rfl rfl
set_option maxRecDepth 20000 in
theorem kX3_11 : CalIN RX3 11 mX7_init 0 := ⟨okX7_init, npX7_init, rfl, rfl, ⟨_, (show Cond.methodLinkNest RX3 11 yX7_init RX8 ∈ nestW by simp [nestW])⟩, tq1 83 rfl rfl⟩
set_option maxRecDepth 20000 in
theorem kX7_3 : .methodLink RX7 3 Lib.objectInit ∈ TT := tq1 85 rfl rfl
set_option maxRecDepth 20000 in
theorem kX3_30 : CalIN RX3 30 mX6_init 0 := ⟨okX6_init, npX6_init, rfl, rfl, ⟨_, (show Cond.methodLinkNest RX3 30 yX6_init RX8 ∈ nestW by simp [nestW])⟩, tq1 103 rfl rfl⟩
set_option maxRecDepth 20000 in
theorem kX6_3 : .methodLink RX6 3 Lib.objectInit ∈ TT := tq1 105 rfl rfl
set_option maxRecDepth 20000 in
theorem kX8_53 : CalIN RX8 53 mX5_init 0 := ⟨okX5_init, npX5_init, rfl, rfl, ⟨_, (show Cond.methodLinkNest RX8 53 yX5_init RX8 ∈ nestW by simp [nestW])⟩, tq1 129 rfl rfl⟩
set_option maxRecDepth 20000 in
theorem kX5_3 : .methodLink RX5 3 Lib.objectInit ∈ TT := tq1 131 rfl rfl
set_option maxRecDepth 20000 in
theorem kX8_54 : CalV RX8 54 2 mX2_startAll 2 := ⟨okX2_startAll, npX2_startAll, ⟨by decide, _, rfl, rfl⟩, tq1 144 rfl rfl, tq1 145 rfl rfl, tq1 146 rfl rfl⟩
set_option maxRecDepth 20000 in
theorem kL_68 : CalV RL 68 8 mX8_fall 1 := ⟨okX8_fall, npX8_fall, ⟨by decide, _, rfl, rfl⟩, tq1 177 rfl rfl, tq1 178 rfl rfl, tq1 179 rfl rfl⟩
set_option maxRecDepth 20000 in
theorem kX8_58 : CalS RX8 58 mX8_isOutside 2 := ⟨okX8_isOutside, npX8_isOutside, tq1 181 rfl rfl, tq1 182 rfl rfl⟩
set_option maxRecDepth 20000 in
theorem kX8_62 : CalV RX8 62 8 mX8_finding 1 := ⟨okX8_finding, npX8_finding, ⟨by decide, _, rfl, rfl⟩, tq1 184 rfl rfl, tq1 186 rfl rfl, tq0 0 rfl rfl⟩
set_option maxRecDepth 20000 in
theorem kL_108 : CalV RL 108 8 mX8_of 2 := ⟨okX8_of, npX8_of, ⟨by decide, _, rfl, rfl⟩, tq1 189 rfl rfl, tq1 190 rfl rfl, tq1 191 rfl rfl⟩
set_option maxRecDepth 20000 in
theorem kX8_128 : CalV RX8 128 0 mX0_dealAt 1 := ⟨okX0_dealAt, npX0_dealAt, ⟨by decide, _, rfl, rfl⟩, tq1 193 rfl rfl, tq1 194 rfl rfl, tq1 195 rfl rfl⟩
set_option maxRecDepth 20000 in
theorem kX0_56 : CalSN RX0 56 mX8_isOutside 2 := ⟨okX8_isOutside, npX8_isOutside, ⟨_, (show Cond.methodLinkNest RX0 56 yX8_isOutside RX8 ∈ nestW by simp [nestW])⟩, tq1 182 rfl rfl⟩
set_option maxRecDepth 20000 in
theorem kX8_153 : CalV RX8 153 8 mX8_countConveying 1 := ⟨okX8_countConveying, npX8_countConveying, ⟨by decide, _, rfl, rfl⟩, tq1 198 rfl rfl, tq1 200 rfl rfl, tq0 1 rfl rfl⟩
set_option maxRecDepth 20000 in
theorem kX8_181 : CalV RX8 181 0 mX0_endOpen 0 := ⟨okX0_endOpen, npX0_endOpen, ⟨by decide, _, rfl, rfl⟩, tq1 202 rfl rfl, tq1 203 rfl rfl, tq1 204 rfl rfl⟩
set_option maxRecDepth 20000 in
theorem kX0_46 : CalV RX0 46 0 mX0_firstOpen 0 := ⟨okX0_firstOpen, npX0_firstOpen, ⟨by decide, _, rfl, rfl⟩, tq1 206 rfl rfl, tq1 207 rfl rfl, tq1 208 rfl rfl⟩
set_option maxRecDepth 20000 in
theorem kX0_50 : CalV RX0 50 0 mX0_openCount 0 := ⟨okX0_openCount, npX0_openCount, ⟨by decide, _, rfl, rfl⟩, tq1 212 rfl rfl, tq1 213 rfl rfl, tq1 214 rfl rfl⟩
set_option maxRecDepth 20000 in
theorem kX8_84 : CalV RX8 84 0 mX0_firstOpen 0 := ⟨okX0_firstOpen, npX0_firstOpen, ⟨by decide, _, rfl, rfl⟩, tq1 218 rfl rfl, tq1 207 rfl rfl, tq1 208 rfl rfl⟩
set_option maxRecDepth 20000 in
theorem kX8_160 : CalV RX8 160 1 mX1_gives 1 := ⟨okX1_gives, npX1_gives, ⟨by decide, _, rfl, rfl⟩, tq1 219 rfl rfl, tq1 220 rfl rfl, tq1 221 rfl rfl⟩
set_option maxRecDepth 20000 in
theorem kX1_34 : CalV RX1 34 6 mX6_has 1 := ⟨okX6_has, npX6_has, ⟨by decide, _, rfl, rfl⟩, tq1 223 rfl rfl, tq1 224 rfl rfl, tq1 225 rfl rfl⟩
set_option maxRecDepth 20000 in
theorem kX1_40 : CalSN RX1 40 mX8_placeUnder 2 := ⟨okX8_placeUnder, npX8_placeUnder, ⟨_, (show Cond.methodLinkNest RX1 40 yX8_placeUnder RX8 ∈ nestW by simp [nestW])⟩, tq1 228 rfl rfl⟩
set_option maxRecDepth 20000 in
theorem kL_153 : CalV RL 153 8 mX8_conveys 3 := ⟨okX8_conveys, npX8_conveys, ⟨by decide, _, rfl, rfl⟩, tq1 233 rfl rfl, tq1 234 rfl rfl, tq1 235 rfl rfl⟩
set_option maxRecDepth 20000 in
theorem kX8_163 : CalV RX8 163 1 mX1_getsBack 1 := ⟨okX1_getsBack, npX1_getsBack, ⟨by decide, _, rfl, rfl⟩, tq1 237 rfl rfl, tq1 238 rfl rfl, tq1 239 rfl rfl⟩
set_option maxRecDepth 20000 in
theorem kX1_44 : CalV RX1 44 1 mX1_gives 1 := ⟨okX1_gives, npX1_gives, ⟨by decide, _, rfl, rfl⟩, tq2 1 rfl rfl, tq1 220 rfl rfl, tq1 221 rfl rfl⟩
set_option maxRecDepth 20000 in
theorem kL_193 : CalV RL 193 8 mX8_prune 0 := ⟨okX8_prune, npX8_prune, ⟨by decide, _, rfl, rfl⟩, tq2 2 rfl rfl, tq2 3 rfl rfl, tq2 4 rfl rfl⟩
set_option maxRecDepth 20000 in
theorem kL_150 : CalV RL 150 8 mX8_owner 2 := ⟨okX8_owner, npX8_owner, ⟨by decide, _, rfl, rfl⟩, tq2 6 rfl rfl, tq2 7 rfl rfl, tq2 8 rfl rfl⟩
set_option maxRecDepth 20000 in
theorem kX8_169 : CalV RX8 169 0 mX0_isOpen 1 := ⟨okX0_isOpen, npX0_isOpen, ⟨by decide, _, rfl, rfl⟩, tq2 10 rfl rfl, tq2 11 rfl rfl, tq2 12 rfl rfl⟩
set_option maxRecDepth 20000 in
theorem kX0_53 : CalV RX0 53 0 mX0_endOpen 0 := ⟨okX0_endOpen, npX0_endOpen, ⟨by decide, _, rfl, rfl⟩, tq2 14 rfl rfl, tq1 203 rfl rfl, tq1 204 rfl rfl⟩
set_option maxRecDepth 20000 in
theorem kX8_172 : CalV RX8 172 2 mX2_at 2 := ⟨okX2_at, npX2_at, ⟨by decide, _, rfl, rfl⟩, tq2 15 rfl rfl, tq2 16 rfl rfl, tq2 17 rfl rfl⟩
set_option maxRecDepth 20000 in
theorem kL_147 : CalV RL 147 8 mX8_chain 3 := ⟨okX8_chain, npX8_chain, ⟨by decide, _, rfl, rfl⟩, tq2 19 rfl rfl, tq2 20 rfl rfl, tq2 21 rfl rfl⟩
set_option maxRecDepth 20000 in
theorem kX8_175 : CalV RX8 175 1 mX1_takerOf 2 := ⟨okX1_takerOf, npX1_takerOf, ⟨by decide, _, rfl, rfl⟩, tq2 23 rfl rfl, tq2 24 rfl rfl, tq2 25 rfl rfl⟩
set_option maxRecDepth 20000 in
theorem kX1_48 : CalV RX1 48 1 mX1_mayGive 1 := ⟨okX1_mayGive, npX1_mayGive, ⟨by decide, _, rfl, rfl⟩, tq2 27 rfl rfl, tq2 29 rfl rfl, tq0 2 rfl rfl⟩
set_option maxRecDepth 20000 in
theorem kL_132 : CalV RL 132 8 mX8_hand 2 := ⟨okX8_hand, npX8_hand, ⟨by decide, _, rfl, rfl⟩, tq2 32 rfl rfl, tq2 33 rfl rfl, tq2 34 rfl rfl⟩
set_option maxRecDepth 20000 in
theorem kL_168 : CalV RL 168 8 mX8_owners 1 := ⟨okX8_owners, npX8_owners, ⟨by decide, _, rfl, rfl⟩, tq2 36 rfl rfl, tq2 37 rfl rfl, tq2 38 rfl rfl⟩
set_option maxRecDepth 20000 in
theorem kX8_178 : CalV RX8 178 8 mX8_everOwners 1 := ⟨okX8_everOwners, npX8_everOwners, ⟨by decide, _, rfl, rfl⟩, tq2 40 rfl rfl, tq2 42 rfl rfl, tq0 3 rfl rfl⟩
set_option maxRecDepth 20000 in
theorem kL_165 : CalV RL 165 8 mX8_sure 1 := ⟨okX8_sure, npX8_sure, ⟨by decide, _, rfl, rfl⟩, tq2 44 rfl rfl, tq2 45 rfl rfl, tq2 46 rfl rfl⟩
set_option maxRecDepth 20000 in
theorem kL_162 : CalV RL 162 8 mX8_chance 2 := ⟨okX8_chance, npX8_chance, ⟨by decide, _, rfl, rfl⟩, tq2 48 rfl rfl, tq2 49 rfl rfl, tq2 50 rfl rfl⟩
set_option maxRecDepth 20000 in
theorem kL_176 : CalV RL 176 8 mX8_least 2 := ⟨okX8_least, npX8_least, ⟨by decide, _, rfl, rfl⟩, tq2 52 rfl rfl, tq2 53 rfl rfl, tq2 54 rfl rfl⟩
set_option maxRecDepth 20000 in
theorem kL_135 : CalV RL 135 8 mX8_worth 2 := ⟨okX8_worth, npX8_worth, ⟨by decide, _, rfl, rfl⟩, tq2 56 rfl rfl, tq2 57 rfl rfl, tq2 58 rfl rfl⟩
set_option maxRecDepth 20000 in
theorem kX8_187 : CalV RX8 187 8 mX8_worthUnder 2 := ⟨okX8_worthUnder, npX8_worthUnder, ⟨by decide, _, rfl, rfl⟩, tq2 60 rfl rfl, tq2 62 rfl rfl, tq0 4 rfl rfl⟩
set_option maxRecDepth 20000 in
theorem kX8_69 : CalS RX8 69 mX8_placeUnder 2 := ⟨okX8_placeUnder, npX8_placeUnder, tq2 64 rfl rfl, tq1 228 rfl rfl⟩
set_option maxRecDepth 20000 in
theorem kL_156 : CalV RL 156 8 mX8_value 1 := ⟨okX8_value, npX8_value, ⟨by decide, _, rfl, rfl⟩, tq2 65 rfl rfl, tq2 66 rfl rfl, tq2 67 rfl rfl⟩
set_option maxRecDepth 20000 in
theorem kX8_190 : CalV RX8 190 8 mX8_longFinding 1 := ⟨okX8_longFinding, npX8_longFinding, ⟨by decide, _, rfl, rfl⟩, tq2 69 rfl rfl, tq2 71 rfl rfl, tq0 5 rfl rfl⟩
set_option maxRecDepth 20000 in
theorem kX8_194 : CalV RX8 194 8 mX8_worthOver 3 := ⟨okX8_worthOver, npX8_worthOver, ⟨by decide, _, rfl, rfl⟩, tq2 74 rfl rfl, tq2 76 rfl rfl, tq0 6 rfl rfl⟩
set_option maxRecDepth 20000 in
theorem kL_179 : CalV RL 179 8 mX8_best 2 := ⟨okX8_best, npX8_best, ⟨by decide, _, rfl, rfl⟩, tq2 78 rfl rfl, tq2 79 rfl rfl, tq2 80 rfl rfl⟩
set_option maxRecDepth 20000 in
theorem kL_182 : CalV RL 182 8 mX8_hope 1 := ⟨okX8_hope, npX8_hope, ⟨by decide, _, rfl, rfl⟩, tq2 82 rfl rfl, tq2 83 rfl rfl, tq2 84 rfl rfl⟩
set_option maxRecDepth 20000 in
theorem kL_144 : CalV RL 144 8 mX8_rounds 2 := ⟨okX8_rounds, npX8_rounds, ⟨by decide, _, rfl, rfl⟩, tq2 87 rfl rfl, tq2 88 rfl rfl, tq2 89 rfl rfl⟩
set_option maxRecDepth 20000 in
theorem kX8_203 : CalV RX8 203 5 mX5_isMissing 0 := ⟨okX5_isMissing, npX5_isMissing, ⟨by decide, _, rfl, rfl⟩, tq2 91 rfl rfl, tq2 92 rfl rfl, tq2 93 rfl rfl⟩
set_option maxRecDepth 20000 in
theorem kX8_208 : CalV RX8 208 8 mX8_tellsEachDeal 1 := ⟨okX8_tellsEachDeal, npX8_tellsEachDeal, ⟨by decide, _, rfl, rfl⟩, tq2 95 rfl rfl, tq2 97 rfl rfl, tq0 7 rfl rfl⟩
set_option maxRecDepth 20000 in
theorem kX8_212 : CalV RX8 212 8 mX8_countRounds 2 := ⟨okX8_countRounds, npX8_countRounds, ⟨by decide, _, rfl, rfl⟩, tq2 99 rfl rfl, tq2 101 rfl rfl, tq0 8 rfl rfl⟩
set_option maxRecDepth 20000 in
theorem kX8_286 : CalI RX8 286 mX4_init 1 := ⟨okX4_init, npX4_init, rfl, rfl, tq2 105 rfl rfl, tq2 106 rfl rfl⟩
set_option maxRecDepth 20000 in
theorem kX4_3 : .methodLink RX4 3 Lib.objectInit ∈ TT := tq2 108 rfl rfl
set_option maxRecDepth 20000 in
theorem kX8_289 : CalV RX8 289 8 mX8_goesOver 2 := ⟨okX8_goesOver, npX8_goesOver, ⟨by decide, _, rfl, rfl⟩, tq2 122 rfl rfl, tq2 124 rfl rfl, tq0 9 rfl rfl⟩
set_option maxRecDepth 20000 in
theorem kX8_293 : CalV RX8 293 4 mX4_move 2 := ⟨okX4_move, npX4_move, ⟨by decide, _, rfl, rfl⟩, tq2 126 rfl rfl, tq2 127 rfl rfl, tq2 128 rfl rfl⟩
set_option maxRecDepth 20000 in
theorem kX4_19 : CalV RX4 19 1 mX1_gives 1 := ⟨okX1_gives, npX1_gives, ⟨by decide, _, rfl, rfl⟩, tq2 130 rfl rfl, tq1 220 rfl rfl, tq1 221 rfl rfl⟩
set_option maxRecDepth 20000 in
theorem kX4_34 : CalV RX4 34 1 mX1_getsBack 1 := ⟨okX1_getsBack, npX1_getsBack, ⟨by decide, _, rfl, rfl⟩, tq2 131 rfl rfl, tq1 238 rfl rfl, tq1 239 rfl rfl⟩
set_option maxRecDepth 20000 in
theorem kL_138 : CalV RL 138 8 mX8_lays 2 := ⟨okX8_lays, npX8_lays, ⟨by decide, _, rfl, rfl⟩, tq2 132 rfl rfl, tq2 133 rfl rfl, tq2 134 rfl rfl⟩
set_option maxRecDepth 20000 in
theorem kX8_216 : CalS RX8 216 mJ9_min_7cf53 2 := ⟨okJ9_min_7cf53, npJ9_min_7cf53, tq2 136 rfl rfl, tq2 137 rfl rfl⟩
set_option maxRecDepth 20000 in
theorem kX8_221 : CalV RX8 221 5 mX5_put 2 := ⟨okX5_put, npX5_put, ⟨by decide, _, rfl, rfl⟩, tq2 139 rfl rfl, tq2 140 rfl rfl, tq2 141 rfl rfl⟩
set_option maxRecDepth 20000 in
theorem kL_141 : CalV RL 141 8 mX8_judge 2 := ⟨okX8_judge, npX8_judge, ⟨by decide, _, rfl, rfl⟩, tq2 143 rfl rfl, tq2 144 rfl rfl, tq2 145 rfl rfl⟩
set_option maxRecDepth 20000 in
theorem kL_122 : CalV RL 122 8 mX8_sheet 3 := ⟨okX8_sheet, npX8_sheet, ⟨by decide, _, rfl, rfl⟩, tq2 147 rfl rfl, tq2 148 rfl rfl, tq2 149 rfl rfl⟩
set_option maxRecDepth 20000 in
theorem kX8_233 : CalV RX8 233 5 mX5_become 2 := ⟨okX5_become, npX5_become, ⟨by decide, _, rfl, rfl⟩, tq2 151 rfl rfl, tq2 152 rfl rfl, tq2 153 rfl rfl⟩
set_option maxRecDepth 20000 in
theorem kL_125 : CalV RL 125 8 mX8_write 3 := ⟨okX8_write, npX8_write, ⟨by decide, _, rfl, rfl⟩, tq2 155 rfl rfl, tq2 156 rfl rfl, tq2 157 rfl rfl⟩
set_option maxRecDepth 20000 in
theorem kL_185 : CalV RL 185 8 mX8_image 0 := ⟨okX8_image, npX8_image, ⟨by decide, _, rfl, rfl⟩, tq2 159 rfl rfl, tq2 160 rfl rfl, tq2 161 rfl rfl⟩
set_option maxRecDepth 20000 in
theorem kX8_257 : CalV RX8 257 0 mX0_become 1 := ⟨okX0_become, npX0_become, ⟨by decide, _, rfl, rfl⟩, tq2 163 rfl rfl, tq2 164 rfl rfl, tq2 165 rfl rfl⟩
set_option maxRecDepth 20000 in
theorem kX0_31 : .methodLink RX0 31 (⟨"java/lang/System", "arraycopy", "(Ljava/lang/Object;ILjava/lang/Object;II)V"⟩ : MethodName) ∈ TT := tq2 167 rfl rfl
set_option maxRecDepth 20000 in
theorem kL_190 : CalV RL 190 8 mX8_back 0 := ⟨okX8_back, npX8_back, ⟨by decide, _, rfl, rfl⟩, tq2 170 rfl rfl, tq2 171 rfl rfl, tq2 172 rfl rfl⟩
set_option maxRecDepth 20000 in
theorem kX8_125 : CalV RX8 125 8 mX8_settleAll 0 := ⟨okX8_settleAll, npX8_settleAll, ⟨by decide, _, rfl, rfl⟩, tq2 174 rfl rfl, tq2 176 rfl rfl, tq0 10 rfl rfl⟩
set_option maxRecDepth 20000 in
theorem kX8_276 : CalV RX8 276 2 mX2_settle 3 := ⟨okX2_settle, npX2_settle, ⟨by decide, _, rfl, rfl⟩, tq2 178 rfl rfl, tq2 179 rfl rfl, tq2 180 rfl rfl⟩
set_option maxRecDepth 20000 in
theorem kX2_16 : CalV RX2 16 1 mX1_gives 1 := ⟨okX1_gives, npX1_gives, ⟨by decide, _, rfl, rfl⟩, tq2 182 rfl rfl, tq1 220 rfl rfl, tq1 221 rfl rfl⟩
set_option maxRecDepth 20000 in
theorem kX2_26 : CalV RX2 26 2 mX2_give 3 := ⟨okX2_give, npX2_give, ⟨by decide, _, rfl, rfl⟩, tq2 183 rfl rfl, tq2 185 rfl rfl, tq0 11 rfl rfl⟩
set_option maxRecDepth 20000 in
theorem kL_101 : CalV RL 101 8 mX8_count 1 := ⟨okX8_count, npX8_count, ⟨by decide, _, rfl, rfl⟩, tq2 187 rfl rfl, tq2 188 rfl rfl, tq2 189 rfl rfl⟩
set_option maxRecDepth 20000 in
theorem kX8_88 : CalV RX8 88 0 mX0_openCount 0 := ⟨okX0_openCount, npX0_openCount, ⟨by decide, _, rfl, rfl⟩, tq2 191 rfl rfl, tq1 213 rfl rfl, tq1 214 rfl rfl⟩
set_option maxRecDepth 20000 in
theorem kX8_260 : CalV RX8 260 8 mX8_countHeld 0 := ⟨okX8_countHeld, npX8_countHeld, ⟨by decide, _, rfl, rfl⟩, tq2 192 rfl rfl, tq2 194 rfl rfl, tq0 12 rfl rfl⟩
set_option maxRecDepth 20000 in
theorem kL_117 : CalIN RL 117 mX9_init 0 := ⟨okX9_init, npX9_init, rfl, rfl, ⟨_, (show Cond.methodLinkNest RL 117 yX9_init RL ∈ nestW by simp [nestW])⟩, tq2 199 rfl rfl⟩
set_option maxRecDepth 20000 in
theorem kX9_1 : .methodLink RX9 1 Lib.objectInit ∈ TT := tq2 201 rfl rfl
set_option maxRecDepth 20000 in
theorem kX9_9 : CalI RX9 9 mJx4a65c_init_da8c8 0 := ⟨okJx4a65c_init_da8c8, npJx4a65c_init_da8c8, rfl, rfl, tq2 204 rfl rfl, tq2 205 rfl rfl⟩
set_option maxRecDepth 20000 in
theorem kJx4a65c_1 : CalI RJx4a65c 1 mJxc12de_init_da8c8 0 := ⟨okJxc12de_init_da8c8, npJxc12de_init_da8c8, rfl, rfl, tq2 207 rfl rfl, tq2 208 rfl rfl⟩
set_option maxRecDepth 20000 in
theorem kJxc12de_1 : CalI RJxc12de 1 mJxa1e45_init_da8c8 0 := ⟨okJxa1e45_init_da8c8, npJxa1e45_init_da8c8, rfl, rfl, tq2 210 rfl rfl, tq2 211 rfl rfl⟩
set_option maxRecDepth 20000 in
theorem kJxa1e45_1 : .methodLink RJxa1e45 1 Lib.objectInit ∈ TT := tq2 213 rfl rfl
set_option maxRecDepth 20000 in
theorem kL_129 : CalV RL 129 9 mX9_from 0 := ⟨okX9_from, npX9_from, ⟨by decide, _, rfl, rfl⟩, tq3 31 rfl rfl, tq3 32 rfl rfl, tq3 33 rfl rfl⟩
set_option maxRecDepth 20000 in
theorem kL_104 : CalV RL 104 9 mX9_size 0 := ⟨okX9_size, npX9_size, ⟨by decide, _, rfl, rfl⟩, tq3 35 rfl rfl, tq3 36 rfl rfl, tq3 37 rfl rfl⟩
set_option maxRecDepth 20000 in
theorem kL_71 : CalS RL 71 mL_at 2 := ⟨okL_at, npL_at, tq3 39 rfl rfl, tq3 40 rfl rfl⟩
set_option maxRecDepth 20000 in
theorem kL_18 : CalS RL 18 mL_mod 2 := ⟨okL_mod, npL_mod, tq3 43 rfl rfl, tq3 44 rfl rfl⟩
set_option maxRecDepth 20000 in
theorem kL_118 : CalS RL 118 mL_made 5 := ⟨okL_made, npL_made, tq3 46 rfl rfl, tq3 47 rfl rfl⟩
set_option maxRecDepth 20000 in
theorem kL_75 : CalS RL 75 mL_falls 3 := ⟨okL_falls, npL_falls, tq3 49 rfl rfl, tq3 50 rfl rfl⟩
set_option maxRecDepth 20000 in
theorem kL_79 : CalS RL 79 mL_deal 1 := ⟨okL_deal, npL_deal, tq3 52 rfl rfl, tq3 53 rfl rfl⟩
set_option maxRecDepth 20000 in
theorem kL_90 : CalV RL 90 10 mJx4a65c_get_915e3 1 := ⟨okJx4a65c_get_915e3, npJx4a65c_get_915e3, ⟨by decide, _, rfl, rfl⟩, tq3 55 rfl rfl, tq3 56 rfl rfl, tq3 57 rfl rfl⟩
set_option maxRecDepth 20000 in
theorem kJx4a65c_118 : CalS RJx4a65c 118 mJ15_checkIndex_7cf53 2 := ⟨okJ15_checkIndex_7cf53, npJ15_checkIndex_7cf53, tq3 59 rfl rfl, tq3 60 rfl rfl⟩
set_option maxRecDepth 20000 in
theorem kJ15_105 : CalS RJ15 105 mJ3_checkIndex_8e157 3 := ⟨okJ3_checkIndex_8e157, npJ3_checkIndex_8e157, tq3 62 rfl rfl, tq3 63 rfl rfl⟩
set_option maxRecDepth 20000 in
theorem kJx4a65c_123 : CalV RJx4a65c 123 10 mJx4a65c_elementData_915e3 1 := ⟨okJx4a65c_elementData_915e3, npJx4a65c_elementData_915e3, ⟨by decide, _, rfl, rfl⟩, tq3 65 rfl rfl, tq3 66 rfl rfl, tq3 67 rfl rfl⟩
set_option maxRecDepth 20000 in
theorem kL_97 : CalS RL 97 mL_told 3 := ⟨okL_told, npL_told, tq3 70 rfl rfl, tq3 71 rfl rfl⟩
set_option maxRecDepth 20000 in
theorem kL_46 : CalV RL 46 9 mX9_comes 2 := ⟨okX9_comes, npX9_comes, ⟨by decide, _, rfl, rfl⟩, tq3 73 rfl rfl, tq3 74 rfl rfl, tq3 75 rfl rfl⟩
set_option maxRecDepth 20000 in
theorem kX9_88 : CalV RX9 88 10 mJx4a65c_add_9ea2d 1 := ⟨okJx4a65c_add_9ea2d, npJx4a65c_add_9ea2d, ⟨by decide, _, rfl, rfl⟩, tq3 77 rfl rfl, tq3 78 rfl rfl, tq3 79 rfl rfl⟩
set_option maxRecDepth 20000 in
theorem kJx4a65c_131 : CalV RJx4a65c 131 10 mJx4a65c_add_72be8 3 := ⟨okJx4a65c_add_72be8, npJx4a65c_add_72be8, ⟨by decide, _, rfl, rfl⟩, tq3 81 rfl rfl, tq3 83 rfl rfl, tq0 13 rfl rfl⟩
set_option maxRecDepth 20000 in
theorem kJx4a65c_129 : CalV RJx4a65c 129 10 mJx4a65c_grow_d5877 0 := ⟨okJx4a65c_grow_d5877, npJx4a65c_grow_d5877, ⟨by decide, _, rfl, rfl⟩, tq3 85 rfl rfl, tq3 87 rfl rfl, tq0 14 rfl rfl⟩
set_option maxRecDepth 20000 in
theorem kJx4a65c_69 : CalV RJx4a65c 69 10 mJx4a65c_grow_92f84 1 := ⟨okJx4a65c_grow_92f84, npJx4a65c_grow_92f84, ⟨by decide, _, rfl, rfl⟩, tq3 89 rfl rfl, tq3 91 rfl rfl, tq0 15 rfl rfl⟩
set_option maxRecDepth 20000 in
theorem kJx4a65c_73 : CalS RJx4a65c 73 mJ8_newLength_cabcc 3 := ⟨okJ8_newLength_cabcc, npJ8_newLength_cabcc, tq3 93 rfl rfl, tq3 94 rfl rfl⟩
set_option maxRecDepth 20000 in
theorem kJ8_194 : CalS RJ8 194 mJ9_max_7cf53 2 := ⟨okJ9_max_7cf53, npJ9_max_7cf53, tq3 96 rfl rfl, tq3 97 rfl rfl⟩
set_option maxRecDepth 20000 in
theorem kJ8_201 : CalS RJ8 201 mJ8_hugeLength_7cf53 2 := ⟨okJ8_hugeLength_7cf53, npJ8_hugeLength_7cf53, tq3 100 rfl rfl, tq3 101 rfl rfl⟩
set_option maxRecDepth 20000 in
theorem kJx4a65c_66 : CalS RJx4a65c 66 mJ7_copyOf_1904c 2 := ⟨okJ7_copyOf_1904c, npJ7_copyOf_1904c, tq3 103 rfl rfl, tq3 104 rfl rfl⟩
set_option maxRecDepth 20000 in
theorem kJ7_86 : .methodLink RJ7 86 (⟨"java/lang/Object", "getClass", "()Ljava/lang/Class;"⟩ : MethodName) ∈ TT := tq3 106 rfl rfl
set_option maxRecDepth 20000 in
theorem kJ7_300 : CalS RJ7 300 mJ7_copyOf_6403c 3 := ⟨okJ7_copyOf_6403c, npJ7_copyOf_6403c, tq3 121 rfl rfl, tq3 122 rfl rfl⟩
set_option maxRecDepth 20000 in
theorem kJ7_304 : CalS RJ7 304 mJ9_min_7cf53 2 := ⟨okJ9_min_7cf53, npJ9_min_7cf53, tq3 127 rfl rfl, tq2 137 rfl rfl⟩
set_option maxRecDepth 20000 in
theorem kJ7_150 : .methodLink RJ7 150 (⟨"java/lang/System", "arraycopy", "(Ljava/lang/Object;ILjava/lang/Object;II)V"⟩ : MethodName) ∈ TT := tq3 128 rfl rfl
set_option maxRecDepth 20000 in
theorem kJx4a65c_79 : CalS RJx4a65c 79 mJ9_max_7cf53 2 := ⟨okJ9_max_7cf53, npJ9_max_7cf53, tq3 129 rfl rfl, tq3 97 rfl rfl⟩
set_option maxRecDepth 20000 in
theorem kX9_92 : CalV RX9 92 10 mJx4a65c_size_8abf5 0 := ⟨okJx4a65c_size_8abf5, npJx4a65c_size_8abf5, ⟨by decide, _, rfl, rfl⟩, tq3 131 rfl rfl, tq3 132 rfl rfl, tq3 133 rfl rfl⟩
set_option maxRecDepth 20000 in
theorem kX9_93 : CalV RX9 93 9 mX9_clashes 0 := ⟨okX9_clashes, npX9_clashes, ⟨by decide, _, rfl, rfl⟩, tq3 135 rfl rfl, tq3 136 rfl rfl, tq3 137 rfl rfl⟩
set_option maxRecDepth 20000 in
theorem kX9_69 : CalV RX9 69 9 mX9_from 0 := ⟨okX9_from, npX9_from, ⟨by decide, _, rfl, rfl⟩, tq3 139 rfl rfl, tq3 32 rfl rfl, tq3 33 rfl rfl⟩
set_option maxRecDepth 20000 in
theorem kX9_73 : CalV RX9 73 9 mX9_size 0 := ⟨okX9_size, npX9_size, ⟨by decide, _, rfl, rfl⟩, tq3 140 rfl rfl, tq3 36 rfl rfl, tq3 37 rfl rfl⟩
set_option maxRecDepth 20000 in
theorem kX9_76 : CalV RX9 76 9 mX9_chain 2 := ⟨okX9_chain, npX9_chain, ⟨by decide, _, rfl, rfl⟩, tq3 141 rfl rfl, tq3 142 rfl rfl, tq3 143 rfl rfl⟩
set_option maxRecDepth 20000 in
theorem kX9_63 : CalV RX9 63 9 mX9_conveys 3 := ⟨okX9_conveys, npX9_conveys, ⟨by decide, _, rfl, rfl⟩, tq3 145 rfl rfl, tq3 146 rfl rfl, tq3 147 rfl rfl⟩
set_option maxRecDepth 20000 in
theorem kX9_36 : CalV RX9 36 10 mJx4a65c_get_915e3 1 := ⟨okJx4a65c_get_915e3, npJx4a65c_get_915e3, ⟨by decide, _, rfl, rfl⟩, tq3 149 rfl rfl, tq3 56 rfl rfl, tq3 57 rfl rfl⟩
set_option maxRecDepth 20000 in
theorem kX9_51 : CalV RX9 51 9 mX9_holds 2 := ⟨okX9_holds, npX9_holds, ⟨by decide, _, rfl, rfl⟩, tq3 151 rfl rfl, tq3 152 rfl rfl, tq3 153 rfl rfl⟩
set_option maxRecDepth 20000 in
theorem kX9_41 : CalV RX9 41 9 mX9_lapses 2 := ⟨okX9_lapses, npX9_lapses, ⟨by decide, _, rfl, rfl⟩, tq3 155 rfl rfl, tq3 156 rfl rfl, tq3 157 rfl rfl⟩
set_option maxRecDepth 20000 in
theorem kX9_45 : CalSN RX9 45 mL_placeIn 3 := ⟨okL_placeIn, npL_placeIn, ⟨_, (show Cond.methodLinkNest RX9 45 yL_placeIn RL ∈ nestW by simp [nestW])⟩, tq3 160 rfl rfl⟩
set_option maxRecDepth 20000 in
theorem kX9_54 : CalSN RX9 54 mL_place 2 := ⟨okL_place, npL_place, ⟨_, (show Cond.methodLinkNest RX9 54 yL_place RL ∈ nestW by simp [nestW])⟩, tq3 165 rfl rfl⟩
set_option maxRecDepth 20000 in
theorem kL_14 : CalS RL 14 mL_placeIn 3 := ⟨okL_placeIn, npL_placeIn, tq3 167 rfl rfl, tq3 160 rfl rfl⟩
set_option maxRecDepth 20000 in
theorem kX9_58 : CalS RX9 58 mJ9_max_7cf53 2 := ⟨okJ9_max_7cf53, npJ9_max_7cf53, tq3 168 rfl rfl, tq3 97 rfl rfl⟩
set_option maxRecDepth 20000 in
theorem kL_53 : CalV RL 53 8 mX8_sale 5 := ⟨okX8_sale, npX8_sale, ⟨by decide, _, rfl, rfl⟩, tq3 172 rfl rfl, tq3 173 rfl rfl, tq3 174 rfl rfl⟩
set_option maxRecDepth 20000 in
theorem kX8_91 : CalS RX8 91 mX8_areNoPair 2 := ⟨okX8_areNoPair, npX8_areNoPair, tq3 176 rfl rfl, tq3 177 rfl rfl⟩
set_option maxRecDepth 20000 in
theorem kX8_94 : CalI RX8 94 mX1_init 7 := ⟨okX1_init, npX1_init, rfl, rfl, tq3 179 rfl rfl, tq3 180 rfl rfl⟩
set_option maxRecDepth 20000 in
theorem kX1_3 : .methodLink RX1 3 Lib.objectInit ∈ TT := tq3 182 rfl rfl
set_option maxRecDepth 20000 in
theorem kX8_97 : CalV RX8 97 8 mX8_enter 1 := ⟨okX8_enter, npX8_enter, ⟨by decide, _, rfl, rfl⟩, tq3 217 rfl rfl, tq3 219 rfl rfl, tq0 16 rfl rfl⟩
set_option maxRecDepth 20000 in
theorem kX8_121 : CalV RX8 121 8 mX8_takes 1 := ⟨okX8_takes, npX8_takes, ⟨by decide, _, rfl, rfl⟩, tq3 221 rfl rfl, tq3 223 rfl rfl, tq0 17 rfl rfl⟩
set_option maxRecDepth 20000 in
theorem kX8_272 : CalV RX8 272 8 mX8_clashesUnder 2 := ⟨okX8_clashesUnder, npX8_clashesUnder, ⟨by decide, _, rfl, rfl⟩, tq3 225 rfl rfl, tq3 227 rfl rfl, tq0 18 rfl rfl⟩
set_option maxRecDepth 20000 in
theorem kX8_280 : CalV RX8 280 0 mX0_clashOf 4 := ⟨okX0_clashOf, npX0_clashOf, ⟨by decide, _, rfl, rfl⟩, tq3 229 rfl rfl, tq3 230 rfl rfl, tq3 231 rfl rfl⟩
set_option maxRecDepth 20000 in
theorem kX0_60 : CalV RX0 60 0 mX0_dealAt 1 := ⟨okX0_dealAt, npX0_dealAt, ⟨by decide, _, rfl, rfl⟩, tq3 233 rfl rfl, tq1 194 rfl rfl, tq1 195 rfl rfl⟩
set_option maxRecDepth 20000 in
theorem kX0_64 : CalV RX0 64 1 mX1_takerOf 2 := ⟨okX1_takerOf, npX1_takerOf, ⟨by decide, _, rfl, rfl⟩, tq3 234 rfl rfl, tq2 24 rfl rfl, tq2 25 rfl rfl⟩
set_option maxRecDepth 20000 in
theorem kL_57 : CalV RL 57 8 mX8_swap 5 := ⟨okX8_swap, npX8_swap, ⟨by decide, _, rfl, rfl⟩, tq3 235 rfl rfl, tq3 236 rfl rfl, tq3 237 rfl rfl⟩
set_option maxRecDepth 20000 in
theorem kL_60 : CalS RL 60 mL_isClash 2 := ⟨okL_isClash, npL_isClash, tq3 239 rfl rfl, tq4 0 rfl rfl⟩
set_option maxRecDepth 20000 in
theorem kL_22 : CalV RL 22 8 mX8_clash 1 := ⟨okX8_clash, npX8_clash, ⟨by decide, _, rfl, rfl⟩, tq4 2 rfl rfl, tq4 3 rfl rfl, tq4 4 rfl rfl⟩
set_option maxRecDepth 20000 in
theorem kL_196 : CalS RL 196 mL_same 2 := ⟨okL_same, npL_same, tq4 6 rfl rfl, tq4 7 rfl rfl⟩
set_option maxRecDepth 20000 in
theorem kL_114 : CalV RL 114 8 mX8_fallen 1 := ⟨okX8_fallen, npX8_fallen, ⟨by decide, _, rfl, rfl⟩, tq4 9 rfl rfl, tq4 10 rfl rfl, tq4 11 rfl rfl⟩
set_option maxRecDepth 20000 in
theorem kL_171 : CalS RL 171 mJ6_bitCount_0f7a4 1 := ⟨okJ6_bitCount_0f7a4, npJ6_bitCount_0f7a4, tq4 13 rfl rfl, tq4 14 rfl rfl⟩
set_option maxRecDepth 20000 in
theorem w_objI : .instanceMethod Lib.objectInit ∈ TT := tq1 27 rfl rfl
set_option maxRecDepth 20000 in
theorem w_objC : .code Lib.objectInit ⟨#[0xb1]⟩ 1 none ∈ TT := tq1 28 rfl rfl
-- fields
set_option maxRecDepth 20000 in
theorem fX0_11 : Fld RX0 11 0 0 (.array (.object "RolledPicks$Deal")) true := ⟨_, rfl, by decide, ⟨_, tq1 37 rfl rfl, Or.inl rfl⟩, rfl, rfl, fun _ => rfl⟩
set_option maxRecDepth 20000 in
theorem fX8_166 : Fld RX8 166 0 0 (.array (.object "RolledPicks$Deal")) true := ⟨_, rfl, by decide, ⟨_, tq1 38 rfl rfl, Or.inl rfl⟩, rfl, rfl, fun _ => rfl⟩
set_option maxRecDepth 20000 in
theorem fX0_28 : Fld RX0 28 0 1 (.int) false := ⟨_, rfl, by decide, ⟨_, tq1 39 rfl rfl, Or.inl rfl⟩, rfl, rfl, fun z => by cases z⟩
set_option maxRecDepth 20000 in
theorem fX8_101 : Fld RX8 101 0 1 (.int) false := ⟨_, rfl, by decide, ⟨_, tq1 40 rfl rfl, Or.inl rfl⟩, rfl, rfl, fun z => by cases z⟩
set_option maxRecDepth 20000 in
theorem fX0_17 : Fld RX0 17 0 2 (.array .int) true := ⟨_, rfl, by decide, ⟨_, tq1 41 rfl rfl, Or.inl rfl⟩, rfl, rfl, fun _ => rfl⟩
set_option maxRecDepth 20000 in
theorem fX8_77 : Fld RX8 77 0 2 (.array .int) true := ⟨_, rfl, by decide, ⟨_, tq1 42 rfl rfl, Or.inl rfl⟩, rfl, rfl, fun _ => rfl⟩
set_option maxRecDepth 20000 in
theorem fX0_37 : Fld RX0 37 0 3 (.int) false := ⟨_, rfl, by decide, ⟨_, tq1 43 rfl rfl, Or.inl rfl⟩, rfl, rfl, fun z => by cases z⟩
set_option maxRecDepth 20000 in
theorem fX8_73 : Fld RX8 73 0 3 (.int) false := ⟨_, rfl, by decide, ⟨_, tq1 44 rfl rfl, Or.inl rfl⟩, rfl, rfl, fun z => by cases z⟩
set_option maxRecDepth 20000 in
theorem fX0_21 : Fld RX0 21 0 4 (.array .int) true := ⟨_, rfl, by decide, ⟨_, tq1 45 rfl rfl, Or.inl rfl⟩, rfl, rfl, fun _ => rfl⟩
set_option maxRecDepth 20000 in
theorem fX8_184 : Fld RX8 184 0 4 (.array .int) true := ⟨_, rfl, by decide, ⟨_, tq1 46 rfl rfl, Or.inl rfl⟩, rfl, rfl, fun _ => rfl⟩
set_option maxRecDepth 20000 in
theorem fX0_24 : Fld RX0 24 0 5 (.int) false := ⟨_, rfl, by decide, ⟨_, tq1 47 rfl rfl, Or.inl rfl⟩, rfl, rfl, fun z => by cases z⟩
set_option maxRecDepth 20000 in
theorem fX8_80 : Fld RX8 80 0 5 (.int) false := ⟨_, rfl, by decide, ⟨_, tq1 48 rfl rfl, Or.inl rfl⟩, rfl, rfl, fun z => by cases z⟩
set_option maxRecDepth 20000 in
theorem fX2_9 : Fld RX2 9 2 0 (.array .int) true := ⟨_, rfl, by decide, ⟨_, tq1 70 rfl rfl, Or.inl rfl⟩, rfl, rfl, fun _ => rfl⟩
set_option maxRecDepth 20000 in
theorem fX7_9 : Fld RX7 9 7 0 (.array .byte) true := ⟨_, rfl, by decide, ⟨_, tq1 86 rfl rfl, Or.inl rfl⟩, rfl, rfl, fun _ => rfl⟩
set_option maxRecDepth 20000 in
theorem fX8_112 : Fld RX8 112 7 1 (.int) false := ⟨_, rfl, by decide, ⟨_, tq1 87 rfl rfl, Or.inl rfl⟩, rfl, rfl, fun z => by cases z⟩
set_option maxRecDepth 20000 in
theorem fX6_11 : Fld RX6 11 6 0 (.array .long) true := ⟨_, rfl, by decide, ⟨_, tq1 106 rfl rfl, Or.inl rfl⟩, rfl, rfl, fun _ => rfl⟩
set_option maxRecDepth 20000 in
theorem fX3_12 : Fld RX3 12 3 0 (.object "RolledPicks$Tape") true := ⟨_, rfl, by decide, ⟨_, tq1 111 rfl rfl, Or.inl rfl⟩, rfl, rfl, fun _ => rfl⟩
set_option maxRecDepth 20000 in
theorem fX8_108 : Fld RX8 108 3 0 (.object "RolledPicks$Tape") true := ⟨_, rfl, by decide, ⟨_, tq1 112 rfl rfl, Or.inl rfl⟩, rfl, rfl, fun _ => rfl⟩
set_option maxRecDepth 20000 in
theorem fX3_20 : Fld RX3 20 3 1 (.array (.object "RolledPicks$Deal")) true := ⟨_, rfl, by decide, ⟨_, tq1 113 rfl rfl, Or.inl rfl⟩, rfl, rfl, fun _ => rfl⟩
set_option maxRecDepth 20000 in
theorem fX3_26 : Fld RX3 26 3 3 (.array (.object "RolledPicks$Standings")) true := ⟨_, rfl, by decide, ⟨_, tq1 114 rfl rfl, Or.inl rfl⟩, rfl, rfl, fun _ => rfl⟩
set_option maxRecDepth 20000 in
theorem fX5_9 : Fld RX5 9 5 0 (.array .long) true := ⟨_, rfl, by decide, ⟨_, tq1 132 rfl rfl, Or.inl rfl⟩, rfl, rfl, fun _ => rfl⟩
set_option maxRecDepth 20000 in
theorem fX8_225 : Fld RX8 225 5 0 (.array .long) true := ⟨_, rfl, by decide, ⟨_, tq1 133 rfl rfl, Or.inl rfl⟩, rfl, rfl, fun _ => rfl⟩
set_option maxRecDepth 20000 in
theorem fX5_15 : Fld RX5 15 5 1 (.int) false := ⟨_, rfl, by decide, ⟨_, tq1 134 rfl rfl, Or.inl rfl⟩, rfl, rfl, fun z => by cases z⟩
set_option maxRecDepth 20000 in
theorem fX5_19 : Fld RX5 19 5 2 (.int) false := ⟨_, rfl, by decide, ⟨_, tq1 135 rfl rfl, Or.inl rfl⟩, rfl, rfl, fun z => by cases z⟩
set_option maxRecDepth 20000 in
theorem fX8_207 : Fld RX8 207 5 2 (.int) false := ⟨_, rfl, by decide, ⟨_, tq1 136 rfl rfl, Or.inl rfl⟩, rfl, rfl, fun z => by cases z⟩
set_option maxRecDepth 20000 in
theorem fX8_10 : Fld RX8 10 8 0 (.object "RolledPicks$Book") true := ⟨_, rfl, by decide, ⟨_, tq1 149 rfl rfl, Or.inl rfl⟩, rfl, rfl, fun _ => rfl⟩
set_option maxRecDepth 20000 in
theorem fX8_16 : Fld RX8 16 8 1 (.array (.object "RolledPicks$Book")) true := ⟨_, rfl, by decide, ⟨_, tq1 150 rfl rfl, Or.inl rfl⟩, rfl, rfl, fun _ => rfl⟩
set_option maxRecDepth 20000 in
theorem fX8_254 : Fld RX8 254 8 2 (.int) false := ⟨_, rfl, by decide, ⟨_, tq1 151 rfl rfl, Or.inl rfl⟩, rfl, rfl, fun z => by cases z⟩
set_option maxRecDepth 20000 in
theorem fX8_23 : Fld RX8 23 8 3 (.object "RolledPicks$Owners") true := ⟨_, rfl, by decide, ⟨_, tq1 152 rfl rfl, Or.inl rfl⟩, rfl, rfl, fun _ => rfl⟩
set_option maxRecDepth 20000 in
theorem fX8_30 : Fld RX8 30 8 4 (.object "RolledPicks$Reader") true := ⟨_, rfl, by decide, ⟨_, tq1 153 rfl rfl, Or.inl rfl⟩, rfl, rfl, fun _ => rfl⟩
set_option maxRecDepth 20000 in
theorem fX8_36 : Fld RX8 36 8 5 (.array (.object "RolledPicks$Sheet")) true := ⟨_, rfl, by decide, ⟨_, tq1 154 rfl rfl, Or.inl rfl⟩, rfl, rfl, fun _ => rfl⟩
set_option maxRecDepth 20000 in
theorem fX8_42 : Fld RX8 42 8 6 (.array (.object "RolledPicks$Deal")) true := ⟨_, rfl, by decide, ⟨_, tq1 155 rfl rfl, Or.inl rfl⟩, rfl, rfl, fun _ => rfl⟩
set_option maxRecDepth 20000 in
theorem fX8_46 : Fld RX8 46 8 7 (.array .int) true := ⟨_, rfl, by decide, ⟨_, tq1 156 rfl rfl, Or.inl rfl⟩, rfl, rfl, fun _ => rfl⟩
set_option maxRecDepth 20000 in
theorem fX8_50 : Fld RX8 50 8 8 (.array .int) true := ⟨_, rfl, by decide, ⟨_, tq1 157 rfl rfl, Or.inl rfl⟩, rfl, rfl, fun _ => rfl⟩
theorem gX0_40 : .fieldLinkNest RX0 40 RX8 "YEAR_STEP" "[I" RX8 ∈ nestW := by simp [nestW]
theorem gX0_43 : .fieldLinkNest RX0 43 RX8 "OPEN_LEFT" "[I" RX8 ∈ nestW := by simp [nestW]
set_option maxRecDepth 20000 in
theorem gX8_198 : .fieldLink RX8 198 RX8 "YEAR_STEP" "[I" ∈ TT := tq1 230 rfl rfl
set_option maxRecDepth 20000 in
theorem gX8_263 : .fieldLink RX8 263 RX8 "PLACE_OF" "[I" ∈ TT := tq1 231 rfl rfl
set_option maxRecDepth 20000 in
theorem fX4_15 : Fld RX4 15 4 0 (.int) true := ⟨_, rfl, by decide, ⟨_, tq2 109 rfl rfl, Or.inl rfl⟩, rfl, rfl, fun _ => rfl⟩
set_option maxRecDepth 20000 in
theorem fX4_9 : Fld RX4 9 4 1 (.array .int) true := ⟨_, rfl, by decide, ⟨_, tq2 110 rfl rfl, Or.inl rfl⟩, rfl, rfl, fun _ => rfl⟩
set_option maxRecDepth 20000 in
theorem fX4_28 : Fld RX4 28 4 2 (.int) false := ⟨_, rfl, by decide, ⟨_, tq2 111 rfl rfl, Or.inl rfl⟩, rfl, rfl, fun z => by cases z⟩
set_option maxRecDepth 20000 in
theorem fX4_37 : Fld RX4 37 4 3 (.int) false := ⟨_, rfl, by decide, ⟨_, tq2 112 rfl rfl, Or.inl rfl⟩, rfl, rfl, fun z => by cases z⟩
set_option maxRecDepth 20000 in
theorem gJx4a65c_39 : .fieldLink RJx4a65c 39 RJx4a65c "DEFAULTCAPACITY_EMPTY_ELEMENTDATA" "[Ljava/lang/Object;" ∈ TT := tq2 214 rfl rfl
set_option maxRecDepth 20000 in
theorem fJx4a65c_9 : Fld RJx4a65c 9 10 1 (.array (.object "java/lang/Object")) false := ⟨_, rfl, by decide, ⟨_, tq2 216 rfl rfl, Or.inl rfl⟩, rfl, rfl, fun z => by cases z⟩
set_option maxRecDepth 20000 in
theorem fJx4a65c_48 : Fld RJx4a65c 48 10 2 (.int) false := ⟨_, rfl, by decide, ⟨_, tq2 217 rfl rfl, Or.inl rfl⟩, rfl, rfl, fun z => by cases z⟩
set_option maxRecDepth 20000 in
theorem fJxc12de_7 : Fld RJxc12de 7 10 0 .int false := ⟨_, rfl, by decide, ⟨_, tq2 218 rfl rfl, Or.inl rfl⟩, rfl, rfl, fun z => by cases z⟩
set_option maxRecDepth 20000 in
theorem fJx4a65c_63 : Fld RJx4a65c 63 10 0 (.int) false := ⟨_, rfl, by decide, ⟨_, tq2 219 rfl rfl, Or.inr ⟨tq2 220 rfl rfl, rfl⟩⟩, rfl, rfl, fun z => by cases z⟩
set_option maxRecDepth 20000 in
theorem fX9_10 : Fld RX9 10 9 0 (.object "java/util/ArrayList") true := ⟨_, rfl, by decide, ⟨_, tq2 228 rfl rfl, Or.inl rfl⟩, rfl, rfl, fun _ => rfl⟩
theorem fL_83 : FldN RL 83 9 0 (.object "java/util/ArrayList") true := ⟨_, rfl, by decide, ⟨RL, (show Cond.fieldLinkNest RL 83 RX9 "ever" "Ljava/util/ArrayList;" RL ∈ nestW by simp [nestW])⟩, rfl, rfl⟩
set_option maxRecDepth 20000 in
theorem fX9_16 : Fld RX9 16 9 1 (.object "java/util/ArrayList") true := ⟨_, rfl, by decide, ⟨_, tq2 230 rfl rfl, Or.inl rfl⟩, rfl, rfl, fun _ => rfl⟩
theorem fL_111 : FldN RL 111 9 1 (.object "java/util/ArrayList") true := ⟨_, rfl, by decide, ⟨RL, (show Cond.fieldLinkNest RL 111 RX9 "when" "Ljava/util/ArrayList;" RL ∈ nestW by simp [nestW])⟩, rfl, rfl⟩
set_option maxRecDepth 20000 in
theorem fX9_19 : Fld RX9 19 9 2 (.array .int) true := ⟨_, rfl, by decide, ⟨_, tq2 232 rfl rfl, Or.inl rfl⟩, rfl, rfl, fun _ => rfl⟩
theorem fL_87 : FldN RL 87 9 2 (.array .int) true := ⟨_, rfl, by decide, ⟨RL, (show Cond.fieldLinkNest RL 87 RX9 "there" "[I" RL ∈ nestW by simp [nestW])⟩, rfl, rfl⟩
set_option maxRecDepth 20000 in
theorem fX9_66 : Fld RX9 66 9 3 (.int) false := ⟨_, rfl, by decide, ⟨_, tq2 234 rfl rfl, Or.inl rfl⟩, rfl, rfl, fun z => by cases z⟩
theorem fL_43 : FldN RL 43 9 3 (.int) false := ⟨_, rfl, by decide, ⟨RL, (show Cond.fieldLinkNest RL 43 RX9 "many" "I" RL ∈ nestW by simp [nestW])⟩, rfl, rfl⟩
set_option maxRecDepth 20000 in
theorem fX9_32 : Fld RX9 32 9 4 (.int) false := ⟨_, rfl, by decide, ⟨_, tq2 236 rfl rfl, Or.inl rfl⟩, rfl, rfl, fun z => by cases z⟩
theorem fL_40 : FldN RL 40 9 4 (.int) false := ⟨_, rfl, by decide, ⟨RL, (show Cond.fieldLinkNest RL 40 RX9 "fallen" "I" RL ∈ nestW by simp [nestW])⟩, rfl, rfl⟩
set_option maxRecDepth 20000 in
theorem fX9_23 : Fld RX9 23 9 5 (.array .int) true := ⟨_, rfl, by decide, ⟨_, tq2 238 rfl rfl, Or.inl rfl⟩, rfl, rfl, fun _ => rfl⟩
theorem fL_64 : FldN RL 64 9 5 (.array .int) true := ⟨_, rfl, by decide, ⟨RL, (show Cond.fieldLinkNest RL 64 RX9 "orders" "[I" RL ∈ nestW by simp [nestW])⟩, rfl, rfl⟩
set_option maxRecDepth 20000 in
theorem fX9_26 : Fld RX9 26 9 6 (.array .int) true := ⟨_, rfl, by decide, ⟨_, tq3 0 rfl rfl, Or.inl rfl⟩, rfl, rfl, fun _ => rfl⟩
set_option maxRecDepth 20000 in
theorem fX9_29 : Fld RX9 29 9 7 (.array .int) true := ⟨_, rfl, by decide, ⟨_, tq3 1 rfl rfl, Or.inl rfl⟩, rfl, rfl, fun _ => rfl⟩
theorem fL_28 : FldN RL 28 9 8 (.int) false := ⟨_, rfl, by decide, ⟨RL, (show Cond.fieldLinkNest RL 28 RX9 "clashS" "I" RL ∈ nestW by simp [nestW])⟩, rfl, rfl⟩
set_option maxRecDepth 20000 in
theorem fX9_79 : Fld RX9 79 9 8 (.int) false := ⟨_, rfl, by decide, ⟨_, tq3 3 rfl rfl, Or.inl rfl⟩, rfl, rfl, fun z => by cases z⟩
theorem fL_34 : FldN RL 34 9 9 (.int) false := ⟨_, rfl, by decide, ⟨RL, (show Cond.fieldLinkNest RL 34 RX9 "clashP" "I" RL ∈ nestW by simp [nestW])⟩, rfl, rfl⟩
set_option maxRecDepth 20000 in
theorem fX9_82 : Fld RX9 82 9 9 (.int) false := ⟨_, rfl, by decide, ⟨_, tq3 5 rfl rfl, Or.inl rfl⟩, rfl, rfl, fun z => by cases z⟩
theorem fL_37 : FldN RL 37 9 10 (.int) false := ⟨_, rfl, by decide, ⟨RL, (show Cond.fieldLinkNest RL 37 RX9 "clashHow" "I" RL ∈ nestW by simp [nestW])⟩, rfl, rfl⟩
set_option maxRecDepth 20000 in
theorem fX9_85 : Fld RX9 85 9 10 (.int) false := ⟨_, rfl, by decide, ⟨_, tq3 7 rfl rfl, Or.inl rfl⟩, rfl, rfl, fun z => by cases z⟩
set_option maxRecDepth 20000 in
theorem gL_8 : .fieldLink RL 8 RL "ORDERS" "[[I" ∈ TT := tq3 162 rfl rfl
set_option maxRecDepth 20000 in
theorem fX1_9 : Fld RX1 9 1 0 (.int) true := ⟨_, rfl, by decide, ⟨_, tq3 183 rfl rfl, Or.inl rfl⟩, rfl, rfl, fun _ => rfl⟩
set_option maxRecDepth 20000 in
theorem fX8_131 : Fld RX8 131 1 0 (.int) true := ⟨_, rfl, by decide, ⟨_, tq3 184 rfl rfl, Or.inl rfl⟩, rfl, rfl, fun _ => rfl⟩
set_option maxRecDepth 20000 in
theorem fX1_15 : Fld RX1 15 1 1 (.int) true := ⟨_, rfl, by decide, ⟨_, tq3 185 rfl rfl, Or.inl rfl⟩, rfl, rfl, fun _ => rfl⟩
set_option maxRecDepth 20000 in
theorem fX4_25 : Fld RX4 25 1 1 (.int) true := ⟨_, rfl, by decide, ⟨_, tq3 186 rfl rfl, Or.inl rfl⟩, rfl, rfl, fun _ => rfl⟩
set_option maxRecDepth 20000 in
theorem fX2_33 : Fld RX2 33 1 1 (.int) true := ⟨_, rfl, by decide, ⟨_, tq3 187 rfl rfl, Or.inl rfl⟩, rfl, rfl, fun _ => rfl⟩
set_option maxRecDepth 20000 in
theorem fX8_134 : Fld RX8 134 1 1 (.int) true := ⟨_, rfl, by decide, ⟨_, tq3 188 rfl rfl, Or.inl rfl⟩, rfl, rfl, fun _ => rfl⟩
set_option maxRecDepth 20000 in
theorem fX1_18 : Fld RX1 18 1 2 (.int) true := ⟨_, rfl, by decide, ⟨_, tq3 189 rfl rfl, Or.inl rfl⟩, rfl, rfl, fun _ => rfl⟩
set_option maxRecDepth 20000 in
theorem fX4_31 : Fld RX4 31 1 2 (.int) true := ⟨_, rfl, by decide, ⟨_, tq3 190 rfl rfl, Or.inl rfl⟩, rfl, rfl, fun _ => rfl⟩
set_option maxRecDepth 20000 in
theorem fX2_22 : Fld RX2 22 1 2 (.int) true := ⟨_, rfl, by decide, ⟨_, tq3 191 rfl rfl, Or.inl rfl⟩, rfl, rfl, fun _ => rfl⟩
set_option maxRecDepth 20000 in
theorem fX8_137 : Fld RX8 137 1 2 (.int) true := ⟨_, rfl, by decide, ⟨_, tq3 192 rfl rfl, Or.inl rfl⟩, rfl, rfl, fun _ => rfl⟩
set_option maxRecDepth 20000 in
theorem fX1_21 : Fld RX1 21 1 3 (.int) true := ⟨_, rfl, by decide, ⟨_, tq3 193 rfl rfl, Or.inl rfl⟩, rfl, rfl, fun _ => rfl⟩
set_option maxRecDepth 20000 in
theorem fX8_140 : Fld RX8 140 1 3 (.int) true := ⟨_, rfl, by decide, ⟨_, tq3 194 rfl rfl, Or.inl rfl⟩, rfl, rfl, fun _ => rfl⟩
set_option maxRecDepth 20000 in
theorem fX1_24 : Fld RX1 24 1 4 (.int) true := ⟨_, rfl, by decide, ⟨_, tq3 195 rfl rfl, Or.inl rfl⟩, rfl, rfl, fun _ => rfl⟩
set_option maxRecDepth 20000 in
theorem fX2_30 : Fld RX2 30 1 4 (.int) true := ⟨_, rfl, by decide, ⟨_, tq3 196 rfl rfl, Or.inl rfl⟩, rfl, rfl, fun _ => rfl⟩
set_option maxRecDepth 20000 in
theorem fX8_143 : Fld RX8 143 1 4 (.int) true := ⟨_, rfl, by decide, ⟨_, tq3 197 rfl rfl, Or.inl rfl⟩, rfl, rfl, fun _ => rfl⟩
set_option maxRecDepth 20000 in
theorem fX1_27 : Fld RX1 27 1 5 (.int) true := ⟨_, rfl, by decide, ⟨_, tq3 198 rfl rfl, Or.inl rfl⟩, rfl, rfl, fun _ => rfl⟩
set_option maxRecDepth 20000 in
theorem fX8_146 : Fld RX8 146 1 5 (.int) true := ⟨_, rfl, by decide, ⟨_, tq3 199 rfl rfl, Or.inl rfl⟩, rfl, rfl, fun _ => rfl⟩
set_option maxRecDepth 20000 in
theorem fX1_30 : Fld RX1 30 1 6 (.object "RolledPicks$Standings") true := ⟨_, rfl, by decide, ⟨_, tq3 200 rfl rfl, Or.inl rfl⟩, rfl, rfl, fun _ => rfl⟩
set_option maxRecDepth 20000 in
theorem fX8_149 : Fld RX8 149 1 6 (.object "RolledPicks$Standings") true := ⟨_, rfl, by decide, ⟨_, tq3 201 rfl rfl, Or.inl rfl⟩, rfl, rfl, fun _ => rfl⟩
-- new, arrays, constants
set_option maxRecDepth 20000 in
theorem cL_23 : .classLink RL 23 RX8 ∈ TT := tq1 21 rfl rfl
set_option maxRecDepth 20000 in
theorem nL_23 : NewOk RL 23 8 := ⟨_, rfl, cL_23, tq1 22 rfl rfl, tq1 1 rfl rfl⟩
set_option maxRecDepth 20000 in
theorem cX8_7 : .classLink RX8 7 RX0 ∈ TT := tq1 29 rfl rfl
set_option maxRecDepth 20000 in
theorem nX8_7 : NewOk RX8 7 0 := ⟨_, rfl, cX8_7, tq1 30 rfl rfl, tq1 2 rfl rfl⟩
set_option maxRecDepth 20000 in
theorem cX0_9 : .classLink RX0 9 RX1 ∈ TT := tq1 35 rfl rfl
set_option maxRecDepth 20000 in
theorem nX0_9 : NewOk RX0 9 1 := ⟨_, rfl, cX0_9, tq2 30 rfl rfl, tq1 18 rfl rfl⟩
set_option maxRecDepth 20000 in
theorem wa_int : .arrayClass .int ∈ TT := tq1 62 rfl rfl
set_option maxRecDepth 20000 in
theorem cX8_20 : .classLink RX8 20 RX2 ∈ TT := tq1 64 rfl rfl
set_option maxRecDepth 20000 in
theorem nX8_20 : NewOk RX8 20 2 := ⟨_, rfl, cX8_20, tq1 65 rfl rfl, tq1 3 rfl rfl⟩
set_option maxRecDepth 20000 in
theorem cX8_27 : .classLink RX8 27 RX3 ∈ TT := tq1 74 rfl rfl
set_option maxRecDepth 20000 in
theorem nX8_27 : NewOk RX8 27 3 := ⟨_, rfl, cX8_27, tq1 75 rfl rfl, tq1 4 rfl rfl⟩
set_option maxRecDepth 20000 in
theorem cX3_9 : .classLink RX3 9 RX7 ∈ TT := tq1 80 rfl rfl
set_option maxRecDepth 20000 in
theorem nX3_9 : NewOk RX3 9 7 := ⟨_, rfl, cX3_9, tq1 81 rfl rfl, tq1 5 rfl rfl⟩
set_option maxRecDepth 20000 in
theorem wa_byte : .arrayClass .byte ∈ TT := tq1 97 rfl rfl
set_option maxRecDepth 20000 in
theorem cX3_18 : .classLink RX3 18 RX1 ∈ TT := tq1 98 rfl rfl
set_option maxRecDepth 20000 in
theorem nX3_18 : NewOk RX3 18 1 := ⟨_, rfl, cX3_18, tq2 30 rfl rfl, tq1 18 rfl rfl⟩
set_option maxRecDepth 20000 in
theorem cX3_24 : .classLink RX3 24 RX6 ∈ TT := tq1 99 rfl rfl
set_option maxRecDepth 20000 in
theorem nX3_24 : NewOk RX3 24 6 := ⟨_, rfl, cX3_24, tq1 101 rfl rfl, tq1 6 rfl rfl⟩
set_option maxRecDepth 20000 in
theorem wa_long : .arrayClass .long ∈ TT := tq1 110 rfl rfl
set_option maxRecDepth 20000 in
theorem cX8_34 : .classLink RX8 34 RX5 ∈ TT := tq1 124 rfl rfl
set_option maxRecDepth 20000 in
theorem nX8_34 : NewOk RX8 34 5 := ⟨_, rfl, cX8_34, tq1 127 rfl rfl, tq1 7 rfl rfl⟩
set_option maxRecDepth 20000 in
theorem cX8_40 : .classLink RX8 40 RX1 ∈ TT := tq1 126 rfl rfl
set_option maxRecDepth 20000 in
theorem nX8_40 : NewOk RX8 40 1 := ⟨_, rfl, cX8_40, tq2 30 rfl rfl, tq1 18 rfl rfl⟩
set_option maxRecDepth 20000 in
theorem lX2_15 : .constant RX2 15 (9586980) ∈ TT := tq1 148 rfl rfl
set_option maxRecDepth 20000 in
theorem lX8_269 : .constant RX8 269 (-1000001) ∈ TT := tq1 188 rfl rfl
set_option maxRecDepth 20000 in
theorem lX8_270 : .constantLong RX8 270 (-1000000000000000001) ∈ TT := tq2 73 rfl rfl
set_option maxRecDepth 20000 in
theorem lX8_201 : .constantLong RX8 201 (-1) ∈ TT := tq2 86 rfl rfl
set_option maxRecDepth 20000 in
theorem cX8_284 : .classLink RX8 284 RX4 ∈ TT := tq2 103 rfl rfl
set_option maxRecDepth 20000 in
theorem nX8_284 : NewOk RX8 284 4 := ⟨_, rfl, cX8_284, tq2 104 rfl rfl, tq1 19 rfl rfl⟩
set_option maxRecDepth 20000 in
theorem cL_29 : .classLink RL 29 RX9 ∈ TT := tq2 196 rfl rfl
set_option maxRecDepth 20000 in
theorem nL_29 : NewOk RL 29 9 := ⟨_, rfl, cL_29, tq2 197 rfl rfl, tq1 8 rfl rfl⟩
set_option maxRecDepth 20000 in
theorem cX9_7 : .classLink RX9 7 RJx4a65c ∈ TT := tq2 202 rfl rfl
set_option maxRecDepth 20000 in
theorem nX9_7 : NewOk RX9 7 10 := ⟨_, rfl, cX9_7, tq2 203 rfl rfl, tq1 11 rfl rfl⟩
set_option maxRecDepth 20000 in
theorem lL_7 : .constant RL 7 (104729) ∈ TT := tq3 42 rfl rfl
set_option maxRecDepth 20000 in
theorem cL_96 : .classLink RL 96 "[I" ∈ TT := tq3 69 rfl rfl
set_option maxRecDepth 20000 in
theorem lJ8_200 : .constant RJ8 200 (2147483639) ∈ TT := tq3 99 rfl rfl
set_option maxRecDepth 20000 in
theorem cJ7_2 : .classLink RJ7 2 "java/lang/Object" ∈ TT := tq3 126 rfl rfl
set_option maxRecDepth 20000 in
theorem cJx4a65c_7 : .classLink RJx4a65c 7 "java/lang/Object" ∈ TT := tq3 130 rfl rfl
set_option maxRecDepth 20000 in
theorem cX9_40 : .classLink RX9 40 "[I" ∈ TT := tq3 150 rfl rfl
set_option maxRecDepth 20000 in
theorem lL_50 : .constant RL 50 (-1000004) ∈ TT := tq3 169 rfl rfl
set_option maxRecDepth 20000 in
theorem lL_51 : .constant RL 51 (-1000002) ∈ TT := tq3 170 rfl rfl
set_option maxRecDepth 20000 in
theorem lL_52 : .constant RL 52 (-1000005) ∈ TT := tq3 171 rfl rfl
set_option maxRecDepth 20000 in
theorem lJ6_265 : .constant RJ6 265 (1431655765) ∈ TT := tq4 16 rfl rfl
set_option maxRecDepth 20000 in
theorem lJ6_266 : .constant RJ6 266 (858993459) ∈ TT := tq4 17 rfl rfl
set_option maxRecDepth 20000 in
theorem lJ6_267 : .constant RJ6 267 (252645135) ∈ TT := tq4 18 rfl rfl
set_option maxRecDepth 20000 in
theorem lL_160 : .constantLong RL 160 (56) ∈ TT := tq4 19 rfl rfl
set_option maxRecDepth 20000 in
theorem lL_188 : .constantLong RL 188 (-1) ∈ TT := tq4 20 rfl rfl
set_option maxRecDepth 20000 in
theorem w_minS : .static Lib.Math.min.name ∈ TT := tq2 137 rfl rfl
set_option maxRecDepth 20000 in
theorem w_minI : .initialized "java/lang/Math" ∈ TT := tq1 15 rfl rfl
set_option maxRecDepth 20000 in
theorem w_minC : .code Lib.Math.min.name Lib.Math.min.code 2 (some .int) ∈ TT := tq2 138 rfl rfl
set_option maxRecDepth 20000 in
theorem w_acpS : .static arraycopyName ∈ TT := tq2 168 rfl rfl
set_option maxRecDepth 20000 in
theorem w_acpI : .initialized "java/lang/System" ∈ TT := tq1 17 rfl rfl
set_option maxRecDepth 20000 in
theorem w_acpN : .native arraycopyName ∈ TT := tq2 169 rfl rfl
end
section
/-! THE FIXED CELLS: what the two constructors make, in the order in which they make it (written by wip/p45/gen11.py) -/
def T0l : List Nat := [9, 1, 17, 13, 13, 16, 3, 13, 4, 8, 12, 17, 19, 7, 14, 7, 14, 7, 14, 7, 14, 7, 14, 7, 14, 7, 14, 7, 14, 7, 14, 7, 14, 7, 14, 7, 14, 7, 14, 7, 14, 18, 17, 13, 13, 1, 17, 13, 13, 1, 17, 13, 13, 1, 17, 13, 13, 1, 17, 13, 13, 1, 17, 13, 13, 1, 17, 13, 13, 6, 14, 6, 14, 6, 14, 6, 14, 10, 11, 11, 13, 13, 13, 13]
def N0l : List Nat := [0, 0, 12, 4, 3, 6, 0, 1296, 0, 0, 120, 12, 14, 0, 21, 0, 21, 0, 21, 0, 21, 0, 21, 0, 21, 0, 21, 0, 21, 0, 21, 0, 21, 0, 21, 0, 21, 0, 21, 0, 21, 4, 4, 3, 8, 0, 12, 4, 3, 0, 12, 4, 3, 0, 12, 4, 3, 0, 12, 4, 3, 0, 12, 4, 3, 0, 12, 4, 3, 0, 40, 0, 40, 0, 40, 0, 40, 0, 0, 0, 13, 4, 4, 3]
/-- references that never change: 0, none of these -/
def R0l : List (List Nat) := [[33, 37, 0, 38, 40, 73, 74, 75, 76], [34, 0, 35, 0, 36], [], [], [], [77, 81, 85, 89, 93, 97], [39], [], [41, 43, 0, 44], [42], [], [], [45, 47, 49, 51, 53, 55, 57, 59, 61, 63, 65, 67, 69, 71], [46], [], [48], [], [50], [], [52], [], [54], [], [56], [], [58], [], [60], [], [62], [], [64], [], [66], [], [68], [], [70], [], [72], [], [101, 103, 105, 107], [], [], [], [78, 0, 79, 0, 80], [], [], [], [82, 0, 83, 0, 84], [], [], [], [86, 0, 87, 0, 88], [], [], [], [90, 0, 91, 0, 92], [], [], [], [94, 0, 95, 0, 96], [], [], [], [98, 0, 99, 0, 100], [], [], [], [102], [], [104], [], [106], [], [108], [], [110, 111, 112, 0, 0, 113, 114, 115], [], [], [], [], [], []]
def T0 (a : Nat) : Nat := T0l.getD (a - 32) 0
def N0 (a : Nat) : Nat := N0l.getD (a - 32) 0
def R0 (a i : Nat) : Nat := (R0l.getD (a - 32) []).getD i 0
def NF : Nat := 116
def FxS (z : (Nat → Nat → Option Nat) × (Nat → Nat) × (Nat → Nat) × Nat) : Prop := NF ≤ z.2.2.2 ∧ (∀ a, 32 ≤ a → a < NF → z.2.1 a = T0 a ∧ z.2.2.1 a = N0 a) ∧ ∀ a i, R0 a i ≠ 0 → z.1 a i = some (R0 a i)
/-- the fixed cells stand -/
def Fx (h : HP) : Prop := FxS h.2.2
theorem fx_is {h : HP} (F : Fx h) {a t : Nat} (h1 : (Nat.ble 32 a && Nat.blt a NF && Nat.beq (T0 a) t) = true) : Is h a t := by
  simp only [Bool.and_eq_true] at h1
  obtain ⟨⟨h1, h2⟩, h3⟩ := h1
  have h1 := Nat.le_of_ble_eq_true h1
  have h2 : a < NF := Nat.le_of_ble_eq_true h2
  exact ⟨h1, Nat.lt_of_lt_of_le h2 F.1, (F.2.1 a h1 h2).1.trans (Nat.eq_of_beq_eq_true h3)⟩
theorem fx_n {h : HP} (F : Fx h) {a n : Nat} (h1 : (Nat.ble 32 a && Nat.blt a NF && Nat.beq (N0 a) n) = true) : hN h a = n := by
  simp only [Bool.and_eq_true] at h1
  obtain ⟨⟨h1, h2⟩, h3⟩ := h1
  exact (F.2.1 a (Nat.le_of_ble_eq_true h1) (Nat.le_of_ble_eq_true h2)).2.trans (Nat.eq_of_beq_eq_true h3)
theorem fx_r {h : HP} (F : Fx h) {a i b : Nat} (h1 : (!Nat.beq b 0 && Nat.beq (R0 a i) b) = true) : hR h a i = some b := by
  simp only [Bool.and_eq_true, Bool.not_eq_true'] at h1
  have h2 := Nat.eq_of_beq_eq_true h1.2
  have h3 : R0 a i ≠ 0 := by
    intro h
    rw [h] at h2
    subst h2
    exact absurd h1.1 (by decide)
  exact (F.2.2 a i h3).trans (by rw [h2])
section R11
variable {X : EX} {y : MD} {d mc ms : Nat} {Q : Option VV → HP → Prop} {cells slots pc pc' : Nat} {ls : ZL} {st : List VV} {h : HP} {ix ci kf a : Nat}
theorem e_getRF {ty : FieldType} {fin : Bool} {r0 : Option Nat} (hd : At y.2.1 pc (.getfield ix) 3 pc') (F : Fld y.1.cls ix ci kf ty fin) (hr : isR ci kf = true) (ok : Is h a (ci + 1)) (hv : hR h a kf = r0) (k : Ev X y d mc ms Q cells slots pc' ls (vR r0 :: st) h) : Ev X y d mc ms Q cells slots pc ls (vR (some a) :: st) h := e_getR hd F hr ok (by rw [hv]; exact k)
theorem e_getIF {ty : FieldType} {fin : Bool} {x : Int32} (hd : At y.2.1 pc (.getfield ix) 3 pc') (F : Fld y.1.cls ix ci kf ty fin) (hr : isR ci kf = false) (ok : Is h a (ci + 1)) (hv : hI h a kf = x) (k : Ev X y d mc ms Q cells slots pc' ls (vI x :: st) h) : Ev X y d mc ms Q cells slots pc ls (vR (some a) :: st) h := e_getI hd F hr ok (by rw [hv]; exact k)
theorem e_ialoadF {i x : Int32} {N : Nat} (hd : At y.2.1 pc (.iaload) 1 pc') (ok : Is h a 13) (hn : hN h a = N) (hin : vp_in i N) (hv : hI h a i.toNatClampNeg = x) (k : Ev X y d mc ms Q cells slots pc' ls (vI x :: st) h) : Ev X y d mc ms Q cells slots pc ls (vI i :: vR (some a) :: st) h := e_iaload hd ok (by rw [hn]; exact hin) (by rw [hv]; exact k)
theorem e_laloadF {i : Int32} {x : Int64} {N : Nat} (hd : At y.2.1 pc (.laload) 1 pc') (ok : Is h a 14) (hn : hN h a = N) (hin : vp_in i N) (hv : hL h a i.toNatClampNeg = x) (k : Ev X y d mc ms Q cells slots pc' ls (vL x :: st) h) : Ev X y d mc ms Q cells slots pc ls (vI i :: vR (some a) :: st) h := e_laload hd ok (by rw [hn]; exact hin) (by rw [hv]; exact k)
theorem e_aaloadF {i : Int32} {t N : Nat} {r0 : Option Nat} (hd : At y.2.1 pc (.aaload) 1 pc') (ok : Is h a t) (h1 : 16 ≤ t) (h2 : t ≤ 20) (hn : hN h a = N) (hin : vp_in i N) (hv : hR h a i.toNatClampNeg = r0) (k : Ev X y d mc ms Q cells slots pc' ls (vR r0 :: st) h) : Ev X y d mc ms Q cells slots pc ls (vI i :: vR (some a) :: st) h := e_aaload hd ok h1 h2 (by rw [hn]; exact hin) (by rw [hv]; exact k)
theorem e_iastoreF {i x : Int32} {N : Nat} (hd : At y.2.1 pc (.iastore) 1 pc') (ok : Is h a 13) (hn : hN h a = N) (hin : vp_in i N) (k : Ev X y d mc ms Q cells slots pc' ls st (wI h a i.toNatClampNeg x)) : Ev X y d mc ms Q cells slots pc ls (vI x :: vI i :: vR (some a) :: st) h := e_iastore hd ok (by rw [hn]; exact hin) k
theorem e_lastoreF {i : Int32} {x : Int64} {N : Nat} (hd : At y.2.1 pc (.lastore) 1 pc') (ok : Is h a 14) (hn : hN h a = N) (hin : vp_in i N) (k : Ev X y d mc ms Q cells slots pc' ls st (wL h a i.toNatClampNeg x)) : Ev X y d mc ms Q cells slots pc ls (vL x :: vI i :: vR (some a) :: st) h := e_lastore hd ok (by rw [hn]; exact hin) k
/-- a call that answers one value and leaves the heap as h2 -/
theorem e_eq {pc2 : Nat} {ls2 : ZL} {st2 : List VV} {h2 : HP} (e1 : pc = pc2) (e2 : ls = ls2) (e3 : st = st2) (e4 : h = h2) (k : Ev X y d mc ms Q cells slots pc2 ls2 st2 h2) : Ev X y d mc ms Q cells slots pc ls st h := by
  subst e1; subst e2; subst e3; subst e4; exact k
end R11
/-- a truth as an int -/
def b2 (p : Prop) [Decidable p] : Int32 := if p then 1 else 0
theorem b2_t {p : Prop} [Decidable p] (h : p) : b2 p = 1 := if_pos h
theorem b2_f {p : Prop} [Decidable p] (h : ¬ p) : b2 p = 0 := if_neg h
theorem b2_0 {p : Prop} [Decidable p] : b2 p = 0 ↔ ¬ p := by
  by_cases h : p
  · rw [b2_t h]; exact ⟨fun q => absurd q (by decide), fun q => absurd h q⟩
  · rw [b2_f h]; exact ⟨fun _ => h, fun _ => rfl⟩
theorem b2_b {p : Prop} [Decidable p] : b2 p = 0 ∨ b2 p = 1 := by
  by_cases h : p
  · exact Or.inr (b2_t h)
  · exact Or.inl (b2_f h)
/-- a contract of a method that answers r and leaves the heap as it was / as h2 -/
def Rt (r : VV) (h2 : HP) : Option VV → HP → Prop := fun v h' => v = some r ∧ h' = h2
def Rv (h2 : HP) : Option VV → HP → Prop := fun v h' => v = none ∧ h' = h2
section R12
variable {X : EX} {y : MD} {d mc ms : Nat} {Q : Option VV → HP → Prop} {cells slots pc pc' : Nat} {ls : ZL} {st rest : List VV} {h h2 : HP} {y' : MD} {d' n ix ci : Nat} {as : List VV} {r : VV}
theorem e_invvT {a : Nat} (hd : At y.2.1 pc (.invokevirtual ix) 3 pc') (cal : CalV y.1.cls ix ci y' n) (hc : Ct X y' d' 0 0 (vR (some a) :: as) h (Rt r h2)) (hst : st = as.reverse ++ vR (some a) :: rest) (hn : as.length = n) (hT : Is h a (ci + 1)) (hml : y'.2.2.1 ≤ 12) (hdd : d' + 1 ≤ d) (hcc : cells ≤ mc) (hss : slots ≤ ms) (hcat : catL rest ≤ 8)
    (k : Ev X y d mc ms Q cells slots pc' ls (r :: rest) h2) : Ev X y d mc ms Q cells slots pc ls st h :=
  e_invv hd cal hc hst hn hT hml hdd hcc hss hcat (fun v h' q => by obtain ⟨rfl, rfl⟩ := q; exact k)
theorem e_invvV {a : Nat} (hd : At y.2.1 pc (.invokevirtual ix) 3 pc') (cal : CalV y.1.cls ix ci y' n) (hc : Ct X y' d' 0 0 (vR (some a) :: as) h (Rv h2)) (hst : st = as.reverse ++ vR (some a) :: rest) (hn : as.length = n) (hT : Is h a (ci + 1)) (hml : y'.2.2.1 ≤ 12) (hdd : d' + 1 ≤ d) (hcc : cells ≤ mc) (hss : slots ≤ ms) (hcat : catL rest ≤ 8)
    (k : Ev X y d mc ms Q cells slots pc' ls rest h2) : Ev X y d mc ms Q cells slots pc ls st h :=
  e_invv hd cal hc hst hn hT hml hdd hcc hss hcat (fun v h' q => by obtain ⟨rfl, rfl⟩ := q; exact k)
theorem e_invsT (hd : At y.2.1 pc (.invokestatic ix) 3 pc') (cal : CalS y.1.cls ix y' n) (hc : Ct X y' d' 0 0 as h (Rt r h2)) (hst : st = as.reverse ++ rest) (hn : as.length = n) (hml : y'.2.2.1 ≤ 12) (hdd : d' + 1 ≤ d) (hcc : cells ≤ mc) (hss : slots ≤ ms) (hcat : catL rest ≤ 8)
    (k : Ev X y d mc ms Q cells slots pc' ls (r :: rest) h2) : Ev X y d mc ms Q cells slots pc ls st h :=
  e_invs hd cal hc hst hn hml hdd hcc hss hcat (fun v h' q => by obtain ⟨rfl, rfl⟩ := q; exact k)
theorem e_invsV (hd : At y.2.1 pc (.invokestatic ix) 3 pc') (cal : CalS y.1.cls ix y' n) (hc : Ct X y' d' 0 0 as h (Rv h2)) (hst : st = as.reverse ++ rest) (hn : as.length = n) (hml : y'.2.2.1 ≤ 12) (hdd : d' + 1 ≤ d) (hcc : cells ≤ mc) (hss : slots ≤ ms) (hcat : catL rest ≤ 8)
    (k : Ev X y d mc ms Q cells slots pc' ls rest h2) : Ev X y d mc ms Q cells slots pc ls st h :=
  e_invs hd cal hc hst hn hml hdd hcc hss hcat (fun v h' q => by obtain ⟨rfl, rfl⟩ := q; exact k)
theorem e_invsNT (hd : At y.2.1 pc (.invokestatic ix) 3 pc') (cal : CalSN y.1.cls ix y' n) (hc : Ct X y' d' 0 0 as h (Rt r h2)) (hst : st = as.reverse ++ rest) (hn : as.length = n) (hml : y'.2.2.1 ≤ 12) (hdd : d' + 1 ≤ d) (hcc : cells ≤ mc) (hss : slots ≤ ms) (hcat : catL rest ≤ 8)
    (k : Ev X y d mc ms Q cells slots pc' ls (r :: rest) h2) : Ev X y d mc ms Q cells slots pc ls st h :=
  e_invsN hd cal hc hst hn hml hdd hcc hss hcat (fun v h' q => by obtain ⟨rfl, rfl⟩ := q; exact k)
theorem e_invsNV (hd : At y.2.1 pc (.invokestatic ix) 3 pc') (cal : CalSN y.1.cls ix y' n) (hc : Ct X y' d' 0 0 as h (Rv h2)) (hst : st = as.reverse ++ rest) (hn : as.length = n) (hml : y'.2.2.1 ≤ 12) (hdd : d' + 1 ≤ d) (hcc : cells ≤ mc) (hss : slots ≤ ms) (hcat : catL rest ≤ 8)
    (k : Ev X y d mc ms Q cells slots pc' ls rest h2) : Ev X y d mc ms Q cells slots pc ls st h :=
  e_invsN hd cal hc hst hn hml hdd hcc hss hcat (fun v h' q => by obtain ⟨rfl, rfl⟩ := q; exact k)
end R12
end
section
/-! numbers and words of the document, as mathematics -/
/-- fewer locals -/
def subL : ZL → ZL → Prop
  | [], _ => True
  | (i, v) :: r, ls => gL ls i = v ∧ subL r ls
theorem subL_ok {ls' ls : ZL} (h : subL ls' ls) : ∀ i v, gL ls' i = some v → gL ls i = some v := by
  induction ls' with
  | nil => intro i v h; cases h
  | cons q r ih =>
    intro i v hv
    obtain ⟨j, w⟩ := q
    obtain ⟨h1, h2⟩ := h
    simp only [gL] at hv
    by_cases hi : i = j
    · subst hi
      rw [if_pos rfl] at hv
      rw [h1, hv]
    · rw [if_neg hi] at hv
      exact ih h2 i v hv
theorem e_ls {X : EX} {y : MD} {d mc ms : Nat} {Q : Option VV → HP → Prop} {cells slots pc : Nat} {ls ls' : ZL} {st : List VV} {h : HP} (hs : subL ls' ls) (k : Ev X y d mc ms Q cells slots pc ls' st h) : Ev X y d mc ms Q cells slots pc ls st h := by
  intro p e s m args below meth c H locs lsr C hC hS hl
  obtain ⟨lv, hv, hg⟩ := hl
  exact k p e s m args below meth c H locs lsr C hC hS ⟨lv, hv, fun i v q => hg i v (subL_ok hs i v q)⟩
theorem nI_small {n N : Nat} (h : n < N) (hN : N ≤ 2147483648) : n < 2 ^ 31 := Nat.lt_of_lt_of_le h hN
theorem vin {n N : Nat} (h : n < N) (hN : N ≤ 1073741824 := by decide) : vp_in (nI n) N := vp_in_nI h (Nat.lt_of_le_of_lt hN (by decide))
theorem cl {n : Nat} (h : n < 1073741824) : (nI n).toNatClampNeg = n := nI_clamp (Nat.lt_trans h (by decide))
/-- a place's number, or -1 -/
def oI : Option Nat → Int32
  | some p => nI p
  | none => -1
/-- what one ORDER more of a YEAR adds; how many STANDINGS are OPEN -/
def stp (y : Nat) : Nat := [216, 36, 6, 1].getD y 0
def om (f : Nat) : Nat := [1296, 216, 36, 6, 1].getD f 0
/-- the first OPEN STANDING -/
def fo (o : Nat → Nat) : Nat → Nat
  | 0 => 0
  | f + 1 => fo o f + o f * stp f
/-- the place of a PICK under a STANDING -/
def pl (s p : Nat) : Nat := [0, 1, 2, 0, 2, 1, 1, 0, 2, 2, 0, 1, 1, 2, 0, 2, 1, 0].getD (s / stp (p / 3) % 6 * 3 + p % 3) 0
theorem om_fo {o : Nat → Nat} : ∀ {f : Nat}, f ≤ 4 → (∀ y, y < f → o y < 6) → fo o f + om f ≤ 1296
  | 0, _, _ => by show 0 + om 0 ≤ 1296; decide
  | f + 1, h, ho => by
    have h1 := om_fo (f := f) (by omega) (fun y hy => ho y (by omega))
    have h2 := ho f (by omega)
    have hf : f = 0 ∨ f = 1 ∨ f = 2 ∨ f = 3 := by omega
    unfold fo
    rcases hf with rfl | rfl | rfl | rfl <;> simp [om, stp] at h1 ⊢ <;> omega
theorem om_pos {f : Nat} (h : f ≤ 4) : 0 < om f := by
  have hf : f = 0 ∨ f = 1 ∨ f = 2 ∨ f = 3 ∨ f = 4 := by omega
  rcases hf with rfl | rfl | rfl | rfl | rfl <;> decide
theorem stp_om {f : Nat} (h : f < 4) : stp f = om (f + 1) ∧ om f = 6 * om (f + 1) := by
  have hf : f = 0 ∨ f = 1 ∨ f = 2 ∨ f = 3 := by omega
  rcases hf with rfl | rfl | rfl | rfl <;> decide
theorem stp_pos {y : Nat} (h : y < 4) : 0 < stp y ∧ stp y ≤ 216 := by
  have hf : y = 0 ∨ y = 1 ∨ y = 2 ∨ y = 3 := by omega
  rcases hf with rfl | rfl | rfl | rfl <;> decide
theorem pl_lt (s p : Nat) : pl s p < 3 := by
  unfold pl
  have h1 : s / stp (p / 3) % 6 < 6 := Nat.mod_lt _ (by decide)
  have h2 : p % 3 < 3 := Nat.mod_lt _ (by decide)
  generalize s / stp (p / 3) % 6 = a at h1
  generalize p % 3 = b at h2
  have key : ∀ a, a < 6 → ∀ b, b < 3 → [0, 1, 2, 0, 2, 1, 1, 0, 2, 2, 0, 1, 1, 2, 0, 2, 1, 0].getD (a * 3 + b) 0 < 3 := by decide
  exact key a h1 b h2
theorem nI_div {a b : Nat} (ha : a < 1073741824) (h0 : 0 < b) (hb : b < 1073741824) : nI a / nI b = nI (a / b) := pk_div (by omega) h0 (by omega)
theorem nI_rem {a b : Nat} (ha : a < 1073741824) (h0 : 0 < b) (hb : b < 1073741824) : nI a - nI a / nI b * nI b = nI (a % b) := pk_rem (by omega) h0 (by omega)
theorem nI_mul (a b : Nat) : nI a * nI b = nI (a * b) := pk_mul a b
theorem nI_subN {a b : Nat} (h : b ≤ a) : nI a - nI b = nI (a - b) := pk_sub h
section R13
variable {X : EX} {y : MD} {d mc ms : Nat} {Q : Option VV → HP → Prop} {cells slots pc pc' : Nat} {ls : ZL} {st : List VV} {h : HP}
theorem e_top {x v : Int32} (he : x = v) (k : Ev X y d mc ms Q cells slots pc ls (vI v :: st) h) : Ev X y d mc ms Q cells slots pc ls (vI x :: st) h := by rw [he]; exact k
theorem e_topL {x v : Int64} (he : x = v) (k : Ev X y d mc ms Q cells slots pc ls (vL v :: st) h) : Ev X y d mc ms Q cells slots pc ls (vL x :: st) h := by rw [he]; exact k
theorem e_topR {x v : Option Nat} (he : x = v) (k : Ev X y d mc ms Q cells slots pc ls (vR v :: st) h) : Ev X y d mc ms Q cells slots pc ls (vR x :: st) h := by rw [he]; exact k
theorem e_hp {h2 : HP} (he : h = h2) (k : Ev X y d mc ms Q cells slots pc ls st h2) : Ev X y d mc ms Q cells slots pc ls st h := by rw [he]; exact k
end R13
/-- the elements of a static array -/
theorem st_step {i : Nat} (h : i < 4) : ([216, 36, 6, 1] : List Int32).getD (nI i).toNatClampNeg 0 = nI (stp i) := by
  rw [cl (by omega)]
  have : i = 0 ∨ i = 1 ∨ i = 2 ∨ i = 3 := by omega
  rcases this with rfl | rfl | rfl | rfl <;> rfl
theorem st_left {i : Nat} (h : i ≤ 4) : ([1296, 216, 36, 6, 1] : List Int32).getD (nI i).toNatClampNeg 0 = nI (om i) := by
  rw [cl (by omega)]
  have : i = 0 ∨ i = 1 ∨ i = 2 ∨ i = 3 ∨ i = 4 := by omega
  rcases this with rfl | rfl | rfl | rfl | rfl <;> rfl
theorem st_place {i : Nat} (h : i < 18) : ([0, 1, 2, 0, 2, 1, 1, 0, 2, 2, 0, 1, 1, 2, 0, 2, 1, 0] : List Int32).getD (nI i).toNatClampNeg 0 = nI ([0, 1, 2, 0, 2, 1, 1, 0, 2, 2, 0, 1, 1, 2, 0, 2, 1, 0].getD i 0) := by
  rw [cl (by omega)]
  have key : ∀ i, i < 18 → ([0, 1, 2, 0, 2, 1, 1, 0, 2, 2, 0, 1, 1, 2, 0, 2, 1, 0] : List Int32).getD i 0 = nI ([0, 1, 2, 0, 2, 1, 1, 0, 2, 2, 0, 1, 1, 2, 0, 2, 1, 0].getD i 0) := by decide
  exact key i h
theorem st_club {i : Nat} (h : i < 18) : ([0, 1, 2, 0, 2, 1, 1, 0, 2, 1, 2, 0, 2, 0, 1, 2, 1, 0] : List Int32).getD (nI i).toNatClampNeg 0 = nI ([0, 1, 2, 0, 2, 1, 1, 0, 2, 1, 2, 0, 2, 0, 1, 2, 1, 0].getD i 0) := by
  rw [cl (by omega)]
  have key : ∀ i, i < 18 → ([0, 1, 2, 0, 2, 1, 1, 0, 2, 1, 2, 0, 2, 0, 1, 2, 1, 0] : List Int32).getD i 0 = nI ([0, 1, 2, 0, 2, 1, 1, 0, 2, 1, 2, 0, 2, 0, 1, 2, 1, 0].getD i 0) := by decide
  exact key i h
end
section
/-! contracts: helpers of RolledPicks, Book (written by wip/p45/g13.py) -/
theorem zX8_isOutside (X : EX) {h : HP} (v e : Int32) : Ct X mX8_isOutside 0 0 0 [vI v, vI e] h (Rt (vI (b2 (v < 0 ∨ e ≤ v))) h) := by
  refine ct_of rfl (Nat.le_of_ble_eq_true rfl) ?_
  refine e_iload_n aX8_isOutside_0 rfl ?_
  refine e_if_lt aX8_isOutside_1 (fun c1 => ?_) (fun c1 => ?_)
  · -- 1: taken
    refine e_iconst (v := 1) aX8_isOutside_9 (by decide) ?_
    refine e_goto aX8_isOutside_10 ?_
    refine e_zreturn aX8_isOutside_14 rfl (by decide) (Nat.le_refl _) (Nat.le_refl _) ?_
    exact ⟨by rw [b2_t (by first | grind | (simp only [b2_0] at *; grind))], rfl⟩
  · -- 1: not taken
    refine e_iload_n aX8_isOutside_4 rfl ?_
    refine e_iload_n aX8_isOutside_5 rfl ?_
    refine e_icmp_lt aX8_isOutside_6 (fun c6 => ?_) (fun c6 => ?_)
    · -- 6: taken
      refine e_iconst (v := 0) aX8_isOutside_13 (by decide) ?_
      refine e_zreturn aX8_isOutside_14 rfl (by decide) (Nat.le_refl _) (Nat.le_refl _) ?_
      exact ⟨by rw [b2_f (by first | grind | (simp only [b2_0] at *; grind))], rfl⟩
    · -- 6: not taken
      refine e_iconst (v := 1) aX8_isOutside_9 (by decide) ?_
      refine e_goto aX8_isOutside_10 ?_
      refine e_zreturn aX8_isOutside_14 rfl (by decide) (Nat.le_refl _) (Nat.le_refl _) ?_
      exact ⟨by rw [b2_t (by first | grind | (simp only [b2_0] at *; grind))], rfl⟩
theorem zX8_areNoPair (X : EX) {h : HP} (v e : Int32) : Ct X mX8_areNoPair 1 0 0 [vI v, vI e] h (Rt (vI (b2 ((v < 0 ∨ 3 ≤ v) ∨ (e < 0 ∨ 3 ≤ e) ∨ v = e))) h) := by
  refine ct_of rfl (Nat.le_of_ble_eq_true rfl) ?_
  refine e_iload_n aX8_areNoPair_0 rfl ?_
  refine e_iconst (v := 3) aX8_areNoPair_1 (by decide) ?_
  refine e_invsT aX8_areNoPair_2 kX8_58 (zX8_isOutside X _ _) rfl rfl (Nat.le_of_ble_eq_true rfl) (Nat.le_of_ble_eq_true rfl) (Nat.le_refl _) (Nat.le_refl _) (Nat.le_of_ble_eq_true rfl) ?_
  refine e_if_ne aX8_areNoPair_5 (fun c5 => ?_) (fun c5 => ?_)
  · -- 5: taken
    have q5 := Decidable.of_not_not (fun z => c5 (b2_0.mpr z))
    refine e_iconst (v := 1) aX8_areNoPair_21 (by decide) ?_
    refine e_goto aX8_areNoPair_22 ?_
    refine e_zreturn aX8_areNoPair_26 rfl (by decide) (Nat.le_refl _) (Nat.le_refl _) ?_
    exact ⟨by rw [b2_t (by first | grind | (simp only [b2_0] at *; grind))], rfl⟩
  · -- 5: not taken
    have q5 := b2_0.mp c5
    refine e_iload_n aX8_areNoPair_8 rfl ?_
    refine e_iconst (v := 3) aX8_areNoPair_9 (by decide) ?_
    refine e_invsT aX8_areNoPair_10 kX8_58 (zX8_isOutside X _ _) rfl rfl (Nat.le_of_ble_eq_true rfl) (Nat.le_of_ble_eq_true rfl) (Nat.le_refl _) (Nat.le_refl _) (Nat.le_of_ble_eq_true rfl) ?_
    refine e_if_ne aX8_areNoPair_13 (fun c13 => ?_) (fun c13 => ?_)
    · -- 13: taken
      have q13 := Decidable.of_not_not (fun z => c13 (b2_0.mpr z))
      refine e_iconst (v := 1) aX8_areNoPair_21 (by decide) ?_
      refine e_goto aX8_areNoPair_22 ?_
      refine e_zreturn aX8_areNoPair_26 rfl (by decide) (Nat.le_refl _) (Nat.le_refl _) ?_
      exact ⟨by rw [b2_t (by first | grind | (simp only [b2_0] at *; grind))], rfl⟩
    · -- 13: not taken
      have q13 := b2_0.mp c13
      refine e_iload_n aX8_areNoPair_16 rfl ?_
      refine e_iload_n aX8_areNoPair_17 rfl ?_
      refine e_icmp_ne aX8_areNoPair_18 (fun c18 => ?_) (fun c18 => ?_)
      · -- 18: taken
        refine e_iconst (v := 0) aX8_areNoPair_25 (by decide) ?_
        refine e_zreturn aX8_areNoPair_26 rfl (by decide) (Nat.le_refl _) (Nat.le_refl _) ?_
        exact ⟨by rw [b2_f (by first | grind | (simp only [b2_0] at *; grind))], rfl⟩
      · -- 18: not taken
        refine e_iconst (v := 1) aX8_areNoPair_21 (by decide) ?_
        refine e_goto aX8_areNoPair_22 ?_
        refine e_zreturn aX8_areNoPair_26 rfl (by decide) (Nat.le_refl _) (Nat.le_refl _) ?_
        exact ⟨by rw [b2_t (by first | grind | (simp only [b2_0] at *; grind))], rfl⟩
theorem zX8_placeUnder (X : EX) {h : HP} {s p : Nat} (hs : s < 1296) (hp : p < 12) : Ct X mX8_placeUnder 0 0 0 [vI (nI s), vI (nI p)] h (Rt (vI (nI (pl s p))) h) := by
  refine ct_of rfl (Nat.le_of_ble_eq_true rfl) ?_
  refine e_iload_n aX8_placeUnder_0 rfl ?_
  refine e_gets (i := 2) aX8_placeUnder_1 rfl gX8_198 ?_
  refine e_iload_n aX8_placeUnder_4 rfl ?_
  refine e_iconst (v := 3) aX8_placeUnder_5 (by decide) ?_
  refine e_idiv aX8_placeUnder_6 (by decide) ?_
  refine e_top (nI_div (b := 3) (by omega) (by decide) (by decide)) ?_
  refine e_ialoadS aX8_placeUnder_7 rfl (vin (N := 4) (by omega)) ?_
  refine e_top (st_step (i := p / 3) (by omega)) ?_
  have hst := stp_pos (y := p / 3) (by omega)
  refine e_idiv aX8_placeUnder_8 (nI_ne0 hst.1 (by omega)) ?_
  refine e_top (nI_div (by omega) hst.1 (by omega)) ?_
  have hq : s / stp (p / 3) < 1296 := Nat.lt_of_le_of_lt (Nat.div_le_self _ _) hs
  refine e_bipush (v := 6) aX8_placeUnder_9 (by decide) ?_
  refine e_irem aX8_placeUnder_11 (by decide) ?_
  refine e_top (nI_rem (b := 6) (by omega) (by decide) (by decide)) ?_
  refine e_istore_n aX8_placeUnder_12 (Nat.le_of_ble_eq_true rfl) ?_
  refine e_gets (i := 1) aX8_placeUnder_13 rfl gX8_263 ?_
  refine e_iload_n aX8_placeUnder_16 rfl ?_
  refine e_iconst (v := 3) aX8_placeUnder_17 (by decide) ?_
  refine e_imul aX8_placeUnder_18 ?_
  refine e_top (nI_mul _ 3) ?_
  refine e_iload_n aX8_placeUnder_19 rfl ?_
  refine e_iconst (v := 3) aX8_placeUnder_20 (by decide) ?_
  refine e_irem aX8_placeUnder_21 (by decide) ?_
  refine e_top (nI_rem (b := 3) (by omega) (by decide) (by decide)) ?_
  refine e_iadd aX8_placeUnder_22 ?_
  refine e_top (nI_add _ _) ?_
  have hm : s / stp (p / 3) % 6 < 6 := Nat.mod_lt _ (by decide)
  refine e_ialoadS aX8_placeUnder_23 rfl (vin (N := 18) (by omega)) ?_
  refine e_top (st_place (by omega)) ?_
  refine e_ireturn aX8_placeUnder_24 rfl (Nat.le_refl _) (Nat.le_refl _) ?_
  exact ⟨rfl, rfl⟩
theorem zX8_finding (X : EX) {h : HP} (F : Fx h) {k : Nat} (hk : k < 8) : Ct X mX8_finding 0 0 0 [vR (some 32), vI (nI k)] h (Rt (vI (-1000001 - nI k)) (wI h 76 k (hI h 76 k + 1))) := by
  refine ct_of rfl (Nat.le_of_ble_eq_true rfl) ?_
  refine e_aload_n aX8_finding_0 rfl ?_
  refine e_getRF aX8_finding_1 fX8_50 rfl (fx_is F rfl) (fx_r (b := 76) F rfl) ?_
  refine e_iload_n aX8_finding_4 rfl ?_
  refine e_dup2 aX8_finding_5 rfl rfl ?_
  refine e_ialoadF aX8_finding_6 (fx_is F rfl) (fx_n (n := 8) F rfl) (vin hk) (by rw [cl (by omega)]) ?_
  refine e_iconst (v := 1) aX8_finding_7 (by decide) ?_
  refine e_iadd aX8_finding_8 ?_
  refine e_iastoreF aX8_finding_9 (fx_is F rfl) (fx_n (n := 8) F rfl) (vin hk) ?_
  rw [cl (by omega)]
  refine e_ldcw aX8_finding_10 lX8_269 ?_
  refine e_iload_n aX8_finding_13 rfl ?_
  refine e_isub aX8_finding_14 ?_
  refine e_ireturn aX8_finding_15 rfl (Nat.le_refl _) (Nat.le_refl _) ?_
  exact ⟨rfl, rfl⟩
theorem zX8_longFinding (X : EX) {h : HP} (F : Fx h) {k : Nat} (hk : k < 8) : Ct X mX8_longFinding 0 0 0 [vR (some 32), vI (nI k)] h (Rt (vL (-1000000000000000001 - lN k)) (wI h 76 k (hI h 76 k + 1))) := by
  refine ct_of rfl (Nat.le_of_ble_eq_true rfl) ?_
  refine e_aload_n aX8_longFinding_0 rfl ?_
  refine e_getRF aX8_longFinding_1 fX8_50 rfl (fx_is F rfl) (fx_r (b := 76) F rfl) ?_
  refine e_iload_n aX8_longFinding_4 rfl ?_
  refine e_dup2 aX8_longFinding_5 rfl rfl ?_
  refine e_ialoadF aX8_longFinding_6 (fx_is F rfl) (fx_n (n := 8) F rfl) (vin hk) (by rw [cl (by omega)]) ?_
  refine e_iconst (v := 1) aX8_longFinding_7 (by decide) ?_
  refine e_iadd aX8_longFinding_8 ?_
  refine e_iastoreF aX8_longFinding_9 (fx_is F rfl) (fx_n (n := 8) F rfl) (vin hk) ?_
  rw [cl (by omega)]
  refine e_ldc2 aX8_longFinding_10 lX8_270 ?_
  refine e_iload_n aX8_longFinding_13 rfl ?_
  refine e_i2l aX8_longFinding_14 ?_
  refine e_topL (nI_l (by omega)) ?_
  refine e_lsub aX8_longFinding_15 ?_
  refine e_lreturn aX8_longFinding_16 rfl (Nat.le_refl _) (Nat.le_refl _) ?_
  exact ⟨rfl, rfl⟩
end
section
/-! deals, as mathematics -/
/-- KIND, FROM, TO, PICK, the other PICK, n, whether a CONDITION was told, where it holds -/
abbrev DD : Type := Nat × Nat × Nat × Nat × Option Nat × Nat × Bool × (Nat → Bool)
abbrev dK (d : DD) : Nat := d.1
abbrev dF (d : DD) : Nat := d.2.1
abbrev dT (d : DD) : Nat := d.2.2.1
abbrev dP (d : DD) : Nat := d.2.2.2.1
abbrev dO (d : DD) : Option Nat := d.2.2.2.2.1
abbrev dN (d : DD) : Nat := d.2.2.2.2.2.1
abbrev dC (d : DD) : Bool := d.2.2.2.2.2.2.1
abbrev dB (d : DD) : Nat → Bool := d.2.2.2.2.2.2.2
abbrev dV (d : DD) : Nat := (dO d).getD 0
/-- a deal as the acts make them -/
def dWf (d : DD) : Prop := dK d < 6 ∧ dF d < 3 ∧ dT d < 3 ∧ dF d ≠ dT d ∧ dP d < 12 ∧ ((dK d = 2 ∨ dK d = 5) ↔ (dO d).isSome = true) ∧ (∀ q, dO d = some q → q < 12 ∧ q ≠ dP d ∧ q / 3 = dP d / 3) ∧ dN d ≤ 2 ∧ (dK d = 0 ∨ dK d = 2 ↔ dN d = 0) ∧ (dC d = false → ∀ s, dB d s = true)
def roll (s : Nat) : Nat → Nat → Nat → Option Nat
  | 0, _, _ => none
  | k + 1, p, n => if 12 ≤ p then none else if n ≤ pl s p then some p else roll s k (p + 3) (n - 1)
/-- what a deal gives with a CONDITION that holds -/
def gvk (d : DD) (s : Nat) : Option Nat :=
  if dK d = 1 then (if dN d ≤ pl s (dP d) then some (dP d) else none)
  else if dK d = 2 then (if pl s (dV d) + 1 ≤ pl s (dP d) then some (dP d) else none)
  else if dK d = 3 then roll s 4 (dP d) (dN d)
  else if dK d = 4 then (if pl s (dP d) < dN d then some (dP d) else none)
  else if dK d = 5 then (if pl s (dV d) + dN d ≤ pl s (dP d) then some (dP d) else none)
  else some (dP d)
def gv (d : DD) (s : Nat) : Option Nat := if dB d s = true then gvk d s else none
def gb (d : DD) (s : Nat) : Option Nat := if (gv d s).isSome = true then dO d else none
/-- to whom it conveys a PICK, and from whom -/
def tk (d : DD) (s p : Nat) : Option Nat := if dO d = some p then (if (gv d s).isSome = true then some (dF d) else none) else if gv d s = some p then some (dT d) else none
def gr (d : DD) (p : Nat) : Nat := if dO d = some p then dT d else dF d
theorem roll_lt {s : Nat} : ∀ {k p n q : Nat}, roll s k p n = some q → q < 12 ∧ p ≤ q ∧ q % 3 = p % 3
  | 0, _, _, _, h => by cases h
  | k + 1, p, n, q, h => by
    unfold roll at h
    split at h
    · cases h
    · split at h
      · cases h; omega
      · have := roll_lt h; omega
theorem gv_ok {d : DD} (w : dWf d) {s q : Nat} (h : gv d s = some q) : q < 12 ∧ (q = dP d ∨ (dK d = 3 ∧ dP d ≤ q ∧ q % 3 = dP d % 3)) := by
  obtain ⟨w1, w2, w3, w4, w5, w6, w7, w8, w9⟩ := w
  unfold gv at h
  split at h
  · unfold gvk at h
    split at h
    · split at h
      · cases h; exact ⟨w5, Or.inl rfl⟩
      · cases h
    · split at h
      · split at h
        · cases h; exact ⟨w5, Or.inl rfl⟩
        · cases h
      · split at h
        · next h3 =>
          have := roll_lt h
          exact ⟨this.1, Or.inr ⟨h3, this.2⟩⟩
        · split at h
          · split at h
            · cases h; exact ⟨w5, Or.inl rfl⟩
            · cases h
          · split at h
            · split at h
              · cases h; exact ⟨w5, Or.inl rfl⟩
              · cases h
            · cases h; exact ⟨w5, Or.inl rfl⟩
  · cases h
theorem gb_ok {d : DD} (w : dWf d) {s q : Nat} (h : gb d s = some q) : q < 12 ∧ dO d = some q ∧ ∃ g, gv d s = some g ∧ g = dP d ∧ g ≠ q := by
  unfold gb at h
  split at h
  · next hs =>
    obtain ⟨g, hg⟩ := Option.isSome_iff_exists.mp hs
    have h1 := w.2.2.2.2.2.2.1 q h
    refine ⟨h1.1, h, g, hg, ?_⟩
    rcases (gv_ok w hg).2 with e | ⟨e, -⟩
    · exact ⟨e, fun z => h1.2.1 (by rw [← z, e])⟩
    · have := w.2.2.2.2.2.1.mpr (by rw [h]; rfl)
      omega
  · cases h
theorem tk_lt {d : DD} (w : dWf d) {s p t : Nat} (h : tk d s p = some t) : t < 3 ∧ gr d p < 3 ∧ gr d p ≠ t := by
  unfold tk at h
  unfold gr
  split at h
  · next ho =>
    split at h
    · cases h
      rw [if_pos ho]
      exact ⟨w.2.1, w.2.2.1, fun z => w.2.2.2.1 z.symm⟩
    · cases h
  · next ho =>
    split at h
    · cases h
      rw [if_neg ho]
      exact ⟨w.2.2.1, w.2.1, w.2.2.2.1⟩
    · cases h
/-- the last of the CHAIN, and who was in it, as the first k deals have it; the latter as a set -/
def ow (D : Nat → DD) (s p : Nat) : Nat → Nat
  | 0 => p % 3
  | k + 1 => (tk (D k) s p).getD (ow D s p k)
def vs (D : Nat → DD) (s p : Nat) : Nat → Nat → Bool
  | 0, c => decide (c = p % 3)
  | k + 1, c => vs D s p k c || decide (tk (D k) s p = some c)
def hm (D : Nat → DD) (s p : Nat) : Nat → Nat
  | 0 => 2 ^ (p % 3)
  | k + 1 => match tk (D k) s p with
    | some t => hm D s p k ||| 2 ^ t
    | none => hm D s p k
theorem ow_lt {D : Nat → DD} {s p : Nat} : ∀ {k : Nat}, (∀ j, j < k → dWf (D j)) → ow D s p k < 3
  | 0, _ => Nat.mod_lt _ (by decide)
  | k + 1, w => by
    unfold ow
    cases h : tk (D k) s p with
    | none => exact ow_lt (fun j hj => w j (by omega))
    | some t => exact (tk_lt (w k (by omega)) h).1
theorem hm_lt {D : Nat → DD} {s p : Nat} : ∀ {k : Nat}, (∀ j, j < k → dWf (D j)) → hm D s p k < 8
  | 0, _ => by
    have h1 : p % 3 < 3 := Nat.mod_lt _ (by decide)
    unfold hm
    have : p % 3 = 0 ∨ p % 3 = 1 ∨ p % 3 = 2 := by omega
    rcases this with h | h | h <;> rw [h] <;> decide
  | k + 1, w => by
    have ih := hm_lt (D := D) (s := s) (p := p) (k := k) (fun j hj => w j (by omega))
    unfold hm
    cases h : tk (D k) s p with
    | none => exact ih
    | some t =>
      have ht := (tk_lt (w k (by omega)) h).1
      exact Nat.or_lt_two_pow (n := 3) ih (Nat.pow_lt_pow_right (by decide) ht)
theorem hm_vs {D : Nat → DD} {s p c : Nat} : ∀ {k : Nat}, (hm D s p k).testBit c = vs D s p k c
  | 0 => by
    unfold hm vs
    rw [Nat.testBit_two_pow]
    exact decide_eq_decide.mpr ⟨fun h => h.symm, fun h => h.symm⟩
  | k + 1 => by
    have ih := hm_vs (D := D) (s := s) (p := p) (c := c) (k := k)
    unfold hm vs
    cases h : tk (D k) s p with
    | none => simp [ih]
    | some t =>
      rw [Nat.testBit_or, ih, Nat.testBit_two_pow]
      congr 1
      simp
/-- how one more move of p from g to t would CLASH -/
def cls (D : Nat → DD) (n s p g t : Nat) : Option Nat := if vs D s p n g = false then some 2 else if ow D s p n ≠ g then some 0 else if vs D s p n t = true then some 1 else none
end
section
/-! bits of longs -/
def bitL (x : Int64) (j : Nat) : Bool := x.toBitVec.getLsbD j
theorem sm64 : ∀ j, j < 64 → (((nI j).toInt64 &&& 63).toBitVec.smod 64).toNat = j := by decide +kernel
theorem bitL_and {x : Int64} {j : Nat} (hj : j < 64) : (x >>> ((nI j).toInt64 &&& 63)) &&& 1 = if bitL x j = true then 1 else 0 := by
  apply Int64.toBitVec_inj.mp
  rw [Int64.toBitVec_and, Int64.toBitVec_shiftRight]
  have h1 : (1 : Int64).toBitVec = 1#64 := rfl
  have hs := sm64 j hj
  apply BitVec.eq_of_getLsbD_eq
  intro i hi
  have e0 : ((if bitL x j = true then (1 : Int64) else 0).toBitVec).getLsbD i = (decide (i = 0) && bitL x j) := by
    by_cases hb : bitL x j = true
    · rw [if_pos hb, h1, hb, BitVec.getLsbD_one]
      simp [hi]
    · rw [if_neg hb]
      have : bitL x j = false := by simpa using hb
      rw [this, Bool.and_false]
      show (0#64).getLsbD i = false
      simp
  rw [e0, h1, BitVec.getLsbD_and, BitVec.getLsbD_one]
  by_cases hi0 : i = 0
  · subst hi0
    have e1 : (x.toBitVec.sshiftRight' (((nI j).toInt64 &&& 63).toBitVec.smod 64)).getLsbD 0 = bitL x j := by
      unfold BitVec.sshiftRight'
      rw [hs, BitVec.getLsbD_sshiftRight]
      have : j < 64 := hj
      simp [bitL, hj]
    rw [e1]
    simp
  · simp [hi0]
theorem lg_0 {x : Int64} : lg_cmp x 0 = 0 ↔ x = 0 := by
  unfold lg_cmp
  by_cases h1 : x > 0
  · rw [if_pos h1]
    refine ⟨fun h => absurd h (by decide), fun h => ?_⟩
    subst h
    exact absurd h1 (by decide)
  · rw [if_neg h1]
    by_cases h2 : x = 0
    · rw [if_pos h2]; exact ⟨fun _ => h2, fun _ => rfl⟩
    · rw [if_neg h2]
      exact ⟨fun h => absurd h (by decide), fun h => absurd h h2⟩
theorem bit_q {b : Bool} : lg_cmp (if b = true then (1 : Int64) else 0) 0 = 0 ↔ b = false := by
  rw [lg_0]
  cases b
  · exact ⟨fun _ => rfl, fun _ => rfl⟩
  · exact ⟨fun h => absurd h (by decide), fun h => absurd h (by decide)⟩
/-- a set of STANDINGS at sb -/
def StC (h : HP) (sb : Nat) (b : Nat → Bool) : Prop := Is h sb 7 ∧ ∃ wb, hR h sb 0 = some wb ∧ Is h wb 14 ∧ hN h wb = 21 ∧ ∀ s, s < 1296 → bitL (hL h wb (s / 64)) (s % 64) = b s
/-- a deal's object at a -/
def DealC (h : HP) (a : Nat) (d : DD) : Prop := 116 ≤ a ∧ Is h a 2 ∧ dWf d ∧ hI h a 0 = nI (dK d) ∧ hI h a 1 = nI (dF d) ∧ hI h a 2 = nI (dT d) ∧ hI h a 3 = nI (dP d) ∧ hI h a 4 = oI (dO d) ∧ hI h a 5 = nI (dN d) ∧
  ((dC d = false ∧ hR h a 6 = none) ∨ (dC d = true ∧ ∃ sb, hR h a 6 = some sb ∧ 116 ≤ sb ∧ StC h sb (dB d) ∧ ∀ wb, hR h sb 0 = some wb → 116 ≤ wb))
/-- what lies from 116 on stays -/
def Up (h h' : HP) : Prop := hZ h ≤ hZ h' ∧ ∀ a, 116 ≤ a → a < hZ h → (∀ i, hI h' a i = hI h a i ∧ hL h' a i = hL h a i ∧ hR h' a i = hR h a i) ∧ hT h' a = hT h a ∧ hN h' a = hN h a
theorem Up.rf (h : HP) : Up h h := ⟨Nat.le_refl _, fun _ _ _ => ⟨fun _ => ⟨rfl, rfl, rfl⟩, rfl, rfl⟩⟩
theorem Up.tr {h1 h2 h3 : HP} (a : Up h1 h2) (b : Up h2 h3) : Up h1 h3 := by
  refine ⟨Nat.le_trans a.1 b.1, fun x hx hx2 => ?_⟩
  obtain ⟨p1, p2, p3⟩ := a.2 x hx hx2
  obtain ⟨q1, q2, q3⟩ := b.2 x hx (Nat.lt_of_lt_of_le hx2 a.1)
  exact ⟨fun i => ⟨(q1 i).1.trans (p1 i).1, (q1 i).2.1.trans (p1 i).2.1, (q1 i).2.2.trans (p1 i).2.2⟩, q2.trans p2, q3.trans p3⟩
theorem Up.wI {h : HP} {b i : Nat} {v : Int32} (hb : b < 116) : Up h (wI h b i v) := ⟨Nat.le_refl _, fun a ha _ => ⟨fun j => ⟨up2_a (by omega), rfl, rfl⟩, rfl, rfl⟩⟩
theorem Up.wL {h : HP} {b i : Nat} {v : Int64} (hb : b < 116) : Up h (wL h b i v) := ⟨Nat.le_refl _, fun a ha _ => ⟨fun j => ⟨rfl, up2_a (by omega), rfl⟩, rfl, rfl⟩⟩
theorem Up.wR {h : HP} {b i : Nat} {v : Option Nat} (hb : b < 116) : Up h (wR h b i v) := ⟨Nat.le_refl _, fun a ha _ => ⟨fun j => ⟨rfl, rfl, up2_a (by omega)⟩, rfl, rfl⟩⟩
theorem Is.up {h h' : HP} (u : Up h h') {a t : Nat} (ha : 116 ≤ a) (k : Is h a t) : Is h' a t := ⟨k.1, Nat.lt_of_lt_of_le k.2.1 u.1, (u.2 a ha k.2.1).2.1.trans k.2.2⟩
theorem StC.up {h h' : HP} (u : Up h h') {sb : Nat} {b : Nat → Bool} (h1 : 116 ≤ sb) (h2 : ∀ wb, hR h sb 0 = some wb → 116 ≤ wb) (k : StC h sb b) : StC h' sb b := by
  obtain ⟨k1, wb, k2, k3, k4, k5⟩ := k
  have hw := h2 wb k2
  refine ⟨k1.up u h1, wb, ((u.2 sb h1 k1.2.1).1 0).2.2.trans k2, k3.up u hw, (u.2 wb hw k3.2.1).2.2.trans k4, fun s hs => ?_⟩
  rw [((u.2 wb hw k3.2.1).1 _).2.1]
  exact k5 s hs
theorem DealC.up {h h' : HP} (u : Up h h') {a : Nat} {d : DD} (k : DealC h a d) : DealC h' a d := by
  obtain ⟨k0, k1, k2, e0, e1, e2, e3, e4, e5, k3⟩ := k
  have q := (u.2 a k0 k1.2.1).1
  refine ⟨k0, k1.up u k0, k2, (q 0).1.trans e0, (q 1).1.trans e1, (q 2).1.trans e2, (q 3).1.trans e3, (q 4).1.trans e4, (q 5).1.trans e5, ?_⟩
  rcases k3 with ⟨c1, c2⟩ | ⟨c1, sb, c2, c3, c4, c5⟩
  · exact Or.inl ⟨c1, (q 6).2.2.trans c2⟩
  · refine Or.inr ⟨c1, sb, (q 6).2.2.trans c2, c3, c4.up u c3 c5, fun wb hw => c5 wb ?_⟩
    rw [← ((u.2 sb c3 c4.1.2.1).1 0).2.2]
    exact hw
end
section
/-! contracts: Standings.has, Deal (written by wip/p45/g16.py) -/
theorem shr6 {s : Nat} (hs : s < 1073741824) : nI s >>> ((6 : Int32) &&& 31) = nI (s / 64) := pk_shrN (k := 6) (by omega) _ (by decide)
theorem and63 {s : Nat} (hs : s < 1073741824) : nI s &&& 63 = nI (s % 64) := pk_andN (k := 6) (by omega) (by decide)
theorem oI_lt {q : Option Nat} (h : ∀ p, q = some p → p < 1073741824) : oI q < 0 ↔ q = none := by
  cases q with
  | none => exact ⟨fun _ => rfl, fun _ => by decide⟩
  | some p => exact ⟨fun z => absurd z (nI_pos (by have := h p rfl; omega)), fun z => by cases z⟩
theorem oI_inj {q r : Option Nat} (h : ∀ p, q = some p → p < 1073741824) (h2 : ∀ p, r = some p → p < 1073741824) : oI q = oI r ↔ q = r := by
  refine ⟨fun e => ?_, fun e => by rw [e]⟩
  cases q with
  | none =>
    cases r with
    | none => rfl
    | some p =>
      have : oI (some p) < 0 := by rw [← e]; decide
      exact absurd this (nI_pos (by have := h2 p rfl; omega))
  | some p =>
    cases r with
    | none =>
      have : oI (some p) < 0 := by rw [e]; decide
      exact absurd this (nI_pos (by have := h p rfl; omega))
    | some p2 =>
      have e2 : nI p = nI p2 := e
      rw [nI_eq (by have := h p rfl; omega) (by have := h2 p2 rfl; omega)] at e2
      rw [e2]
theorem gv_b {d : DD} (w : dWf d) {s : Nat} : ∀ p, gv d s = some p → p < 1073741824 := fun p h => by have := (gv_ok w h).1; omega
theorem dO_b {d : DD} (w : dWf d) : ∀ p, dO d = some p → p < 1073741824 := fun p h => by have := (w.2.2.2.2.2.2.1 p h).1; omega
theorem zX6_has (X : EX) {h : HP} {sb s : Nat} {b : Nat → Bool} (k : StC h sb b) (hs : s < 1296) : Ct X mX6_has 0 0 0 [vR (some sb), vI (nI s)] h (Rt (vI (b2 (b s = true))) h) := by
  refine ct_of rfl (Nat.le_of_ble_eq_true rfl) ?_
  obtain ⟨kI, wb, kw, kw2, kn, kb⟩ := k
  refine e_aload_n aX6_has_0 rfl ?_
  refine e_getRF aX6_has_1 fX6_11 rfl kI kw ?_
  refine e_iload_n aX6_has_4 rfl ?_
  refine e_bipush (v := 6) aX6_has_5 (by decide) ?_
  refine e_ishr aX6_has_7 ?_
  refine e_top (shr6 (by omega)) ?_
  refine e_laloadF aX6_has_8 kw2 kn (vin (by omega)) (by rw [cl (by omega)]) ?_
  refine e_iload_n aX6_has_9 rfl ?_
  refine e_bipush (v := 63) aX6_has_10 (by decide) ?_
  refine e_iand aX6_has_12 ?_
  refine e_top (and63 (by omega)) ?_
  refine e_lshr aX6_has_13 ?_
  refine e_lconst (v := 1) aX6_has_14 rfl ?_
  refine e_land aX6_has_15 ?_
  refine e_topL (bitL_and (j := s % 64) (by omega)) ?_
  refine e_lconst (v := 0) aX6_has_16 rfl ?_
  refine e_lcmp aX6_has_17 ?_
  refine e_if_eq aX6_has_18 (fun c18 => ?_) (fun c18 => ?_)
  · -- 18: taken
    have c := bit_q.mp c18
    rw [kb s hs] at c
    refine e_iconst (v := 0) aX6_has_25 (by decide) ?_
    refine e_zreturn aX6_has_26 rfl (by decide) (Nat.le_refl _) (Nat.le_refl _) ?_
    exact ⟨by rw [b2_f (by first | grind | (simp only [b2_0] at *; grind))], rfl⟩
  · -- 18: not taken
    have c := (not_congr bit_q).mp c18
    rw [kb s hs] at c
    refine e_iconst (v := 1) aX6_has_21 (by decide) ?_
    refine e_goto aX6_has_22 ?_
    refine e_zreturn aX6_has_26 rfl (by decide) (Nat.le_refl _) (Nat.le_refl _) ?_
    exact ⟨by rw [b2_t (by first | grind | (simp only [b2_0] at *; grind))], rfl⟩
theorem zX1_isMet (X : EX) {h : HP} {a s : Nat} {d : DD} (k : DealC h a d) (hs : s < 1296) : Ct X mX1_isMet 0 0 0 [vR (some a), vI (nI s)] h (Rt (vI (b2 (dB d s = true))) h) := by
  refine ct_of rfl (Nat.le_of_ble_eq_true rfl) ?_
  obtain ⟨k0, kI, w, e0, e1, e2, e3, e4, e5, kc⟩ := id k
§MISSING§
theorem sub_lt {a b n : Nat} (ha : a < 1073741824) (hb : b < 1073741824) (hn : n < 1073741824) : nI a - nI b < nI n ↔ a < b + n := by
  rw [Int32.lt_iff_toInt_lt, pk_sub_toInt (by omega) (by omega), nI_toInt (by omega)]
  omega
theorem pk_m1r {n : Nat} (h : 0 < n) : nI n + Int32.ofInt (-1) = nI (n - 1) := by
  obtain ⟨k, rfl⟩ : ∃ k, n = k + 1 := ⟨n - 1, by omega⟩
  exact pk_m1 k
theorem zX1_gives (X : EX) {h : HP} {a s : Nat} {d : DD} (k : DealC h a d) (hs : s < 1296) : Ct X mX1_gives 1 0 0 [vR (some a), vI (nI s)] h (Rt (vI (oI (gv d s))) h) := by
  refine ct_of rfl (Nat.le_of_ble_eq_true rfl) ?_
  obtain ⟨k0, kI, w, e0, e1, e2, e3, e4, e5, kc⟩ := id k
  have loop : ∀ (k p n : Nat), 12 ≤ p + 3 * k → p < 15 → n ≤ 2 → oI (roll s k p n) = oI (gv d s) → Ev X mX1_gives 1 0 0 (Rt (vI (oI (gv d s))) h) 0 0 170 [(0, some (vR (some a))), (1, some (vI (nI s))), (3, some (vI (nI p))), (4, some (vI (nI n)))] [] h := by
    intro k
    induction k with
    | zero =>
      intro p n h1 h2 h3 hRr
      refine e_iload_n aX1_gives_170 rfl ?_
      refine e_bipush (v := 12) aX1_gives_171 (by decide) ?_
      refine e_icmp_ge aX1_gives_173 (fun c173 => ?_) (fun c173 => ?_)
      · -- 173: taken
        have q173 := (nI_leI (a := 12) (by omega) (by omega)).mp c173
        refine e_iload_n aX1_gives_195 rfl ?_
        refine e_bipush (v := 12) aX1_gives_196 (by decide) ?_
        refine e_icmp_ge aX1_gives_198 (fun c198 => ?_) (fun c198 => ?_)
        · -- 198: taken
          have q198 := (nI_leI (a := 12) (by omega) (by omega)).mp c198
          refine e_iconst (v := -1) aX1_gives_205 (by decide) ?_
          refine e_ireturn aX1_gives_206 rfl (Nat.le_refl _) (Nat.le_refl _) ?_
          first | exact ⟨by rw [← hRr]; rfl, rfl⟩ | exact absurd q173 q198
        · -- 198: not taken
          have q198 := (not_congr (nI_leI (a := 12) (by omega) (by omega))).mp c198
          refine e_iload_n aX1_gives_201 rfl ?_
          refine e_goto aX1_gives_202 ?_
          refine e_ireturn aX1_gives_206 rfl (Nat.le_refl _) (Nat.le_refl _) ?_
          first | exact ⟨by rw [← hRr]; rfl, rfl⟩ | exact absurd q173 q198
      · -- 173: not taken
        have q173 := (not_congr (nI_leI (a := 12) (by omega) (by omega))).mp c173
        exact absurd h1 (by omega)
    | succ k ih =>
      intro p n h1 h2 h3 hRr
      refine e_iload_n aX1_gives_170 rfl ?_
      refine e_bipush (v := 12) aX1_gives_171 (by decide) ?_
      refine e_icmp_ge aX1_gives_173 (fun c173 => ?_) (fun c173 => ?_)
      · -- 173: taken
        have q173 := (nI_leI (a := 12) (by omega) (by omega)).mp c173
        refine e_iload_n aX1_gives_195 rfl ?_
        refine e_bipush (v := 12) aX1_gives_196 (by decide) ?_
        refine e_icmp_ge aX1_gives_198 (fun c198 => ?_) (fun c198 => ?_)
        · -- 198: taken
          have q198 := (nI_leI (a := 12) (by omega) (by omega)).mp c198
          refine e_iconst (v := -1) aX1_gives_205 (by decide) ?_
          refine e_ireturn aX1_gives_206 rfl (Nat.le_refl _) (Nat.le_refl _) ?_
          refine ⟨?_, rfl⟩
          rw [← hRr]
          unfold roll
          first | (rw [if_pos (by omega)]; rfl) | (rw [if_neg (by omega), if_pos (by omega)]; rfl)
        · -- 198: not taken
          have q198 := (not_congr (nI_leI (a := 12) (by omega) (by omega))).mp c198
          refine e_iload_n aX1_gives_201 rfl ?_
          refine e_goto aX1_gives_202 ?_
          refine e_ireturn aX1_gives_206 rfl (Nat.le_refl _) (Nat.le_refl _) ?_
          refine ⟨?_, rfl⟩
          rw [← hRr]
          unfold roll
          first | (rw [if_pos (by omega)]; rfl) | (rw [if_neg (by omega), if_pos (by omega)]; rfl)
      · -- 173: not taken
        have q173 := (not_congr (nI_leI (a := 12) (by omega) (by omega))).mp c173
        refine e_iload_n aX1_gives_176 rfl ?_
        refine e_iload_n aX1_gives_177 rfl ?_
        refine e_invsNT aX1_gives_178 kX1_40 (zX8_placeUnder X hs (by omega)) rfl rfl (Nat.le_of_ble_eq_true rfl) (Nat.le_of_ble_eq_true rfl) (Nat.le_refl _) (Nat.le_refl _) (Nat.le_of_ble_eq_true rfl) ?_
        refine e_iload aX1_gives_181 rfl ?_
        refine e_icmp_ge aX1_gives_183 (fun c183 => ?_) (fun c183 => ?_)
        · -- 183: taken
          have hp3 := pl_lt s p
          have q183 := (nI_leI (by omega) (by omega)).mp c183
          refine e_iload_n aX1_gives_195 rfl ?_
          refine e_bipush (v := 12) aX1_gives_196 (by decide) ?_
          refine e_icmp_ge aX1_gives_198 (fun c198 => ?_) (fun c198 => ?_)
          · -- 198: taken
            have q198 := (nI_leI (a := 12) (by omega) (by omega)).mp c198
            refine e_iconst (v := -1) aX1_gives_205 (by decide) ?_
            refine e_ireturn aX1_gives_206 rfl (Nat.le_refl _) (Nat.le_refl _) ?_
            refine ⟨?_, rfl⟩
            rw [← hRr]
            unfold roll
            first | (rw [if_pos (by omega)]; rfl) | (rw [if_neg (by omega), if_pos (by omega)]; rfl)
          · -- 198: not taken
            have q198 := (not_congr (nI_leI (a := 12) (by omega) (by omega))).mp c198
            refine e_iload_n aX1_gives_201 rfl ?_
            refine e_goto aX1_gives_202 ?_
            refine e_ireturn aX1_gives_206 rfl (Nat.le_refl _) (Nat.le_refl _) ?_
            refine ⟨?_, rfl⟩
            rw [← hRr]
            unfold roll
            first | (rw [if_pos (by omega)]; rfl) | (rw [if_neg (by omega), if_pos (by omega)]; rfl)
        · -- 183: not taken
          have hp3 := pl_lt s p
          have q183 := (not_congr (nI_leI (by omega) (by omega))).mp c183
          refine e_iinc aX1_gives_186 rfl rfl (Nat.le_of_ble_eq_true rfl) ?_
          refine e_iinc aX1_gives_189 rfl rfl (Nat.le_of_ble_eq_true rfl) ?_
          refine e_goto aX1_gives_192 ?_
          refine e_ls (ls' := [(0, some (vR (some a))), (1, some (vI (nI s))), (3, some (vI (nI (p + 3)))), (4, some (vI (nI (n - 1))))]) ⟨rfl, rfl, congrArg (fun x => some (vI x)) (nI_add p 3), congrArg (fun x => some (vI x)) (pk_m1r (by omega)), trivial⟩ ?_
          exact ih (p + 3) (n - 1) (by omega) (by omega) (by omega) (by rw [← hRr]; conv => rhs; unfold roll; rw [if_neg (by omega), if_neg (by omega)])
  have L20 : dB d s = true → Ev X mX1_gives 1 0 0 (Rt (vI (oI (gv d s))) h) 0 0 20 (arL 0 [vR (some a), vI (nI s)]) [] h := by
    intro hb
    refine e_iload_n aX1_gives_20 rfl ?_
    refine e_aload_n aX1_gives_21 rfl ?_
    refine e_getIF aX1_gives_22 fX1_21 rfl kI e3 ?_
    refine e_invsNT aX1_gives_25 kX1_40 (zX8_placeUnder X hs w.2.2.2.2.1) rfl rfl (Nat.le_of_ble_eq_true rfl) (Nat.le_of_ble_eq_true rfl) (Nat.le_refl _) (Nat.le_refl _) (Nat.le_of_ble_eq_true rfl) ?_
    refine e_istore_n aX1_gives_28 (Nat.le_of_ble_eq_true rfl) ?_
    refine e_aload_n aX1_gives_29 rfl ?_
    refine e_getIF aX1_gives_30 fX1_9 rfl kI e0 ?_
    have hk0 := w.1
    have hn2 := w.2.2.2.2.2.2.2.1
    have hp1 := pl_lt s (dP d)
    have hp2 := w.2.2.2.2.1
    rcases (show dK d = 0 ∨ dK d = 1 ∨ dK d = 2 ∨ dK d = 3 ∨ dK d = 4 ∨ dK d = 5 by omega) with hk | hk | hk | hk | hk | hk
    · -- switch
      refine e_top (v := 0) (by rw [hk]; rfl) ?_
      refine e_tableOut (tgt := 154) aX1_gives_33 (by decide) (by decide) ?_
      refine e_aload_n aX1_gives_154 rfl ?_
      refine e_getIF aX1_gives_155 fX1_21 rfl kI e3 ?_
      refine e_ireturn aX1_gives_158 rfl (Nat.le_refl _) (Nat.le_refl _) ?_
      exact ⟨by unfold gv gvk; rw [if_pos hb, if_neg (by omega), if_neg (by omega), if_neg (by omega), if_neg (by omega), if_neg (by omega)]; rfl, rfl⟩
    · -- switch
      refine e_top (v := 1) (by rw [hk]; rfl) ?_
      refine e_tableIn (tgt := 68) aX1_gives_33 (by decide) (by decide) rfl (by decide) ?_
      refine e_iload_n aX1_gives_68 rfl ?_
      refine e_aload_n aX1_gives_69 rfl ?_
      refine e_getIF aX1_gives_70 fX1_27 rfl kI e5 ?_
      refine e_icmp_lt aX1_gives_73 (fun c73 => ?_) (fun c73 => ?_)
      · -- 73: taken
        have q73 := (nI_ltI (by omega) (by omega)).mp c73
        refine e_iconst (v := -1) aX1_gives_83 (by decide) ?_
        refine e_ireturn aX1_gives_84 rfl (Nat.le_refl _) (Nat.le_refl _) ?_
        exact ⟨by unfold gv gvk; rw [if_pos hb, if_pos hk]; first | (rw [if_pos (by omega)]; rfl) | (rw [if_neg (by omega)]; rfl), rfl⟩
      · -- 73: not taken
        have q73 := (not_congr (nI_ltI (by omega) (by omega))).mp c73
        refine e_aload_n aX1_gives_76 rfl ?_
        refine e_getIF aX1_gives_77 fX1_21 rfl kI e3 ?_
        refine e_goto aX1_gives_80 ?_
        refine e_ireturn aX1_gives_84 rfl (Nat.le_refl _) (Nat.le_refl _) ?_
        exact ⟨by unfold gv gvk; rw [if_pos hb, if_pos hk]; first | (rw [if_pos (by omega)]; rfl) | (rw [if_neg (by omega)]; rfl), rfl⟩
    · -- switch
      refine e_top (v := 2) (by rw [hk]; rfl) ?_
      refine e_tableIn (tgt := 102) aX1_gives_33 (by decide) (by decide) rfl (by decide) ?_
      obtain ⟨q, hq⟩ := Option.isSome_iff_exists.mp (w.2.2.2.2.2.1.mp (by omega))
      have hqb := w.2.2.2.2.2.2.1 q hq
      have hp3 := pl_lt s q
      have hV : dV d = q := by unfold dV; rw [hq]; rfl
      refine e_iload_n aX1_gives_102 rfl ?_
      refine e_iload_n aX1_gives_103 rfl ?_
      refine e_aload_n aX1_gives_104 rfl ?_
      refine e_getIF aX1_gives_105 fX1_24 rfl kI (e4.trans (congrArg oI hq)) ?_
      refine e_invsNT aX1_gives_108 kX1_40 (zX8_placeUnder X hs hqb.1) rfl rfl (Nat.le_of_ble_eq_true rfl) (Nat.le_of_ble_eq_true rfl) (Nat.le_refl _) (Nat.le_refl _) (Nat.le_of_ble_eq_true rfl) ?_
      refine e_isub aX1_gives_111 ?_
      refine e_iconst (v := 1) aX1_gives_112 (by decide) ?_
      refine e_icmp_lt aX1_gives_113 (fun c113 => ?_) (fun c113 => ?_)
      · -- 113: taken
        have q113 := (sub_lt (n := 1) (by omega) (by omega) (by omega)).mp c113
        refine e_iconst (v := -1) aX1_gives_123 (by decide) ?_
        refine e_ireturn aX1_gives_124 rfl (Nat.le_refl _) (Nat.le_refl _) ?_
        exact ⟨by unfold gv gvk; rw [if_pos hb, if_neg (by omega), if_pos hk, hV]; first | (rw [if_pos (by omega)]; rfl) | (rw [if_neg (by omega)]; rfl), rfl⟩
      · -- 113: not taken
        have q113 := (not_congr (sub_lt (n := 1) (by omega) (by omega) (by omega))).mp c113
        refine e_aload_n aX1_gives_116 rfl ?_
        refine e_getIF aX1_gives_117 fX1_21 rfl kI e3 ?_
        refine e_goto aX1_gives_120 ?_
        refine e_ireturn aX1_gives_124 rfl (Nat.le_refl _) (Nat.le_refl _) ?_
        exact ⟨by unfold gv gvk; rw [if_pos hb, if_neg (by omega), if_pos hk, hV]; first | (rw [if_pos (by omega)]; rfl) | (rw [if_neg (by omega)]; rfl), rfl⟩
    · -- switch
      refine e_top (v := 3) (by rw [hk]; rfl) ?_
      refine e_tableIn (tgt := 151) aX1_gives_33 (by decide) (by decide) rfl (by decide) ?_
      refine e_goto aX1_gives_151 ?_
      refine e_aload_n aX1_gives_159 rfl ?_
      refine e_getIF aX1_gives_160 fX1_21 rfl kI e3 ?_
      refine e_istore_n aX1_gives_163 (Nat.le_of_ble_eq_true rfl) ?_
      refine e_aload_n aX1_gives_164 rfl ?_
      refine e_getIF aX1_gives_165 fX1_27 rfl kI e5 ?_
      refine e_istore aX1_gives_168 (Nat.le_of_ble_eq_true rfl) ?_
      refine e_ls (ls' := [(0, some (vR (some a))), (1, some (vI (nI s))), (3, some (vI (nI (dP d)))), (4, some (vI (nI (dN d))))]) ⟨rfl, rfl, rfl, rfl, trivial⟩ ?_
      exact loop 4 _ _ (by omega) (by omega) hn2 (by unfold gv gvk; rw [if_pos hb, if_neg (by omega), if_neg (by omega), if_pos hk])
    · -- switch
      refine e_top (v := 4) (by rw [hk]; rfl) ?_
      refine e_tableIn (tgt := 85) aX1_gives_33 (by decide) (by decide) rfl (by decide) ?_
      refine e_iload_n aX1_gives_85 rfl ?_
      refine e_aload_n aX1_gives_86 rfl ?_
      refine e_getIF aX1_gives_87 fX1_27 rfl kI e5 ?_
      refine e_icmp_ge aX1_gives_90 (fun c90 => ?_) (fun c90 => ?_)
      · -- 90: taken
        have q90 := (nI_leI (by omega) (by omega)).mp c90
        refine e_iconst (v := -1) aX1_gives_100 (by decide) ?_
        refine e_ireturn aX1_gives_101 rfl (Nat.le_refl _) (Nat.le_refl _) ?_
        exact ⟨by unfold gv gvk; rw [if_pos hb, if_neg (by omega), if_neg (by omega), if_neg (by omega), if_pos hk]; first | (rw [if_pos (by omega)]; rfl) | (rw [if_neg (by omega)]; rfl), rfl⟩
      · -- 90: not taken
        have q90 := (not_congr (nI_leI (by omega) (by omega))).mp c90
        refine e_aload_n aX1_gives_93 rfl ?_
        refine e_getIF aX1_gives_94 fX1_21 rfl kI e3 ?_
        refine e_goto aX1_gives_97 ?_
        refine e_ireturn aX1_gives_101 rfl (Nat.le_refl _) (Nat.le_refl _) ?_
        exact ⟨by unfold gv gvk; rw [if_pos hb, if_neg (by omega), if_neg (by omega), if_neg (by omega), if_pos hk]; first | (rw [if_pos (by omega)]; rfl) | (rw [if_neg (by omega)]; rfl), rfl⟩
    · -- switch
      refine e_top (v := 5) (by rw [hk]; rfl) ?_
      refine e_tableIn (tgt := 125) aX1_gives_33 (by decide) (by decide) rfl (by decide) ?_
      obtain ⟨q, hq⟩ := Option.isSome_iff_exists.mp (w.2.2.2.2.2.1.mp (by omega))
      have hqb := w.2.2.2.2.2.2.1 q hq
      have hp3 := pl_lt s q
      have hV : dV d = q := by unfold dV; rw [hq]; rfl
      refine e_iload_n aX1_gives_125 rfl ?_
      refine e_iload_n aX1_gives_126 rfl ?_
      refine e_aload_n aX1_gives_127 rfl ?_
      refine e_getIF aX1_gives_128 fX1_24 rfl kI (e4.trans (congrArg oI hq)) ?_
      refine e_invsNT aX1_gives_131 kX1_40 (zX8_placeUnder X hs hqb.1) rfl rfl (Nat.le_of_ble_eq_true rfl) (Nat.le_of_ble_eq_true rfl) (Nat.le_refl _) (Nat.le_refl _) (Nat.le_of_ble_eq_true rfl) ?_
      refine e_isub aX1_gives_134 ?_
      refine e_aload_n aX1_gives_135 rfl ?_
      refine e_getIF aX1_gives_136 fX1_27 rfl kI e5 ?_
      refine e_icmp_lt aX1_gives_139 (fun c139 => ?_) (fun c139 => ?_)
      · -- 139: taken
        have q139 := (sub_lt (by omega) (by omega) (by omega)).mp c139
        refine e_iconst (v := -1) aX1_gives_149 (by decide) ?_
        refine e_ireturn aX1_gives_150 rfl (Nat.le_refl _) (Nat.le_refl _) ?_
        exact ⟨by unfold gv gvk; rw [if_pos hb, if_neg (by omega), if_neg (by omega), if_neg (by omega), if_neg (by omega), if_pos hk, hV]; first | (rw [if_pos (by omega)]; rfl) | (rw [if_neg (by omega)]; rfl), rfl⟩
      · -- 139: not taken
        have q139 := (not_congr (sub_lt (by omega) (by omega) (by omega))).mp c139
        refine e_aload_n aX1_gives_142 rfl ?_
        refine e_getIF aX1_gives_143 fX1_21 rfl kI e3 ?_
        refine e_goto aX1_gives_146 ?_
        refine e_ireturn aX1_gives_150 rfl (Nat.le_refl _) (Nat.le_refl _) ?_
        exact ⟨by unfold gv gvk; rw [if_pos hb, if_neg (by omega), if_neg (by omega), if_neg (by omega), if_neg (by omega), if_pos hk, hV]; first | (rw [if_pos (by omega)]; rfl) | (rw [if_neg (by omega)]; rfl), rfl⟩
  refine e_aload_n aX1_gives_0 rfl ?_
  refine e_getR aX1_gives_1 fX1_30 rfl kI ?_
  refine e_ifnull aX1_gives_4 (fun c4 => ?_) (fun r4 c4 => ?_)
  · -- 4: taken
    exact L20 (by
      rcases kc with ⟨q1, q2⟩ | ⟨q1, sb, q2, q3, q4, q5⟩
      · exact w.2.2.2.2.2.2.2.2.2 q1 s
      · rw [q2] at c4; cases c4)
  · -- 4: not taken
    rcases kc with ⟨q1, q2⟩ | ⟨q1, sb, q2, q3, q4, q5⟩
    · rw [q2] at c4; cases c4
    have hsb : sb = r4 := Option.some.inj (q2.symm.trans c4)
    subst hsb
    refine e_aload_n aX1_gives_7 rfl ?_
    refine e_getRF aX1_gives_8 fX1_30 rfl kI c4 ?_
    refine e_iload_n aX1_gives_11 rfl ?_
    refine e_invvT aX1_gives_12 kX1_34 (zX6_has X q4 hs) rfl rfl q4.1 (Nat.le_of_ble_eq_true rfl) (Nat.le_of_ble_eq_true rfl) (Nat.le_refl _) (Nat.le_refl _) (Nat.le_of_ble_eq_true rfl) ?_
    refine e_if_ne aX1_gives_15 (fun c15 => ?_) (fun c15 => ?_)
    · -- 15: taken
      exact L20 (Decidable.of_not_not (fun z => c15 (b2_0.mpr z)))
    · -- 15: not taken
      have hb : ¬ dB d s = true := b2_0.mp c15
      refine e_iconst (v := -1) aX1_gives_18 (by decide) ?_
      refine e_ireturn aX1_gives_19 rfl (Nat.le_refl _) (Nat.le_refl _) ?_
      exact ⟨by unfold gv; rw [if_neg hb]; rfl, rfl⟩
theorem zX1_getsBack (X : EX) {h : HP} {a s : Nat} {d : DD} (k : DealC h a d) (hs : s < 1296) : Ct X mX1_getsBack 2 0 0 [vR (some a), vI (nI s)] h (Rt (vI (oI (gb d s))) h) := by
  refine ct_of rfl (Nat.le_of_ble_eq_true rfl) ?_
  obtain ⟨k0, kI, w, e0, e1, e2, e3, e4, e5, kc⟩ := id k
  refine e_aload_n aX1_getsBack_0 rfl ?_
  refine e_getIF aX1_getsBack_1 fX1_24 rfl kI e4 ?_
  refine e_if_lt aX1_getsBack_4 (fun c4 => ?_) (fun c4 => ?_)
  · -- 4: taken
    have q4 := (oI_lt (dO_b w)).mp c4
    have hv : gb d s = none := by
      unfold gb
      rw [q4]
      split <;> rfl
    refine e_iconst (v := -1) aX1_getsBack_22 (by decide) ?_
    refine e_ireturn aX1_getsBack_23 rfl (Nat.le_refl _) (Nat.le_refl _) ?_
    exact ⟨by rw [hv] <;> rfl, rfl⟩
  · -- 4: not taken
    have q4 := (not_congr (oI_lt (dO_b w))).mp c4
    refine e_aload_n aX1_getsBack_7 rfl ?_
    refine e_iload_n aX1_getsBack_8 rfl ?_
    refine e_invvT aX1_getsBack_9 kX1_44 (zX1_gives X k hs) rfl rfl kI (Nat.le_of_ble_eq_true rfl) (Nat.le_of_ble_eq_true rfl) (Nat.le_refl _) (Nat.le_refl _) (Nat.le_of_ble_eq_true rfl) ?_
    refine e_if_lt aX1_getsBack_12 (fun c12 => ?_) (fun c12 => ?_)
    · -- 12: taken
      have q12 := (oI_lt (gv_b w)).mp c12
      have hv : gb d s = none := by
        unfold gb
        rw [if_neg (by rw [q12]; simp)]
      refine e_iconst (v := -1) aX1_getsBack_22 (by decide) ?_
      refine e_ireturn aX1_getsBack_23 rfl (Nat.le_refl _) (Nat.le_refl _) ?_
      exact ⟨by rw [hv] <;> rfl, rfl⟩
    · -- 12: not taken
      have q12 := (not_congr (oI_lt (gv_b w))).mp c12
      have hv : gb d s = dO d := by
        unfold gb
        rw [if_pos (Option.isSome_iff_ne_none.mpr q12)]
      refine e_aload_n aX1_getsBack_15 rfl ?_
      refine e_getIF aX1_getsBack_16 fX1_24 rfl kI e4 ?_
      refine e_goto aX1_getsBack_19 ?_
      refine e_ireturn aX1_getsBack_23 rfl (Nat.le_refl _) (Nat.le_refl _) ?_
      exact ⟨by rw [hv] <;> rfl, rfl⟩
theorem zX1_mayGive (X : EX) {h : HP} {a p : Nat} {d : DD} (k : DealC h a d) (hp : p < 12) : Ct X mX1_mayGive 0 0 0 [vR (some a), vI (nI p)] h (Rt (vI (b2 (p = dP d ∨ dK d = 3 ∧ dP d < p ∧ p % 3 = dP d % 3))) h) := by
  refine ct_of rfl (Nat.le_of_ble_eq_true rfl) ?_
  obtain ⟨k0, kI, w, e0, e1, e2, e3, e4, e5, kc⟩ := id k
  have hk0 := w.1
  have hp2 := w.2.2.2.2.1
  refine e_iload_n aX1_mayGive_0 rfl ?_
  refine e_aload_n aX1_mayGive_1 rfl ?_
  refine e_getIF aX1_mayGive_2 fX1_21 rfl kI e3 ?_
  refine e_icmp_eq aX1_mayGive_5 (fun c5 => ?_) (fun c5 => ?_)
  · -- 5: taken
    have q5 := (nI_eq (by omega) (by omega)).mp c5
    refine e_iconst (v := 1) aX1_mayGive_36 (by decide) ?_
    refine e_goto aX1_mayGive_37 ?_
    refine e_zreturn aX1_mayGive_41 rfl (by decide) (Nat.le_refl _) (Nat.le_refl _) ?_
    first | exact ⟨by rw [b2_t (by omega)], rfl⟩ | exact ⟨by rw [b2_f (by omega)], rfl⟩
  · -- 5: not taken
    have q5 := (not_congr (nI_eq (by omega) (by omega))).mp c5
    refine e_aload_n aX1_mayGive_8 rfl ?_
    refine e_getIF aX1_mayGive_9 fX1_9 rfl kI e0 ?_
    refine e_iconst (v := 3) aX1_mayGive_12 (by decide) ?_
    refine e_icmp_ne aX1_mayGive_13 (fun c13 => ?_) (fun c13 => ?_)
    · -- 13: taken
      have q13 := (not_congr (nI_eq (b := 3) (by omega) (by omega))).mp c13
      refine e_iconst (v := 0) aX1_mayGive_40 (by decide) ?_
      refine e_zreturn aX1_mayGive_41 rfl (by decide) (Nat.le_refl _) (Nat.le_refl _) ?_
      first | exact ⟨by rw [b2_t (by omega)], rfl⟩ | exact ⟨by rw [b2_f (by omega)], rfl⟩
    · -- 13: not taken
      have q13 := (nI_eq (b := 3) (by omega) (by omega)).mp c13
      refine e_iload_n aX1_mayGive_16 rfl ?_
      refine e_aload_n aX1_mayGive_17 rfl ?_
      refine e_getIF aX1_mayGive_18 fX1_21 rfl kI e3 ?_
      refine e_icmp_le aX1_mayGive_21 (fun c21 => ?_) (fun c21 => ?_)
      · -- 21: taken
        have q21 := (nI_leI (by omega) (by omega)).mp c21
        refine e_iconst (v := 0) aX1_mayGive_40 (by decide) ?_
        refine e_zreturn aX1_mayGive_41 rfl (by decide) (Nat.le_refl _) (Nat.le_refl _) ?_
        first | exact ⟨by rw [b2_t (by omega)], rfl⟩ | exact ⟨by rw [b2_f (by omega)], rfl⟩
      · -- 21: not taken
        have q21 := (not_congr (nI_leI (by omega) (by omega))).mp c21
        refine e_iload_n aX1_mayGive_24 rfl ?_
        refine e_iconst (v := 3) aX1_mayGive_25 (by decide) ?_
        refine e_irem aX1_mayGive_26 (by decide) ?_
        refine e_top (nI_rem (b := 3) (by omega) (by decide) (by decide)) ?_
        refine e_aload_n aX1_mayGive_27 rfl ?_
        refine e_getIF aX1_mayGive_28 fX1_21 rfl kI e3 ?_
        refine e_iconst (v := 3) aX1_mayGive_31 (by decide) ?_
        refine e_irem aX1_mayGive_32 (by decide) ?_
        refine e_top (nI_rem (b := 3) (by omega) (by decide) (by decide)) ?_
        refine e_icmp_ne aX1_mayGive_33 (fun c33 => ?_) (fun c33 => ?_)
        · -- 33: taken
          have q33 := (not_congr (nI_eq (by omega) (by omega))).mp c33
          refine e_iconst (v := 0) aX1_mayGive_40 (by decide) ?_
          refine e_zreturn aX1_mayGive_41 rfl (by decide) (Nat.le_refl _) (Nat.le_refl _) ?_
          first | exact ⟨by rw [b2_t (by omega)], rfl⟩ | exact ⟨by rw [b2_f (by omega)], rfl⟩
        · -- 33: not taken
          have q33 := (nI_eq (by omega) (by omega)).mp c33
          refine e_iconst (v := 1) aX1_mayGive_36 (by decide) ?_
          refine e_goto aX1_mayGive_37 ?_
          refine e_zreturn aX1_mayGive_41 rfl (by decide) (Nat.le_refl _) (Nat.le_refl _) ?_
          first | exact ⟨by rw [b2_t (by omega)], rfl⟩ | exact ⟨by rw [b2_f (by omega)], rfl⟩
theorem gv_may {d : DD} (w : dWf d) {s p : Nat} (h : gv d s = some p) : p = dP d ∨ dK d = 3 ∧ dP d < p ∧ p % 3 = dP d % 3 := by
  rcases (gv_ok w h).2 with e | e
  · exact Or.inl e
  · by_cases e9 : p = dP d
    · exact Or.inl e9
    · exact Or.inr ⟨e.1, by omega, e.2.2⟩
theorem zX1_takerOf (X : EX) {h : HP} {a s p : Nat} {d : DD} (k : DealC h a d) (hs : s < 1296) (hp : p < 12) : Ct X mX1_takerOf 2 0 0 [vR (some a), vI (nI s), vI (nI p)] h (Rt (vI (oI (tk d s p))) h) := by
  refine ct_of rfl (Nat.le_of_ble_eq_true rfl) ?_
  obtain ⟨k0, kI, w, e0, e1, e2, e3, e4, e5, kc⟩ := id k
  refine e_iload_n aX1_takerOf_0 rfl ?_
  refine e_aload_n aX1_takerOf_1 rfl ?_
  refine e_getIF aX1_takerOf_2 fX1_24 rfl kI e4 ?_
  refine e_icmp_ne aX1_takerOf_5 (fun c5 => ?_) (fun c5 => ?_)
  · -- 5: taken
    have q5 : ¬ dO d = some p := fun z => c5 (by rw [z]; rfl)
    refine e_aload_n aX1_takerOf_25 rfl ?_
    refine e_iload_n aX1_takerOf_26 rfl ?_
    refine e_invvT aX1_takerOf_27 kX1_48 (zX1_mayGive X k hp) rfl rfl kI (Nat.le_of_ble_eq_true rfl) (Nat.le_of_ble_eq_true rfl) (Nat.le_refl _) (Nat.le_refl _) (Nat.le_of_ble_eq_true rfl) ?_
    refine e_if_eq aX1_takerOf_30 (fun c30 => ?_) (fun c30 => ?_)
    · -- 30: taken
      have q30 := b2_0.mp c30
      have hv : tk d s p = none := by
        unfold tk
        rw [if_neg q5, if_neg (fun z => q30 (gv_may w z))]
      refine e_iconst (v := -1) aX1_takerOf_49 (by decide) ?_
      refine e_ireturn aX1_takerOf_50 rfl (Nat.le_refl _) (Nat.le_refl _) ?_
      exact ⟨by rw [hv] <;> rfl, rfl⟩
    · -- 30: not taken
      have q30 := Decidable.of_not_not (fun z => c30 (b2_0.mpr z))
      refine e_aload_n aX1_takerOf_33 rfl ?_
      refine e_iload_n aX1_takerOf_34 rfl ?_
      refine e_invvT aX1_takerOf_35 kX1_44 (zX1_gives X k hs) rfl rfl kI (Nat.le_of_ble_eq_true rfl) (Nat.le_of_ble_eq_true rfl) (Nat.le_refl _) (Nat.le_refl _) (Nat.le_of_ble_eq_true rfl) ?_
      refine e_iload_n aX1_takerOf_38 rfl ?_
      refine e_icmp_ne aX1_takerOf_39 (fun c39 => ?_) (fun c39 => ?_)
      · -- 39: taken
        have q39 : ¬ gv d s = some p := fun z => c39 (by rw [z]; rfl)
        have hv : tk d s p = none := by
          unfold tk
          rw [if_neg q5, if_neg q39]
        refine e_iconst (v := -1) aX1_takerOf_49 (by decide) ?_
        refine e_ireturn aX1_takerOf_50 rfl (Nat.le_refl _) (Nat.le_refl _) ?_
        exact ⟨by rw [hv] <;> rfl, rfl⟩
      · -- 39: not taken
        have q39 : gv d s = some p := ((oI_inj (r := some p) (gv_b w) (fun _ z => by cases z; omega)).mp c39)
        have hv : tk d s p = some (dT d) := by
          unfold tk
          rw [if_neg q5, if_pos q39]
        refine e_aload_n aX1_takerOf_42 rfl ?_
        refine e_getIF aX1_takerOf_43 fX1_18 rfl kI e2 ?_
        refine e_goto aX1_takerOf_46 ?_
        refine e_ireturn aX1_takerOf_50 rfl (Nat.le_refl _) (Nat.le_refl _) ?_
        exact ⟨by rw [hv] <;> rfl, rfl⟩
  · -- 5: not taken
    have q5 : dO d = some p := ((oI_inj (q := some p) (fun _ z => by cases z; omega) (dO_b w)).mp c5).symm
    refine e_aload_n aX1_takerOf_8 rfl ?_
    refine e_iload_n aX1_takerOf_9 rfl ?_
    refine e_invvT aX1_takerOf_10 kX1_44 (zX1_gives X k hs) rfl rfl kI (Nat.le_of_ble_eq_true rfl) (Nat.le_of_ble_eq_true rfl) (Nat.le_refl _) (Nat.le_refl _) (Nat.le_of_ble_eq_true rfl) ?_
    refine e_if_lt aX1_takerOf_13 (fun c13 => ?_) (fun c13 => ?_)
    · -- 13: taken
      have q13 := (oI_lt (gv_b w)).mp c13
      have hv : tk d s p = none := by
        unfold tk
        rw [if_pos q5, if_neg (by rw [q13]; simp)]
      refine e_iconst (v := -1) aX1_takerOf_23 (by decide) ?_
      refine e_ireturn aX1_takerOf_24 rfl (Nat.le_refl _) (Nat.le_refl _) ?_
      exact ⟨by rw [hv] <;> rfl, rfl⟩
    · -- 13: not taken
      have q13 := (not_congr (oI_lt (gv_b w))).mp c13
      have hv : tk d s p = some (dF d) := by
        unfold tk
        rw [if_pos q5, if_pos (Option.isSome_iff_ne_none.mpr q13)]
      refine e_aload_n aX1_takerOf_16 rfl ?_
      refine e_getIF aX1_takerOf_17 fX1_15 rfl kI e1 ?_
      refine e_goto aX1_takerOf_20 ?_
      refine e_ireturn aX1_takerOf_24 rfl (Nat.le_refl _) (Nat.le_refl _) ?_
      exact ⟨by rw [hv] <;> rfl, rfl⟩
end
section
/-! contracts: Book (written by wip/p45/g17.py) -/
/-- FALLEN and their ORDERS, in the class -/
def BkF (h : HP) (f : Nat) (o : Nat → Nat) : Prop := hI h 33 3 = nI f ∧ f ≤ 4 ∧ (∀ y, y < f → hI h 35 y = nI (o y)) ∧ (∀ y, y < f → o y < 6)
/-- DEALS, in the class -/
def BkD (h : HP) (n : Nat) (A : Nat → Nat) (D : Nat → DD) : Prop := hI h 33 1 = nI n ∧ n ≤ 12 ∧ (∀ k, k < n → hR h 34 k = some (A k) ∧ DealC h (A k) (D k))
theorem fo_le {o : Nat → Nat} {f i : Nat} (h : f ≤ 4) (ho : ∀ y, y < f → o y < 6) (hi : i ≤ f) : fo o i ≤ 1296 := by
  have := om_fo (o := o) (f := i) (by omega) (fun y hy => ho y (by omega))
  omega
theorem zX0_firstOpen (X : EX) {h : HP} (F : Fx h) {f : Nat} {o : Nat → Nat} (b : BkF h f o) : Ct X mX0_firstOpen 0 0 0 [vR (some 33)] h (Rt (vI (nI (fo o f))) h) := by
  refine ct_of rfl (Nat.le_of_ble_eq_true rfl) ?_
  obtain ⟨b1, b2, b3, b4⟩ := b
  have loop : ∀ (m : Nat) (i : Nat), i + m = f → Ev X mX0_firstOpen 0 0 0 (Rt (vI (nI (fo o f))) h) 0 0 4 [(0, some (vR (some 33))), (1, some (vI (nI (fo o i)))), (2, some (vI (nI i)))] [] h := by
    intro m
    induction m with
    | zero =>
      intro i hi
      have hmf : i = f := by omega
      refine e_iload_n aX0_firstOpen_4 rfl ?_
      refine e_aload_n aX0_firstOpen_5 rfl ?_
      refine e_getIF aX0_firstOpen_6 fX0_37 rfl (fx_is F rfl) b1 ?_
      refine e_icmp_ge aX0_firstOpen_9 (fun c9 => ?_) (fun c9 => ?_)
      · -- 9: taken
        refine e_iload_n aX0_firstOpen_33 rfl ?_
        refine e_ireturn aX0_firstOpen_34 rfl (Nat.le_refl _) (Nat.le_refl _) ?_
        exact ⟨by rw [hmf], rfl⟩
      · -- 9: not taken
        exact absurd (nI_le (by omega) (by omega)) c9
    | succ m ih =>
      intro i hi
      refine e_iload_n aX0_firstOpen_4 rfl ?_
      refine e_aload_n aX0_firstOpen_5 rfl ?_
      refine e_getIF aX0_firstOpen_6 fX0_37 rfl (fx_is F rfl) b1 ?_
      refine e_icmp_ge aX0_firstOpen_9 (fun c9 => ?_) (fun c9 => ?_)
      · -- 9: taken
        exact absurd c9 (nI_ge (by omega) (by omega))
      · -- 9: not taken
        refine e_iload_n aX0_firstOpen_12 rfl ?_
        refine e_aload_n aX0_firstOpen_13 rfl ?_
        refine e_getRF aX0_firstOpen_14 fX0_17 rfl (fx_is F rfl) (fx_r (b := 35) F rfl) ?_
        refine e_iload_n aX0_firstOpen_17 rfl ?_
        refine e_ialoadF (x := nI (o i)) aX0_firstOpen_18 (fx_is F rfl) (fx_n (n := 4) F rfl) (vin (N := 4) (by omega)) (by rw [cl (by omega)]; exact b3 i (by omega)) ?_
        refine e_getsN (i := 2) aX0_firstOpen_19 rfl gX0_40 ?_
        refine e_iload_n aX0_firstOpen_22 rfl ?_
        refine e_ialoadS aX0_firstOpen_23 rfl (vin (N := 4) (by omega)) ?_
        refine e_top (st_step (by omega)) ?_
        refine e_imul aX0_firstOpen_24 ?_
        refine e_top (nI_mul _ _) ?_
        refine e_iadd aX0_firstOpen_25 ?_
        refine e_top (nI_add _ _) ?_
        refine e_istore_n aX0_firstOpen_26 (Nat.le_of_ble_eq_true rfl) ?_
        refine e_iinc aX0_firstOpen_27 rfl rfl (Nat.le_of_ble_eq_true rfl) ?_
        refine e_goto aX0_firstOpen_30 ?_
        refine e_ls (ls' := [(0, some (vR (some 33))), (1, some (vI (nI (fo o (i + 1))))), (2, some (vI (nI (i + 1))))]) ⟨rfl, rfl, congrArg (fun x => some (vI x)) (nI_1 i), trivial⟩ ?_
        exact ih (i + 1) (by omega)
  refine e_iconst (v := 0) aX0_firstOpen_0 (by decide) ?_
  refine e_istore_n aX0_firstOpen_1 (Nat.le_of_ble_eq_true rfl) ?_
  refine e_iconst (v := 0) aX0_firstOpen_2 (by decide) ?_
  refine e_istore_n aX0_firstOpen_3 (Nat.le_of_ble_eq_true rfl) ?_
  refine e_ls (ls' := [(0, some (vR (some 33))), (1, some (vI (nI (fo o 0)))), (2, some (vI (nI 0)))]) ⟨rfl, rfl, rfl, trivial⟩ ?_
  exact loop f 0 (by omega)
theorem zX0_openCount (X : EX) {h : HP} (F : Fx h) {f : Nat} {o : Nat → Nat} (b : BkF h f o) : Ct X mX0_openCount 0 0 0 [vR (some 33)] h (Rt (vI (nI (om f))) h) := by
  refine ct_of rfl (Nat.le_of_ble_eq_true rfl) ?_
  obtain ⟨b1, b2, b3, b4⟩ := b
  refine e_getsN (i := 0) aX0_openCount_0 rfl gX0_43 ?_
  refine e_aload_n aX0_openCount_3 rfl ?_
  refine e_getIF aX0_openCount_4 fX0_37 rfl (fx_is F rfl) b1 ?_
  refine e_ialoadS aX0_openCount_7 rfl (vin (N := 5) (by omega)) ?_
  refine e_top (st_left b2) ?_
  refine e_ireturn aX0_openCount_8 rfl (Nat.le_refl _) (Nat.le_refl _) ?_
  exact ⟨rfl, rfl⟩
theorem zX0_endOpen (X : EX) {h : HP} (F : Fx h) {f : Nat} {o : Nat → Nat} (b : BkF h f o) : Ct X mX0_endOpen 1 0 0 [vR (some 33)] h (Rt (vI (nI (fo o f + om f))) h) := by
  refine ct_of rfl (Nat.le_of_ble_eq_true rfl) ?_
  refine e_aload_n aX0_endOpen_0 rfl ?_
  refine e_invvT aX0_endOpen_1 kX0_46 (zX0_firstOpen X F b) rfl rfl (fx_is F rfl) (Nat.le_of_ble_eq_true rfl) (Nat.le_of_ble_eq_true rfl) (Nat.le_refl _) (Nat.le_refl _) (Nat.le_of_ble_eq_true rfl) ?_
  refine e_aload_n aX0_endOpen_4 rfl ?_
  refine e_invvT aX0_endOpen_5 kX0_50 (zX0_openCount X F b) rfl rfl (fx_is F rfl) (Nat.le_of_ble_eq_true rfl) (Nat.le_of_ble_eq_true rfl) (Nat.le_refl _) (Nat.le_refl _) (Nat.le_of_ble_eq_true rfl) ?_
  refine e_iadd aX0_endOpen_8 ?_
  refine e_top (nI_add _ _) ?_
  refine e_ireturn aX0_endOpen_9 rfl (Nat.le_refl _) (Nat.le_refl _) ?_
  exact ⟨rfl, rfl⟩
theorem zX0_isOpen (X : EX) {h : HP} (F : Fx h) {f : Nat} {o : Nat → Nat} (b : BkF h f o) (s : Int32) : Ct X mX0_isOpen 2 0 0 [vR (some 33), vI s] h (Rt (vI (b2 (nI (fo o f) ≤ s ∧ s < nI (fo o f + om f)))) h) := by
  refine ct_of rfl (Nat.le_of_ble_eq_true rfl) ?_
  refine e_iload_n aX0_isOpen_0 rfl ?_
  refine e_aload_n aX0_isOpen_1 rfl ?_
  refine e_invvT aX0_isOpen_2 kX0_46 (zX0_firstOpen X F b) rfl rfl (fx_is F rfl) (Nat.le_of_ble_eq_true rfl) (Nat.le_of_ble_eq_true rfl) (Nat.le_refl _) (Nat.le_refl _) (Nat.le_of_ble_eq_true rfl) ?_
  refine e_icmp_lt aX0_isOpen_5 (fun c5 => ?_) (fun c5 => ?_)
  · -- 5: taken
    refine e_iconst (v := 0) aX0_isOpen_20 (by decide) ?_
    refine e_zreturn aX0_isOpen_21 rfl (by decide) (Nat.le_refl _) (Nat.le_refl _) ?_
    exact ⟨by rw [b2_f (by first | grind | (simp only [b2_0] at *; grind))], rfl⟩
  · -- 5: not taken
    refine e_iload_n aX0_isOpen_8 rfl ?_
    refine e_aload_n aX0_isOpen_9 rfl ?_
    refine e_invvT aX0_isOpen_10 kX0_53 (zX0_endOpen X F b) rfl rfl (fx_is F rfl) (Nat.le_of_ble_eq_true rfl) (Nat.le_of_ble_eq_true rfl) (Nat.le_refl _) (Nat.le_refl _) (Nat.le_of_ble_eq_true rfl) ?_
    refine e_icmp_ge aX0_isOpen_13 (fun c13 => ?_) (fun c13 => ?_)
    · -- 13: taken
      refine e_iconst (v := 0) aX0_isOpen_20 (by decide) ?_
      refine e_zreturn aX0_isOpen_21 rfl (by decide) (Nat.le_refl _) (Nat.le_refl _) ?_
      exact ⟨by rw [b2_f (by first | grind | (simp only [b2_0] at *; grind))], rfl⟩
    · -- 13: not taken
      refine e_iconst (v := 1) aX0_isOpen_16 (by decide) ?_
      refine e_goto aX0_isOpen_17 ?_
      refine e_zreturn aX0_isOpen_21 rfl (by decide) (Nat.le_refl _) (Nat.le_refl _) ?_
      exact ⟨by rw [b2_t (by first | grind | (simp only [b2_0] at *; grind))], rfl⟩
theorem vin_of {k : Int32} {n N : Nat} (h : ¬ (k < 0 ∨ nI n ≤ k)) (hn : n ≤ N) (hN : N ≤ 1073741824 := by decide) : vp_in k N := by
  rcases pk_ix k (n := n) (by omega) with q | q | ⟨j, hj, rfl⟩
  · exact absurd (Or.inl q) h
  · exact absurd (Or.inr q) h
  · exact vin (by omega) hN
theorem zX0_dealAt (X : EX) {h : HP} (F : Fx h) {n : Nat} {A : Nat → Nat} {D : Nat → DD} (b : BkD h n A D) (k : Int32) : Ct X mX0_dealAt 1 0 0 [vR (some 33), vI k] h (Rt (vR (if k < 0 ∨ nI n ≤ k then none else hR h 34 k.toNatClampNeg)) h) := by
  refine ct_of rfl (Nat.le_of_ble_eq_true rfl) ?_
  obtain ⟨b1, b2, b3⟩ := b
  refine e_iload_n aX0_dealAt_0 rfl ?_
  refine e_aload_n aX0_dealAt_1 rfl ?_
  refine e_getIF aX0_dealAt_2 fX0_28 rfl (fx_is F rfl) b1 ?_
  refine e_invsNT aX0_dealAt_5 kX0_56 (zX8_isOutside X _ _) rfl rfl (Nat.le_of_ble_eq_true rfl) (Nat.le_of_ble_eq_true rfl) (Nat.le_refl _) (Nat.le_refl _) (Nat.le_of_ble_eq_true rfl) ?_
  refine e_if_eq aX0_dealAt_8 (fun c8 => ?_) (fun c8 => ?_)
  · -- 8: taken
    have q8 := b2_0.mp c8
    refine e_aload_n aX0_dealAt_15 rfl ?_
    refine e_getRF aX0_dealAt_16 fX0_11 rfl (fx_is F rfl) (fx_r (b := 34) F rfl) ?_
    refine e_iload_n aX0_dealAt_19 rfl ?_
    refine e_aaloadF (t := 17) aX0_dealAt_20 (fx_is F rfl) (by decide) (by decide) (fx_n (n := 12) F rfl) (vin_of q8 b2) rfl ?_
    refine e_areturn aX0_dealAt_21 rfl (Nat.le_refl _) (Nat.le_refl _) ?_
    first | exact ⟨by rw [if_pos q8], rfl⟩ | exact ⟨by rw [if_neg q8], rfl⟩
  · -- 8: not taken
    have q8 := Decidable.of_not_not (fun z => c8 (b2_0.mpr z))
    refine e_aconst_null aX0_dealAt_11 ?_
    refine e_goto aX0_dealAt_12 ?_
    refine e_areturn aX0_dealAt_21 rfl (Nat.le_refl _) (Nat.le_refl _) ?_
    first | exact ⟨by rw [if_pos q8], rfl⟩ | exact ⟨by rw [if_neg q8], rfl⟩
theorem zX0_dealAt_in (X : EX) {h : HP} (F : Fx h) {n : Nat} {A : Nat → Nat} {D : Nat → DD} (b : BkD h n A D) {k : Nat} (hk : k < n) : Ct X mX0_dealAt 1 0 0 [vR (some 33), vI (nI k)] h (Rt (vR (some (A k))) h) := by
  have h1 := zX0_dealAt X F b (nI k)
  have hn := b.2.1
  rw [if_neg (by
    intro z
    rcases z with z | z
    · exact nI_pos (by omega) z
    · exact nI_ge hk (by omega) z), cl (by omega), (b.2.2 k hk).1] at h1
  exact h1
theorem shl1 {c : Nat} (h : c < 3) : (1 : Int32) <<< (nI c &&& 31) = nI (2 ^ c) := by
  have : c = 0 ∨ c = 1 ∨ c = 2 := by omega
  rcases this with rfl | rfl | rfl <;> decide
theorem or_8 {a b : Nat} : nI a ||| nI b = nI (a ||| b) := by
  apply Int32.toBitVec_inj.mp
  rw [Int32.toBitVec_or]
  show BitVec.ofNat 32 a ||| BitVec.ofNat 32 b = BitVec.ofNat 32 (a ||| b)
  rw [BitVec.ofNat_or]
theorem shr8 : ∀ m, m < 8 → ∀ c, c < 3 → (nI m >>> (nI c &&& 31)) &&& 1 = if m.testBit c = true then 1 else 0 := by decide +kernel
theorem hm_bit {D : Nat → DD} {s p k : Nat} (w : ∀ j, j < k → dWf (D j)) : ∀ c, c < 3 → (nI (hm D s p k) >>> (nI c &&& 31)) &&& 1 = b2 (vs D s p k c = true) := by
  intro c hc
  rw [shr8 _ (hm_lt w) c hc, hm_vs]
  rfl
theorem zX0_clashOf (X : EX) {h : HP} (F : Fx h) {n : Nat} {A : Nat → Nat} {D : Nat → DD} (b : BkD h n A D) {s p g t : Nat} (hs : s < 1296) (hp : p < 12) (hg : g < 3) (ht : t < 3) : Ct X mX0_clashOf 3 0 0 [vR (some 33), vI (nI s), vI (nI p), vI (nI g), vI (nI t)] h (Rt (vI (oI (cls D n s p g t))) h) := by
  refine ct_of rfl (Nat.le_of_ble_eq_true rfl) ?_
  obtain ⟨b1, b2, b3⟩ := id b
  have hw : ∀ j, j < n → dWf (D j) := fun j hj => (b3 j hj).2.2.2.1
  have hol : ∀ k, k ≤ n → ow D s p k < 3 := fun k hk => ow_lt (fun j hj => hw j (by omega))
  have loop : ∀ (m : Nat) (i : Nat), i + m = n → Ev X mX0_clashOf 3 0 0 (Rt (vI (oI (cls D n s p g t))) h) 0 0 14 [(0, some (vR (some 33))), (1, some (vI (nI s))), (2, some (vI (nI p))), (3, some (vI (nI g))), (4, some (vI (nI t))), (5, some (vI (nI (ow D s p i)))), (6, some (vI (nI (hm D s p i)))), (7, some (vI (nI i)))] [] h := by
    intro m
    induction m with
    | zero =>
      intro i hi
      obtain rfl : n = i := by omega
      have hol9 := hol n (Nat.le_refl n)
      have hgb := hm_bit (D := D) (s := s) (p := p) (k := n) hw
      refine e_iload aX0_clashOf_14 rfl ?_
      refine e_aload_n aX0_clashOf_16 rfl ?_
      refine e_getIF aX0_clashOf_17 fX0_28 rfl (fx_is F rfl) b1 ?_
      refine e_icmp_ge aX0_clashOf_20 (fun c20 => ?_) (fun c20 => ?_)
      · -- 20: taken
        refine e_iload aX0_clashOf_73 rfl ?_
        refine e_iload_n aX0_clashOf_75 rfl ?_
        refine e_ishr aX0_clashOf_76 ?_
        refine e_iconst (v := 1) aX0_clashOf_77 (by decide) ?_
        refine e_iand aX0_clashOf_78 ?_
        refine e_top (hgb g hg) ?_
        refine e_if_ne aX0_clashOf_79 (fun c79 => ?_) (fun c79 => ?_)
        · -- 79: taken
          have q79 : vs D s p n g = true := Decidable.of_not_not (fun z => c79 (b2_0.mpr z))
          refine e_iload aX0_clashOf_84 rfl ?_
          refine e_iload_n aX0_clashOf_86 rfl ?_
          refine e_icmp_eq aX0_clashOf_87 (fun c87 => ?_) (fun c87 => ?_)
          · -- 87: taken
            have q87 := (nI_eq (by omega) (by omega)).mp c87
            refine e_iload aX0_clashOf_92 rfl ?_
            refine e_iload aX0_clashOf_94 rfl ?_
            refine e_ishr aX0_clashOf_96 ?_
            refine e_iconst (v := 1) aX0_clashOf_97 (by decide) ?_
            refine e_iand aX0_clashOf_98 ?_
            refine e_top (hgb t ht) ?_
            refine e_if_eq aX0_clashOf_99 (fun c99 => ?_) (fun c99 => ?_)
            · -- 99: taken
              have q99 : ¬ vs D s p n t = true := b2_0.mp c99
              refine e_iconst (v := -1) aX0_clashOf_106 (by decide) ?_
              refine e_ireturn aX0_clashOf_107 rfl (Nat.le_refl _) (Nat.le_refl _) ?_
              first | exact ⟨by unfold cls; rw [if_neg (by rw [q79]; decide), if_neg (by omega), if_pos q99]; rfl, rfl⟩ | exact ⟨by unfold cls; rw [if_neg (by rw [q79]; decide), if_neg (by omega), if_neg q99]; rfl, rfl⟩
            · -- 99: not taken
              have q99 : vs D s p n t = true := Decidable.of_not_not (fun z => c99 (b2_0.mpr z))
              refine e_iconst (v := 1) aX0_clashOf_102 (by decide) ?_
              refine e_goto aX0_clashOf_103 ?_
              refine e_ireturn aX0_clashOf_107 rfl (Nat.le_refl _) (Nat.le_refl _) ?_
              first | exact ⟨by unfold cls; rw [if_neg (by rw [q79]; decide), if_neg (by omega), if_pos q99]; rfl, rfl⟩ | exact ⟨by unfold cls; rw [if_neg (by rw [q79]; decide), if_neg (by omega), if_neg q99]; rfl, rfl⟩
          · -- 87: not taken
            have q87 := (not_congr (nI_eq (by omega) (by omega))).mp c87
            refine e_iconst (v := 0) aX0_clashOf_90 (by decide) ?_
            refine e_ireturn aX0_clashOf_91 rfl (Nat.le_refl _) (Nat.le_refl _) ?_
            exact ⟨by unfold cls; rw [if_neg (by rw [q79]; decide), if_pos q87]; rfl, rfl⟩
        · -- 79: not taken
          have q79 : ¬ vs D s p n g = true := b2_0.mp c79
          have q79 : vs D s p n g = false := by simpa using q79
          refine e_iconst (v := 2) aX0_clashOf_82 (by decide) ?_
          refine e_ireturn aX0_clashOf_83 rfl (Nat.le_refl _) (Nat.le_refl _) ?_
          exact ⟨by unfold cls; rw [if_pos q79]; rfl, rfl⟩
      · -- 20: not taken
        exact absurd (nI_le (by omega) (by omega)) c20
    | succ m ih =>
      intro i hi
      have bd := (b3 i (by omega)).2
      refine e_iload aX0_clashOf_14 rfl ?_
      refine e_aload_n aX0_clashOf_16 rfl ?_
      refine e_getIF aX0_clashOf_17 fX0_28 rfl (fx_is F rfl) b1 ?_
      refine e_icmp_ge aX0_clashOf_20 (fun c20 => ?_) (fun c20 => ?_)
      · -- 20: taken
        exact absurd c20 (nI_ge (by omega) (by omega))
      · -- 20: not taken
        refine e_aload_n aX0_clashOf_23 rfl ?_
        refine e_iload aX0_clashOf_24 rfl ?_
        refine e_invvT aX0_clashOf_26 kX0_60 (zX0_dealAt_in X F b (by omega)) rfl rfl (fx_is F rfl) (Nat.le_of_ble_eq_true rfl) (Nat.le_of_ble_eq_true rfl) (Nat.le_refl _) (Nat.le_refl _) (Nat.le_of_ble_eq_true rfl) ?_
        refine e_astore aX0_clashOf_29 (Nat.le_of_ble_eq_true rfl) ?_
        refine e_aload aX0_clashOf_31 rfl ?_
        refine e_ifnonnull aX0_clashOf_33 (fun r33 c33 => ?_) (fun c33 => ?_)
        · -- 33: taken
          obtain rfl := Option.some.inj c33
          refine e_aload aX0_clashOf_40 rfl ?_
          refine e_iload_n aX0_clashOf_42 rfl ?_
          refine e_iload_n aX0_clashOf_43 rfl ?_
          refine e_invvT aX0_clashOf_44 kX0_64 (zX1_takerOf X bd hs hp) rfl rfl bd.2.1 (Nat.le_of_ble_eq_true rfl) (Nat.le_of_ble_eq_true rfl) (Nat.le_refl _) (Nat.le_refl _) (Nat.le_of_ble_eq_true rfl) ?_
          refine e_istore aX0_clashOf_47 (Nat.le_of_ble_eq_true rfl) ?_
          refine e_iload aX0_clashOf_49 rfl ?_
          refine e_if_lt aX0_clashOf_51 (fun c51 => ?_) (fun c51 => ?_)
          · -- 51: taken
            have q51 := (oI_lt (fun q hq => by have := (tk_lt bd.2.2.1 hq).1; omega)).mp c51
            have hoW : ow D s p i = ow D s p (i + 1) := by
              conv => rhs; unfold ow
              rw [q51]
              rfl
            have hhM : nI (hm D s p i) = nI (hm D s p (i + 1)) := by
              conv => rhs; unfold hm
              rw [q51]
            refine e_iinc aX0_clashOf_67 rfl rfl (Nat.le_of_ble_eq_true rfl) ?_
            refine e_goto aX0_clashOf_70 ?_
            refine e_ls (ls' := [(0, some (vR (some 33))), (1, some (vI (nI s))), (2, some (vI (nI p))), (3, some (vI (nI g))), (4, some (vI (nI t))), (5, some (vI (nI (ow D s p (i + 1))))), (6, some (vI (nI (hm D s p (i + 1))))), (7, some (vI (nI (i + 1))))]) ⟨rfl, rfl, rfl, rfl, rfl, ?_, ?_, congrArg (fun x => some (vI x)) (nI_1 i), trivial⟩ ?_
            · exact congrArg (fun x => some (vI (nI x))) hoW
            · exact congrArg (fun x => some (vI x)) hhM
            exact ih (i + 1) (by omega)
          · -- 51: not taken
            have q51 := (not_congr (oI_lt (fun q hq => by have := (tk_lt bd.2.2.1 hq).1; omega))).mp c51
            obtain ⟨u, hu⟩ := Option.ne_none_iff_exists'.mp q51
            have hut := (tk_lt bd.2.2.1 hu).1
            have hoW : u = ow D s p (i + 1) := by
              conv => rhs; unfold ow
              rw [hu]
              rfl
            have hhM : nI (hm D s p i) ||| nI (2 ^ u) = nI (hm D s p (i + 1)) := by
              conv => rhs; unfold hm
              rw [hu]
              exact or_8
            rw [hu]
            refine e_iload aX0_clashOf_54 rfl ?_
            refine e_istore aX0_clashOf_56 (Nat.le_of_ble_eq_true rfl) ?_
            refine e_iload aX0_clashOf_58 rfl ?_
            refine e_iconst (v := 1) aX0_clashOf_60 (by decide) ?_
            refine e_iload aX0_clashOf_61 rfl ?_
            refine e_ishl aX0_clashOf_63 ?_
            refine e_top (shl1 hut) ?_
            refine e_ior aX0_clashOf_64 ?_
            refine e_istore aX0_clashOf_65 (Nat.le_of_ble_eq_true rfl) ?_
            refine e_iinc aX0_clashOf_67 rfl rfl (Nat.le_of_ble_eq_true rfl) ?_
            refine e_goto aX0_clashOf_70 ?_
            refine e_ls (ls' := [(0, some (vR (some 33))), (1, some (vI (nI s))), (2, some (vI (nI p))), (3, some (vI (nI g))), (4, some (vI (nI t))), (5, some (vI (nI (ow D s p (i + 1))))), (6, some (vI (nI (hm D s p (i + 1))))), (7, some (vI (nI (i + 1))))]) ⟨rfl, rfl, rfl, rfl, rfl, ?_, ?_, congrArg (fun x => some (vI x)) (nI_1 i), trivial⟩ ?_
            · exact congrArg (fun x => some (vI (nI x))) hoW
            · exact congrArg (fun x => some (vI x)) hhM
            exact ih (i + 1) (by omega)
        · -- 33: not taken
          exact absurd c33 (by simp)
  refine e_iload_n aX0_clashOf_0 rfl ?_
  refine e_iconst (v := 3) aX0_clashOf_1 (by decide) ?_
  refine e_irem aX0_clashOf_2 (by decide) ?_
  refine e_top (nI_rem (b := 3) (by omega) (by decide) (by decide)) ?_
  refine e_istore aX0_clashOf_3 (Nat.le_of_ble_eq_true rfl) ?_
  refine e_iconst (v := 1) aX0_clashOf_5 (by decide) ?_
  refine e_iload aX0_clashOf_6 rfl ?_
  refine e_ishl aX0_clashOf_8 ?_
  refine e_top (shl1 (Nat.mod_lt _ (by decide))) ?_
  refine e_istore aX0_clashOf_9 (Nat.le_of_ble_eq_true rfl) ?_
  refine e_iconst (v := 0) aX0_clashOf_11 (by decide) ?_
  refine e_istore aX0_clashOf_12 (Nat.le_of_ble_eq_true rfl) ?_
  refine e_ls (ls' := [(0, some (vR (some 33))), (1, some (vI (nI s))), (2, some (vI (nI p))), (3, some (vI (nI g))), (4, some (vI (nI t))), (5, some (vI (nI (ow D s p 0)))), (6, some (vI (nI (hm D s p 0)))), (7, some (vI (nI 0)))]) ⟨rfl, rfl, rfl, rfl, rfl, rfl, rfl, rfl, trivial⟩ ?_
  exact loop n 0 (by omega)
end
section
/-! the rows of Owners: two bits a PICK -/
def btI (x : Int32) (i : Nat) : Bool := x.toBitVec.getLsbD i
theorem sm32 : ∀ j, j < 32 → ((nI j &&& 31).toBitVec.smod 32).toNat = j := by decide +kernel
theorem btI_ext {x y : Int32} (h : ∀ i, i < 32 → btI x i = btI y i) : x = y := Int32.toBitVec_inj.mp (BitVec.eq_of_getLsbD_eq (fun i hi => h i hi))
theorem btI_or {x y : Int32} {i : Nat} : btI (x ||| y) i = (btI x i || btI y i) := by unfold btI; rw [Int32.toBitVec_or, BitVec.getLsbD_or]
theorem btI_and {x y : Int32} {i : Nat} : btI (x &&& y) i = (btI x i && btI y i) := by unfold btI; rw [Int32.toBitVec_and, BitVec.getLsbD_and]
theorem btI_xor {x y : Int32} {i : Nat} : btI (x ^^^ y) i = (btI x i ^^ btI y i) := by unfold btI; rw [Int32.toBitVec_xor, BitVec.getLsbD_xor]
theorem btI_shl {x : Int32} {j i : Nat} (hj : j < 32) (hi : i < 32) : btI (x <<< (nI j &&& 31)) i = (decide (j ≤ i) && btI x (i - j)) := by
  unfold btI
  rw [Int32.toBitVec_shiftLeft]
  show (x.toBitVec <<< ((nI j &&& 31).toBitVec.smod 32)).getLsbD i = _
  rw [BitVec.shiftLeft_eq', sm32 j hj, BitVec.getLsbD_shiftLeft]
  by_cases h : j ≤ i
  · simp [h, hi, Nat.not_lt.mpr h]
  · simp [h, Nat.lt_of_not_le h]
theorem btI_shr {x : Int32} {j i : Nat} (hj : j < 32) (hi : j + i < 32) : btI (x >>> (nI j &&& 31)) i = btI x (j + i) := by
  unfold btI
  rw [Int32.toBitVec_shiftRight]
  unfold BitVec.sshiftRight'
  rw [sm32 j hj, BitVec.getLsbD_sshiftRight]
  have : i < 32 := by omega
  simp [this, hi]
theorem btI_nI {n i : Nat} (hi : i < 32) : btI (nI n) i = n.testBit i := by
  unfold btI
  show (BitVec.ofNat 32 n).getLsbD i = _
  rw [BitVec.getLsbD_ofNat]
  simp [hi]
theorem btI_m1 : ∀ i, i < 32 → btI (-1) i = true := by decide +kernel
/-- the two bits of PICK p -/
def dgt (x : Int32) (p : Nat) : Int32 := (x >>> (nI (2 * p) &&& 31)) &&& 3
theorem dgt_bits {x y : Int32} {p q : Nat} (hp : p < 12) (hq : q < 12) (h0 : btI x (2 * p) = btI y (2 * q)) (h1 : btI x (2 * p + 1) = btI y (2 * q + 1)) : dgt x p = dgt y q := by
  unfold dgt
  apply btI_ext
  intro i hi
  rw [btI_and, btI_and]
  have h3 : btI 3 i = decide (i < 2) := by
    have key : ∀ i, i < 32 → btI 3 i = decide (i < 2) := by decide +kernel
    exact key i hi
  rw [h3]
  by_cases hi2 : i < 2
  · rw [btI_shr (by omega) (by omega), btI_shr (by omega) (by omega)]
    have : i = 0 ∨ i = 1 := by omega
    rcases this with rfl | rfl
    · rw [Nat.add_zero, Nat.add_zero, h0]
    · rw [h1]
  · simp [hi2]
/-- what give leaves of a row -/
def gvr (x : Int32) (q c : Nat) : Int32 := (x &&& (((3 : Int32) <<< (nI (2 * q) &&& 31)) ^^^ (-1))) ||| (nI c <<< (nI (2 * q) &&& 31))
theorem gvr_bit {x : Int32} {q c i : Nat} (hq : q < 12) (hc : c < 3) (hi : i < 24) : btI (gvr x q c) i = if i / 2 = q then c.testBit (i - 2 * q) else btI x i := by
  unfold gvr
  rw [btI_or, btI_and, btI_xor, btI_shl (by omega) (by omega), btI_shl (by omega) (by omega), btI_m1 i (by omega), btI_nI (by omega)]
  have h3 : ∀ j, j < 32 → btI 3 j = decide (j < 2) := by decide +kernel
  rw [h3 _ (by omega)]
  by_cases h : i / 2 = q
  · rw [if_pos h]
    have e1 : decide (2 * q ≤ i) = true := decide_eq_true (by omega)
    have e2 : decide (i - 2 * q < 2) = true := decide_eq_true (by omega)
    rw [e1, e2]
    simp
  · rw [if_neg h]
    by_cases h2 : 2 * q ≤ i
    · have e1 : decide (2 * q ≤ i) = true := decide_eq_true h2
      have e2 : decide (i - 2 * q < 2) = false := decide_eq_false (by omega)
      have e3 : c.testBit (i - 2 * q) = false := Nat.testBit_lt_two_pow (Nat.lt_of_lt_of_le (show c < 2 ^ 2 by omega) (Nat.pow_le_pow_right (by decide) (by omega)))
      rw [e1, e2, e3]
      simp
    · have e1 : decide (2 * q ≤ i) = false := decide_eq_false h2
      rw [e1]
      simp
theorem dgt_give {x : Int32} {q c p : Nat} (hq : q < 12) (hc : c < 3) (hp : p < 12) : dgt (gvr x q c) p = if p = q then nI c else dgt x p := by
  by_cases h : p = q
  · subst h
    rw [if_pos rfl]
    have e : dgt (gvr x p c) p = dgt (nI c) 0 := dgt_bits hp (by decide) (by
      rw [gvr_bit hp hc (by omega), if_pos (by omega), btI_nI (by omega)]; congr 1; omega) (by
      rw [gvr_bit hp hc (by omega), if_pos (by omega), btI_nI (by omega)]; congr 1; omega)
    rw [e]
    have key : ∀ c, c < 3 → dgt (nI c) 0 = nI c := by decide +kernel
    exact key c hc
  · rw [if_neg h]
    exact dgt_bits hp hp (by rw [gvr_bit hq hc (by omega), if_neg (by omega)]) (by rw [gvr_bit hq hc (by omega), if_neg (by omega)])
theorem dgt_start : ∀ p, p < 12 → dgt 9586980 p = nI (p % 3) := by decide +kernel
/-- a row holds OWNERS -/
def RowC (h : HP) (s : Nat) (g : Nat → Nat) : Prop := ∀ p, p < 12 → dgt (hI h 39 s) p = nI (g p)
end
section
/-! contracts: Owners (written by wip/p45/g19.py) -/
/-- other rows of Owners -/
def rwR (h : HP) (r : Nat → Int32) : HP := (fun a i => if a = 39 then r i else h.1 a i, h.2)
theorem rwR_I {h : HP} {r : Nat → Int32} {a i : Nat} (ha : a ≠ 39) : hI (rwR h r) a i = hI h a i := if_neg ha
theorem rwR_39 {h : HP} {r : Nat → Int32} {i : Nat} : hI (rwR h r) 39 i = r i := by unfold rwR; simp [hI]
theorem rwR_w {h : HP} {r r' : Nat → Int32} {j : Nat} {v : Int32} (e : ∀ i, r' i = if i = j then v else r i) : wI (rwR h r) 39 j v = rwR h r' := by
  unfold wI rwR
  congr 1
  funext a i
  unfold up2
  by_cases ha : a = 39
  · subst ha
    by_cases hi : i = j
    · subst hi; simp [e]
    · simp [hi, e]
  · simp [ha]
theorem rwR_0 {h : HP} {r : Nat → Int32} (e : ∀ i, r i = hI h 39 i) : h = rwR h r := by
  unfold rwR
  show (h.1, h.2) = _
  congr 1
  funext a i
  by_cases ha : a = 39
  · subst ha; rw [if_pos rfl, e]
  · rw [if_neg ha]
theorem Up.rw {h : HP} {r : Nat → Int32} : Up h (rwR h r) := ⟨Nat.le_refl _, fun a ha _ => ⟨fun j => ⟨if_neg (by omega), rfl, rfl⟩, rfl, rfl⟩⟩
/-- what a deal that comes leaves of a row -/
def stl (d : DD) (s : Nat) (x : Int32) : Int32 := match gv d s with
  | none => x
  | some g => match dO d with
    | none => gvr x g (dT d)
    | some b => gvr (gvr x g (dT d)) b (dF d)
/-- a run of rows -/
def rng (f e : Nat) (g : Nat → Int32 → Int32) (r : Nat → Int32) : Nat → Int32 := fun i => if f ≤ i ∧ i < e then g i (r i) else r i
theorem rng_s {f j : Nat} (hf : f ≤ j) (g : Nat → Int32 → Int32) (r : Nat → Int32) : ∀ i, rng f (j + 1) g r i = if i = j then g j (rng f j g r j) else rng f j g r i := by
  intro i
  unfold rng
  by_cases hi : i = j
  · subst hi
    rw [if_pos ⟨hf, by omega⟩, if_pos rfl, if_neg (by omega)]
  · rw [if_neg hi]
    by_cases h1 : f ≤ i ∧ i < j
    · rw [if_pos h1, if_pos ⟨h1.1, by omega⟩]
    · rw [if_neg h1, if_neg (by omega)]
theorem rng_0 (f : Nat) (g : Nat → Int32 → Int32) (r : Nat → Int32) : ∀ i, rng f f g r i = r i := fun i => if_neg (by omega)
theorem stl_dgt {d : DD} (w : dWf d) {s p : Nat} {x : Int32} (hp : p < 12) : dgt (stl d s x) p = match tk d s p with
  | some t => nI t
  | none => dgt x p := by
  unfold stl
  cases hg : gv d s with
  | none =>
    have : tk d s p = none := by
      unfold tk
      rw [hg]
      split <;> rfl
    rw [this]
  | some g =>
    have hgo := gv_ok w hg
    cases ho : dO d with
    | none =>
      have e : tk d s p = if g = p then some (dT d) else none := by
        unfold tk
        rw [ho, hg, if_neg (by simp)]
        by_cases h9 : g = p
        · rw [if_pos (by rw [h9]), if_pos h9]
        · rw [if_neg (fun z => h9 (Option.some.inj z)), if_neg h9]
      rw [e]
      dsimp only
      rw [dgt_give hgo.1 w.2.2.1 hp]
      by_cases h9 : g = p
      · rw [if_pos h9.symm, if_pos h9]
      · rw [if_neg (fun z => h9 z.symm), if_neg h9]
    | some b =>
      have hb := w.2.2.2.2.2.2.1 b ho
      have hgb : g ≠ b := by
        rcases hgo.2 with e | ⟨e, -⟩
        · rw [e]; exact fun z => hb.2.1 z.symm
        · have := w.2.2.2.2.2.1.mpr (by rw [ho]; rfl)
          omega
      dsimp only
      rw [dgt_give hb.1 w.2.1 hp, dgt_give hgo.1 w.2.2.1 hp]
      unfold tk
      rw [ho, hg]
      by_cases h9 : b = p
      · subst h9
        rw [if_pos rfl, if_pos rfl]
        rfl
      · rw [if_neg (fun z => h9 z.symm), if_neg (fun z => h9 (Option.some.inj z))]
        by_cases h8 : g = p
        · rw [if_pos h8.symm, if_pos (by rw [h8])]
        · rw [if_neg (fun z => h8 z.symm), if_neg (fun z => h8 (Option.some.inj z))]
theorem zX2_at (X : EX) {h : HP} (F : Fx h) {s p : Nat} (hs : s < 1296) (hp : p < 12) : Ct X mX2_at 0 0 0 [vR (some 38), vI (nI s), vI (nI p)] h (Rt (vI (dgt (hI h 39 s) p)) h) := by
  refine ct_of rfl (Nat.le_of_ble_eq_true rfl) ?_
  refine e_aload_n aX2_at_0 rfl ?_
  refine e_getRF aX2_at_1 fX2_9 rfl (fx_is F rfl) (fx_r (b := 39) F rfl) ?_
  refine e_iload_n aX2_at_4 rfl ?_
  refine e_ialoadF (x := hI h 39 s) aX2_at_5 (fx_is F rfl) (fx_n (n := 1296) F rfl) (vin (N := 1296) (by omega)) (by rw [cl (by omega)]) ?_
  refine e_iconst (v := 2) aX2_at_6 (by decide) ?_
  refine e_iload_n aX2_at_7 rfl ?_
  refine e_imul aX2_at_8 ?_
  refine e_top (nI_mul 2 _) ?_
  refine e_ishr aX2_at_9 ?_
  refine e_iconst (v := 3) aX2_at_10 (by decide) ?_
  refine e_iand aX2_at_11 ?_
  refine e_ireturn aX2_at_12 rfl (Nat.le_refl _) (Nat.le_refl _) ?_
  exact ⟨rfl, rfl⟩
theorem zX2_give (X : EX) {h : HP} (F : Fx h) {s p cz : Nat} (hs : s < 1296) (hp : p < 12) (hc : cz < 3) : Ct X mX2_give 0 0 0 [vR (some 38), vI (nI s), vI (nI p), vI (nI cz)] h (Rv (wI h 39 s (gvr (hI h 39 s) p cz))) := by
  refine ct_of rfl (Nat.le_of_ble_eq_true rfl) ?_
  refine e_aload_n aX2_give_0 rfl ?_
  refine e_getRF aX2_give_1 fX2_9 rfl (fx_is F rfl) (fx_r (b := 39) F rfl) ?_
  refine e_iload_n aX2_give_4 rfl ?_
  refine e_aload_n aX2_give_5 rfl ?_
  refine e_getRF aX2_give_6 fX2_9 rfl (fx_is F rfl) (fx_r (b := 39) F rfl) ?_
  refine e_iload_n aX2_give_9 rfl ?_
  refine e_ialoadF (x := hI h 39 s) aX2_give_10 (fx_is F rfl) (fx_n (n := 1296) F rfl) (vin (N := 1296) (by omega)) (by rw [cl (by omega)]) ?_
  refine e_iconst (v := 3) aX2_give_11 (by decide) ?_
  refine e_iconst (v := 2) aX2_give_12 (by decide) ?_
  refine e_iload_n aX2_give_13 rfl ?_
  refine e_imul aX2_give_14 ?_
  refine e_top (nI_mul 2 _) ?_
  refine e_ishl aX2_give_15 ?_
  refine e_iconst (v := -1) aX2_give_16 (by decide) ?_
  refine e_ixor aX2_give_17 ?_
  refine e_iand aX2_give_18 ?_
  refine e_iload_n aX2_give_19 rfl ?_
  refine e_iconst (v := 2) aX2_give_20 (by decide) ?_
  refine e_iload_n aX2_give_21 rfl ?_
  refine e_imul aX2_give_22 ?_
  refine e_top (nI_mul 2 _) ?_
  refine e_ishl aX2_give_23 ?_
  refine e_ior aX2_give_24 ?_
  refine e_iastoreF aX2_give_25 (fx_is F rfl) (fx_n (n := 1296) F rfl) (vin (N := 1296) (by omega)) ?_
  rw [cl (by omega)]
  refine e_return aX2_give_26 rfl (Nat.le_refl _) (Nat.le_refl _) ?_
  exact ⟨rfl, rfl⟩
theorem zX2_startAll (X : EX) {h : HP} (F : Fx h) {fz ez : Nat} (hf : fz ≤ ez) (he : ez ≤ 1296) : Ct X mX2_startAll 0 0 0 [vR (some 38), vI (nI fz), vI (nI ez)] h (Rv (rwR h (rng fz ez (fun _ _ => 9586980) (hI h 39)))) := by
  refine ct_of rfl (Nat.le_of_ble_eq_true rfl) ?_
  have loop : ∀ (m : Nat) (j : Nat), j + m = ez → fz ≤ j → Ev X mX2_startAll 0 0 0 (Rv (rwR h (rng fz ez (fun _ _ => 9586980) (hI h 39)))) 0 0 2 [(0, some (vR (some 38))), (1, some (vI (nI fz))), (2, some (vI (nI ez))), (3, some (vI (nI j)))] [] (rwR h (rng fz j (fun _ _ => 9586980) (hI h 39))) := by
    intro m
    induction m with
    | zero =>
      intro j hj hfj
      obtain rfl : ez = j := by omega
      refine e_iload_n aX2_startAll_2 rfl ?_
      refine e_iload_n aX2_startAll_3 rfl ?_
      refine e_icmp_ge aX2_startAll_4 (fun c4 => ?_) (fun c4 => ?_)
      · -- 4: taken
        refine e_return aX2_startAll_21 rfl (Nat.le_refl _) (Nat.le_refl _) ?_
        exact ⟨rfl, rfl⟩
      · -- 4: not taken
        exact absurd (nI_le (by omega) (by omega)) c4
    | succ m ih =>
      intro j hj hfj
      refine e_iload_n aX2_startAll_2 rfl ?_
      refine e_iload_n aX2_startAll_3 rfl ?_
      refine e_icmp_ge aX2_startAll_4 (fun c4 => ?_) (fun c4 => ?_)
      · -- 4: taken
        exact absurd c4 (nI_ge (by omega) (by omega))
      · -- 4: not taken
        refine e_aload_n aX2_startAll_7 rfl ?_
        refine e_getRF aX2_startAll_8 fX2_9 rfl (fx_is F rfl) (fx_r (b := 39) F rfl) ?_
        refine e_iload_n aX2_startAll_11 rfl ?_
        refine e_ldc aX2_startAll_12 lX2_15 ?_
        refine e_iastoreF aX2_startAll_14 (fx_is F rfl) (fx_n (n := 1296) F rfl) (vin (N := 1296) (by omega)) ?_
        rw [cl (by omega)]
        refine e_hp (h2 := (rwR h (rng fz (j + 1) (fun _ _ => 9586980) (hI h 39)))) (rwR_w (rng_s (by omega) _ _)) ?_
        refine e_iinc aX2_startAll_15 rfl rfl (Nat.le_of_ble_eq_true rfl) ?_
        refine e_goto aX2_startAll_18 ?_
        refine e_ls (ls' := [(0, some (vR (some 38))), (1, some (vI (nI fz))), (2, some (vI (nI ez))), (3, some (vI (nI (j + 1))))]) ⟨rfl, rfl, rfl, congrArg (fun x => some (vI x)) (nI_1 j), trivial⟩ ?_
        exact ih (j + 1) (by omega) (by omega)
  refine e_iload_n aX2_startAll_0 rfl ?_
  refine e_istore_n aX2_startAll_1 (Nat.le_of_ble_eq_true rfl) ?_
  refine e_ls (ls' := [(0, some (vR (some 38))), (1, some (vI (nI fz))), (2, some (vI (nI ez))), (3, some (vI (nI fz)))]) ⟨rfl, rfl, rfl, rfl, trivial⟩ ?_
  refine e_hp (h2 := (rwR h (rng fz fz (fun _ _ => 9586980) (hI h 39)))) (rwR_0 (rng_0 _ _ _)) ?_
  exact loop (ez - fz) fz (by omega) (Nat.le_refl _)
theorem zX2_settle (X : EX) {h : HP} (F : Fx h) {a : Nat} {d : DD} (k : DealC h a d) {fz ez : Nat} (hf : fz ≤ ez) (he : ez ≤ 1296) : Ct X mX2_settle 2 0 0 [vR (some 38), vR (some a), vI (nI fz), vI (nI ez)] h (Rv (rwR h (rng fz ez (stl d) (hI h 39)))) := by
  refine ct_of rfl (Nat.le_of_ble_eq_true rfl) ?_
  have w := k.2.2.1
  have loop : ∀ (m : Nat) (j : Nat), j + m = ez → fz ≤ j → Ev X mX2_settle 2 0 0 (Rv (rwR h (rng fz ez (stl d) (hI h 39)))) 0 0 8 [(0, some (vR (some 38))), (1, some (vR (some a))), (2, some (vI (nI fz))), (3, some (vI (nI ez))), (4, some (vI (nI j)))] [] (rwR h (rng fz j (stl d) (hI h 39))) := by
    intro m
    induction m with
    | zero =>
      intro j hj hfj
      obtain rfl : ez = j := by omega
      refine e_iload aX2_settle_8 rfl ?_
      refine e_iload_n aX2_settle_10 rfl ?_
      refine e_icmp_ge aX2_settle_11 (fun c11 => ?_) (fun c11 => ?_)
      · -- 11: taken
        refine e_return aX2_settle_66 rfl (Nat.le_refl _) (Nat.le_refl _) ?_
        exact ⟨rfl, rfl⟩
      · -- 11: not taken
        exact absurd (nI_le (by omega) (by omega)) c11
    | succ m ih =>
      intro j hj hfj
      have kd : DealC (rwR h (rng fz j (stl d) (hI h 39))) a d := k.up Up.rw
      refine e_iload aX2_settle_8 rfl ?_
      refine e_iload_n aX2_settle_10 rfl ?_
      refine e_icmp_ge aX2_settle_11 (fun c11 => ?_) (fun c11 => ?_)
      · -- 11: taken
        exact absurd c11 (nI_ge (by omega) (by omega))
      · -- 11: not taken
        refine e_aload_n aX2_settle_14 rfl ?_
        refine e_iload aX2_settle_15 rfl ?_
        refine e_invvT aX2_settle_17 kX2_16 (zX1_gives X kd (by omega)) rfl rfl kd.2.1 (Nat.le_of_ble_eq_true rfl) (Nat.le_of_ble_eq_true rfl) (Nat.le_refl _) (Nat.le_refl _) (Nat.le_of_ble_eq_true rfl) ?_
        refine e_istore aX2_settle_20 (Nat.le_of_ble_eq_true rfl) ?_
        refine e_iload aX2_settle_22 rfl ?_
        refine e_if_lt aX2_settle_24 (fun c24 => ?_) (fun c24 => ?_)
        · -- 24: taken
          have q24 := (oI_lt (gv_b w)).mp c24
          have hfin : (rwR h (rng fz j (stl d) (hI h 39))) = (rwR h (rng fz (j + 1) (stl d) (hI h 39))) := by
            congr 1
            funext i
            rw [rng_s (by omega)]
            by_cases hi9 : i = j
            · subst hi9
              rw [if_pos rfl]
              unfold stl
              rw [q24]
            · rw [if_neg hi9]
          refine e_iinc aX2_settle_60 rfl rfl (Nat.le_of_ble_eq_true rfl) ?_
          refine e_goto aX2_settle_63 ?_
          refine e_hp (h2 := (rwR h (rng fz (j + 1) (stl d) (hI h 39)))) hfin ?_
          refine e_ls (ls' := [(0, some (vR (some 38))), (1, some (vR (some a))), (2, some (vI (nI fz))), (3, some (vI (nI ez))), (4, some (vI (nI (j + 1))))]) ⟨rfl, rfl, rfl, rfl, congrArg (fun x => some (vI x)) (nI_1 j), trivial⟩ ?_
          exact ih (j + 1) (by omega) (by omega)
        · -- 24: not taken
          have q24 := (not_congr (oI_lt (gv_b w))).mp c24
          obtain ⟨g, hg⟩ := Option.ne_none_iff_exists'.mp q24
          rw [hg]
          have hgl := (gv_ok w hg).1
          refine e_aload_n aX2_settle_27 rfl ?_
          refine e_iload aX2_settle_28 rfl ?_
          refine e_iload aX2_settle_30 rfl ?_
          refine e_aload_n aX2_settle_32 rfl ?_
          refine e_getIF aX2_settle_33 fX2_22 rfl kd.2.1 kd.2.2.2.2.2.1 ?_
          refine e_invvV aX2_settle_36 kX2_26 (zX2_give X (h := (rwR h (rng fz j (stl d) (hI h 39)))) F (by omega) hgl w.2.2.1) rfl rfl (fx_is F rfl) (Nat.le_of_ble_eq_true rfl) (Nat.le_of_ble_eq_true rfl) (Nat.le_refl _) (Nat.le_refl _) (Nat.le_of_ble_eq_true rfl) ?_
          have kd2 := DealC.up (Up.wI (h := (rwR h (rng fz j (stl d) (hI h 39)))) (b := 39) (i := j) (v := gvr (hI (rwR h (rng fz j (stl d) (hI h 39))) 39 j) g (dT d)) (by decide)) kd
          refine e_aload_n aX2_settle_39 rfl ?_
          refine e_getIF aX2_settle_40 fX2_30 rfl kd2.2.1 kd2.2.2.2.2.2.2.2.1 ?_
          refine e_if_lt aX2_settle_43 (fun c43 => ?_) (fun c43 => ?_)
          · -- 43: taken
            have q43 := (oI_lt (dO_b w)).mp c43
            have hfin : wI (rwR h (rng fz j (stl d) (hI h 39))) 39 j (gvr (hI (rwR h (rng fz j (stl d) (hI h 39))) 39 j) g (dT d)) = (rwR h (rng fz (j + 1) (stl d) (hI h 39))) := by
              refine rwR_w (fun i => ?_)
              rw [rng_s (by omega)]
              by_cases hi9 : i = j
              · subst hi9
                rw [if_pos rfl, if_pos rfl, rwR_39]
                unfold stl
                rw [hg, q43]
              · rw [if_neg hi9, if_neg hi9]
            refine e_iinc aX2_settle_60 rfl rfl (Nat.le_of_ble_eq_true rfl) ?_
            refine e_goto aX2_settle_63 ?_
            refine e_hp (h2 := (rwR h (rng fz (j + 1) (stl d) (hI h 39)))) hfin ?_
            refine e_ls (ls' := [(0, some (vR (some 38))), (1, some (vR (some a))), (2, some (vI (nI fz))), (3, some (vI (nI ez))), (4, some (vI (nI (j + 1))))]) ⟨rfl, rfl, rfl, rfl, congrArg (fun x => some (vI x)) (nI_1 j), trivial⟩ ?_
            exact ih (j + 1) (by omega) (by omega)
          · -- 43: not taken
            have q43 := (not_congr (oI_lt (dO_b w))).mp c43
            obtain ⟨b, hb⟩ := Option.ne_none_iff_exists'.mp q43
            have hbl := (w.2.2.2.2.2.2.1 b hb).1
            refine e_aload_n aX2_settle_46 rfl ?_
            refine e_iload aX2_settle_47 rfl ?_
            refine e_aload_n aX2_settle_49 rfl ?_
            refine e_getIF aX2_settle_50 fX2_30 rfl kd2.2.1 (kd2.2.2.2.2.2.2.2.1.trans (congrArg oI hb)) ?_
            refine e_aload_n aX2_settle_53 rfl ?_
            refine e_getIF aX2_settle_54 fX2_33 rfl kd2.2.1 kd2.2.2.2.2.1 ?_
            refine e_invvV aX2_settle_57 kX2_26 (zX2_give X (h := wI (rwR h (rng fz j (stl d) (hI h 39))) 39 j (gvr (hI (rwR h (rng fz j (stl d) (hI h 39))) 39 j) g (dT d))) F (by omega) hbl w.2.1) rfl rfl (fx_is F rfl) (Nat.le_of_ble_eq_true rfl) (Nat.le_of_ble_eq_true rfl) (Nat.le_refl _) (Nat.le_refl _) (Nat.le_of_ble_eq_true rfl) ?_
            have hfin : wI (wI (rwR h (rng fz j (stl d) (hI h 39))) 39 j (gvr (hI (rwR h (rng fz j (stl d) (hI h 39))) 39 j) g (dT d))) 39 j (gvr (hI (wI (rwR h (rng fz j (stl d) (hI h 39))) 39 j (gvr (hI (rwR h (rng fz j (stl d) (hI h 39))) 39 j) g (dT d))) 39 j) b (dF d)) = (rwR h (rng fz (j + 1) (stl d) (hI h 39))) := by
              have e1 : wI (rwR h (rng fz j (stl d) (hI h 39))) 39 j (gvr (hI (rwR h (rng fz j (stl d) (hI h 39))) 39 j) g (dT d)) = rwR h (fun i => if i = j then gvr (hI (rwR h (rng fz j (stl d) (hI h 39))) 39 j) g (dT d) else rng fz j (stl d) (hI h 39) i) := rwR_w (fun _ => rfl)
              rw [e1]
              refine rwR_w (fun i => ?_)
              rw [rng_s (by omega)]
              by_cases hi9 : i = j
              · subst hi9
                rw [if_pos rfl, if_pos rfl, rwR_39, if_pos rfl, rwR_39]
                unfold stl
                rw [hg, hb]
              · rw [if_neg hi9, if_neg hi9, if_neg hi9]
            refine e_iinc aX2_settle_60 rfl rfl (Nat.le_of_ble_eq_true rfl) ?_
            refine e_goto aX2_settle_63 ?_
            refine e_hp (h2 := (rwR h (rng fz (j + 1) (stl d) (hI h 39)))) hfin ?_
            refine e_ls (ls' := [(0, some (vR (some 38))), (1, some (vR (some a))), (2, some (vI (nI fz))), (3, some (vI (nI ez))), (4, some (vI (nI (j + 1))))]) ⟨rfl, rfl, rfl, rfl, congrArg (fun x => some (vI x)) (nI_1 j), trivial⟩ ?_
            exact ih (j + 1) (by omega) (by omega)
  refine e_aload_n aX2_settle_0 rfl ?_
  refine e_ifnonnull aX2_settle_1 (fun r1 c1 => ?_) (fun c1 => ?_)
  · -- 1: taken
    refine e_iload_n aX2_settle_5 rfl ?_
    refine e_istore aX2_settle_6 (Nat.le_of_ble_eq_true rfl) ?_
    refine e_ls (ls' := [(0, some (vR (some 38))), (1, some (vR (some a))), (2, some (vI (nI fz))), (3, some (vI (nI ez))), (4, some (vI (nI fz)))]) ⟨rfl, rfl, rfl, rfl, rfl, trivial⟩ ?_
    refine e_hp (h2 := (rwR h (rng fz fz (stl d) (hI h 39)))) (rwR_0 (rng_0 _ _ _)) ?_
    exact loop (ez - fz) fz (by omega) (Nat.le_refl _)
  · -- 1: not taken
    exact absurd c1 (by simp)
end
section
/-! contracts: settleAll, clashesUnder, takes, enter (written by wip/p45/g20.py) -/
/-- how one more deal would CLASH under a STANDING: the PICK and the kind -/
def ncl (D : Nat → DD) (n : Nat) (d : DD) (s : Nat) : Option (Nat × Nat) := match gv d s with
  | none => none
  | some g => match cls D n s g (dF d) (dT d), (gb d s).bind (fun b => (cls D n s b (dT d) (dF d)).map (fun w => (b, w))) with
    | none, none => none
    | some w, none => some (g, w)
    | none, some q => some q
    | some w, some q => if g < q.1 then some (g, w) else some q
/-- THE CLASH is told -/
def tl (h : HP) (s p w : Nat) : HP := wI (wI (wI h 75 0 (nI s)) 75 1 (nI p)) 75 2 (nI w)
theorem cls_b {D : Nat → DD} {n s p g t : Nat} : ∀ w, cls D n s p g t = some w → w < 1073741824 := by
  intro w h
  unfold cls at h
  split at h
  · cases h; decide
  · split at h
    · cases h; decide
    · split at h
      · cases h; decide
      · cases h
theorem BkF.up {h h' : HP} {f : Nat} {o : Nat → Nat} (b : BkF h f o) (e1 : ∀ i, hI h' 33 i = hI h 33 i) (e2 : ∀ i, hI h' 35 i = hI h 35 i) : BkF h' f o := ⟨(e1 3).trans b.1, b.2.1, fun y hy => (e2 y).trans (b.2.2.1 y hy), b.2.2.2⟩
theorem BkD.up {h h' : HP} {n : Nat} {A : Nat → Nat} {D : Nat → DD} (b : BkD h n A D) (u : Up h h') (e1 : hI h' 33 1 = hI h 33 1) (e2 : ∀ i, hR h' 34 i = hR h 34 i) : BkD h' n A D := ⟨e1.trans b.1, b.2.1, fun k hk => ⟨(e2 k).trans (b.2.2 k hk).1, (b.2.2 k hk).2.up u⟩⟩
theorem BkF.rw {h : HP} {f : Nat} {o : Nat → Nat} {r : Nat → Int32} (b : BkF h f o) : BkF (rwR h r) f o := b.up (fun _ => rwR_I (by decide)) (fun _ => rwR_I (by decide))
theorem BkD.rw {h : HP} {n : Nat} {A : Nat → Nat} {D : Nat → DD} {r : Nat → Int32} (b : BkD h n A D) : BkD (rwR h r) n A D := b.up Up.rw (rwR_I (by decide)) (fun _ => rfl)
/-- rows of the OPEN STANDINGS hold OWNERS -/
def Own (h : HP) (f : Nat) (o : Nat → Nat) (n : Nat) (D : Nat → DD) : Prop := ∀ s, fo o f ≤ s → s < fo o f + om f → RowC h s (fun p => ow D s p n)
theorem own_step {d : DD} (w : dWf d) {D : Nat → DD} {n s p : Nat} {x : Int32} (hp : p < 12) (e : D n = d) (hx : dgt x p = nI (ow D s p n)) : dgt (stl d s x) p = nI (ow D s p (n + 1)) := by
  rw [stl_dgt w hp]
  conv => rhs; unfold ow
  rw [e]
  cases tk d s p with
  | none => exact hx
  | some t => rfl
theorem DealC.rw {h : HP} {a : Nat} {d : DD} {r : Nat → Int32} (k : DealC h a d) : DealC (rwR h r) a d := k.up Up.rw
theorem rwR_rw {h : HP} {r : Nat → Int32} {f e : Nat} {g : Nat → Int32 → Int32} : rwR (rwR h r) (rng f e g (hI (rwR h r) 39)) = rwR h (rng f e g r) := by
  have e1 : hI (rwR h r) 39 = r := funext fun i => rwR_39
  rw [e1]
  unfold rwR
  congr 1
  funext a i
  by_cases ha : a = 39
  · rw [if_pos ha, if_pos ha]
  · simp [ha]
theorem zX8_settleAll (X : EX) {h : HP} (F : Fx h) {f n : Nat} {o : Nat → Nat} {A : Nat → Nat} {D : Nat → DD} (bf : BkF h f o) (b : BkD h n A D) : Ct X mX8_settleAll 3 0 0 [vR (some 32)] h (fun v h' => v = none ∧ ∃ r, h' = rwR h r ∧ ∀ s, fo o f ≤ s → s < fo o f + om f → ∀ p, p < 12 → dgt (r s) p = nI (ow D s p n)) := by
  refine ct_of rfl (Nat.le_of_ble_eq_true rfl) ?_
  have hb6 := om_fo bf.2.1 bf.2.2.2
  have hn12 := b.2.1
  have loop : ∀ (m : Nat) (k : Nat) (r : Nat → Int32), k + m = n → (∀ s, fo o f ≤ s → s < fo o f + om f → ∀ p, p < 12 → dgt (r s) p = nI (ow D s p k)) → Ev X mX8_settleAll 3 0 0 (fun v h' => v = none ∧ ∃ r, h' = rwR h r ∧ ∀ s, fo o f ≤ s → s < fo o f + om f → ∀ p, p < 12 → dgt (r s) p = nI (ow D s p n)) 0 0 27 [(0, some (vR (some 32))), (1, some (vI (nI (fo o f)))), (2, some (vI (nI (fo o f + om f)))), (3, some (vI (nI k)))] [] (rwR h r) := by
    intro m
    induction m with
    | zero =>
      intro k r hk hr
      obtain rfl : n = k := by omega
      refine e_iload_n aX8_settleAll_27 rfl ?_
      refine e_aload_n aX8_settleAll_28 rfl ?_
      refine e_getRF aX8_settleAll_29 fX8_10 rfl (fx_is F rfl) (fx_r (b := 33) F rfl) ?_
      refine e_getIF aX8_settleAll_32 fX8_101 rfl (fx_is F rfl) ((rwR_I (by decide)).trans b.1) ?_
      refine e_icmp_ge aX8_settleAll_35 (fun c35 => ?_) (fun c35 => ?_)
      · -- 35: taken
        refine e_return aX8_settleAll_61 rfl (Nat.le_refl _) (Nat.le_refl _) ?_
        exact ⟨rfl, r, rfl, hr⟩
      · -- 35: not taken
        exact absurd (nI_le (by omega) (by omega)) c35
    | succ m ih =>
      intro k r hk hr
      refine e_iload_n aX8_settleAll_27 rfl ?_
      refine e_aload_n aX8_settleAll_28 rfl ?_
      refine e_getRF aX8_settleAll_29 fX8_10 rfl (fx_is F rfl) (fx_r (b := 33) F rfl) ?_
      refine e_getIF aX8_settleAll_32 fX8_101 rfl (fx_is F rfl) ((rwR_I (by decide)).trans b.1) ?_
      refine e_icmp_ge aX8_settleAll_35 (fun c35 => ?_) (fun c35 => ?_)
      · -- 35: taken
        exact absurd c35 (nI_ge (by omega) (by omega))
      · -- 35: not taken
        refine e_aload_n aX8_settleAll_38 rfl ?_
        refine e_getRF aX8_settleAll_39 fX8_23 rfl (fx_is F rfl) (fx_r (b := 38) F rfl) ?_
        refine e_aload_n aX8_settleAll_42 rfl ?_
        refine e_getRF aX8_settleAll_43 fX8_10 rfl (fx_is F rfl) (fx_r (b := 33) F rfl) ?_
        refine e_iload_n aX8_settleAll_46 rfl ?_
        refine e_invvT aX8_settleAll_47 kX8_128 (zX0_dealAt_in X (h := rwR h r) F b.rw (by omega)) rfl rfl (fx_is F rfl) (Nat.le_of_ble_eq_true rfl) (Nat.le_of_ble_eq_true rfl) (Nat.le_refl _) (Nat.le_refl _) (Nat.le_of_ble_eq_true rfl) ?_
        refine e_iload_n aX8_settleAll_50 rfl ?_
        refine e_iload_n aX8_settleAll_51 rfl ?_
        refine e_invvV aX8_settleAll_52 kX8_276 (zX2_settle X (h := rwR h r) F (b.2.2 k (by omega)).2.rw (Nat.le_add_right _ _) hb6) rfl rfl (fx_is F rfl) (Nat.le_of_ble_eq_true rfl) (Nat.le_of_ble_eq_true rfl) (Nat.le_refl _) (Nat.le_refl _) (Nat.le_of_ble_eq_true rfl) ?_
        refine e_iinc aX8_settleAll_55 rfl rfl (Nat.le_of_ble_eq_true rfl) ?_
        refine e_goto aX8_settleAll_58 ?_
        refine e_hp (h2 := rwR h (rng (fo o f) (fo o f + om f) (stl (D k)) r)) rwR_rw ?_
        refine e_ls (ls' := [(0, some (vR (some 32))), (1, some (vI (nI (fo o f)))), (2, some (vI (nI (fo o f + om f)))), (3, some (vI (nI (k + 1))))]) ⟨rfl, rfl, rfl, congrArg (fun x => some (vI x)) (nI_1 k), trivial⟩ ?_
        refine ih (k + 1) _ (by omega) (fun s hs1 hs2 p hp => ?_)
        unfold rng
        rw [if_pos ⟨hs1, hs2⟩]
        exact own_step (b.2.2 k (by omega)).2.2.2.1 hp rfl (hr s hs1 hs2 p hp)
  refine e_aload_n aX8_settleAll_0 rfl ?_
  refine e_getRF aX8_settleAll_1 fX8_10 rfl (fx_is F rfl) (fx_r (b := 33) F rfl) ?_
  refine e_invvT aX8_settleAll_4 kX8_84 (zX0_firstOpen X F bf) rfl rfl (fx_is F rfl) (Nat.le_of_ble_eq_true rfl) (Nat.le_of_ble_eq_true rfl) (Nat.le_refl _) (Nat.le_refl _) (Nat.le_of_ble_eq_true rfl) ?_
  refine e_istore_n aX8_settleAll_7 (Nat.le_of_ble_eq_true rfl) ?_
  refine e_aload_n aX8_settleAll_8 rfl ?_
  refine e_getRF aX8_settleAll_9 fX8_10 rfl (fx_is F rfl) (fx_r (b := 33) F rfl) ?_
  refine e_invvT aX8_settleAll_12 kX8_181 (zX0_endOpen X F bf) rfl rfl (fx_is F rfl) (Nat.le_of_ble_eq_true rfl) (Nat.le_of_ble_eq_true rfl) (Nat.le_refl _) (Nat.le_refl _) (Nat.le_of_ble_eq_true rfl) ?_
  refine e_istore_n aX8_settleAll_15 (Nat.le_of_ble_eq_true rfl) ?_
  refine e_aload_n aX8_settleAll_16 rfl ?_
  refine e_getRF aX8_settleAll_17 fX8_23 rfl (fx_is F rfl) (fx_r (b := 38) F rfl) ?_
  refine e_iload_n aX8_settleAll_20 rfl ?_
  refine e_iload_n aX8_settleAll_21 rfl ?_
  refine e_invvV aX8_settleAll_22 kX8_54 (zX2_startAll X F (Nat.le_add_right _ _) hb6) rfl rfl (fx_is F rfl) (Nat.le_of_ble_eq_true rfl) (Nat.le_of_ble_eq_true rfl) (Nat.le_refl _) (Nat.le_refl _) (Nat.le_of_ble_eq_true rfl) ?_
  refine e_iconst (v := 0) aX8_settleAll_25 (by decide) ?_
  refine e_istore_n aX8_settleAll_26 (Nat.le_of_ble_eq_true rfl) ?_
  refine e_ls (ls' := [(0, some (vR (some 32))), (1, some (vI (nI (fo o f)))), (2, some (vI (nI (fo o f + om f)))), (3, some (vI (nI 0)))]) ⟨rfl, rfl, rfl, rfl, trivial⟩ ?_
  refine loop n 0 _ (by omega) (fun s hs1 hs2 p hp => ?_)
  unfold rng
  rw [if_pos ⟨hs1, hs2⟩]
  exact dgt_start p hp
theorem oI_ge {q : Option Nat} (h : ∀ p, q = some p → p < 1073741824) : 0 ≤ oI q ↔ ∃ p, q = some p := by
  rw [← Int32.not_lt, oI_lt h]
  cases q <;> simp
theorem zX8_clashesUnder (X : EX) {h : HP} (F : Fx h) {n : Nat} {A : Nat → Nat} {D : Nat → DD} (b : BkD h n A D) {a : Nat} {d : DD} (kd : DealC h a d) {s : Nat} (hs : s < 1296) : Ct X mX8_clashesUnder 4 0 0 [vR (some 32), vI (nI s), vR (some a)] h (Rt (vI (b2 ((ncl D n d s).isSome = true))) (match ncl D n d s with | none => h | some q => tl h s q.1 q.2)) := by
  refine ct_of rfl (Nat.le_of_ble_eq_true rfl) ?_
  have w := kd.2.2.1
  refine e_aload_n aX8_clashesUnder_0 rfl ?_
  refine e_iload_n aX8_clashesUnder_1 rfl ?_
  refine e_invvT aX8_clashesUnder_2 kX8_160 (zX1_gives X kd hs) rfl rfl kd.2.1 (Nat.le_of_ble_eq_true rfl) (Nat.le_of_ble_eq_true rfl) (Nat.le_refl _) (Nat.le_refl _) (Nat.le_of_ble_eq_true rfl) ?_
  refine e_istore_n aX8_clashesUnder_5 (Nat.le_of_ble_eq_true rfl) ?_
  refine e_iload_n aX8_clashesUnder_6 rfl ?_
  refine e_if_ge aX8_clashesUnder_7 (fun c7 => ?_) (fun c7 => ?_)
  · -- 7: taken
    have q7 := (oI_ge (gv_b w)).mp c7
    obtain ⟨g, hg⟩ := q7
    rw [hg]
    have hgl := (gv_ok w hg).1
    refine e_aload_n aX8_clashesUnder_12 rfl ?_
    refine e_iload_n aX8_clashesUnder_13 rfl ?_
    refine e_invvT aX8_clashesUnder_14 kX8_163 (zX1_getsBack X kd hs) rfl rfl kd.2.1 (Nat.le_of_ble_eq_true rfl) (Nat.le_of_ble_eq_true rfl) (Nat.le_refl _) (Nat.le_refl _) (Nat.le_of_ble_eq_true rfl) ?_
    refine e_istore aX8_clashesUnder_17 (Nat.le_of_ble_eq_true rfl) ?_
    refine e_aload_n aX8_clashesUnder_19 rfl ?_
    refine e_getRF aX8_clashesUnder_20 fX8_10 rfl (fx_is F rfl) (fx_r (b := 33) F rfl) ?_
    refine e_iload_n aX8_clashesUnder_23 rfl ?_
    refine e_iload_n aX8_clashesUnder_24 rfl ?_
    refine e_aload_n aX8_clashesUnder_25 rfl ?_
    refine e_getIF aX8_clashesUnder_26 fX8_134 rfl kd.2.1 kd.2.2.2.2.1 ?_
    refine e_aload_n aX8_clashesUnder_29 rfl ?_
    refine e_getIF aX8_clashesUnder_30 fX8_137 rfl kd.2.1 kd.2.2.2.2.2.1 ?_
    refine e_invvT aX8_clashesUnder_33 kX8_280 (zX0_clashOf X F b hs hgl w.2.1 w.2.2.1) rfl rfl (fx_is F rfl) (Nat.le_of_ble_eq_true rfl) (Nat.le_of_ble_eq_true rfl) (Nat.le_refl _) (Nat.le_refl _) (Nat.le_of_ble_eq_true rfl) ?_
    refine e_istore aX8_clashesUnder_36 (Nat.le_of_ble_eq_true rfl) ?_
    refine e_iload aX8_clashesUnder_38 rfl ?_
    refine e_if_ge aX8_clashesUnder_40 (fun c40 => ?_) (fun c40 => ?_)
    · -- 40: taken
      have q40 := (oI_ge (fun q hq => by have := (gb_ok w hq).1; omega)).mp c40
      obtain ⟨bz, hbz⟩ := q40
      rw [hbz]
      have hbl := (gb_ok w hbz).1
      refine e_aload_n aX8_clashesUnder_47 rfl ?_
      refine e_getRF aX8_clashesUnder_48 fX8_10 rfl (fx_is F rfl) (fx_r (b := 33) F rfl) ?_
      refine e_iload_n aX8_clashesUnder_51 rfl ?_
      refine e_iload aX8_clashesUnder_52 rfl ?_
      refine e_aload_n aX8_clashesUnder_54 rfl ?_
      refine e_getIF aX8_clashesUnder_55 fX8_137 rfl kd.2.1 kd.2.2.2.2.2.1 ?_
      refine e_aload_n aX8_clashesUnder_58 rfl ?_
      refine e_getIF aX8_clashesUnder_59 fX8_134 rfl kd.2.1 kd.2.2.2.2.1 ?_
      refine e_invvT aX8_clashesUnder_62 kX8_280 (zX0_clashOf X F b hs hbl w.2.2.1 w.2.1) rfl rfl (fx_is F rfl) (Nat.le_of_ble_eq_true rfl) (Nat.le_of_ble_eq_true rfl) (Nat.le_refl _) (Nat.le_refl _) (Nat.le_of_ble_eq_true rfl) ?_
      refine e_istore aX8_clashesUnder_65 (Nat.le_of_ble_eq_true rfl) ?_
      refine e_iload aX8_clashesUnder_67 rfl ?_
      refine e_if_ge aX8_clashesUnder_69 (fun c69 => ?_) (fun c69 => ?_)
      · -- 69: taken
        obtain ⟨w1, hw1⟩ := (oI_ge cls_b).mp c69
        refine e_iload aX8_clashesUnder_79 rfl ?_
        refine e_if_lt aX8_clashesUnder_81 (fun c81 => ?_) (fun c81 => ?_)
        · -- 81: taken
          exact absurd c69 (Int32.not_le.mpr c81)
        · -- 81: not taken
          skip
          refine e_iload aX8_clashesUnder_84 rfl ?_
          refine e_if_lt aX8_clashesUnder_86 (fun c86 => ?_) (fun c86 => ?_)
          · -- 86: taken
            have hw2 := (oI_lt cls_b).mp c86
            have hn : ncl D n d s = some (g, w1) := by simp [ncl, hg, hw1, hbz, hw2]
            refine e_iconst (v := 1) aX8_clashesUnder_95 (by decide) ?_
            refine e_goto aX8_clashesUnder_96 ?_
            refine e_istore aX8_clashesUnder_100 (Nat.le_of_ble_eq_true rfl) ?_
            refine e_aload_n aX8_clashesUnder_102 rfl ?_
            refine e_getRF aX8_clashesUnder_103 fX8_46 rfl (fx_is F rfl) (fx_r (b := 75) F rfl) ?_
            refine e_iconst (v := 0) aX8_clashesUnder_106 (by decide) ?_
            refine e_iload_n aX8_clashesUnder_107 rfl ?_
            refine e_iastoreF aX8_clashesUnder_108 (fx_is F rfl) (fx_n (n := 3) F rfl) (vin (n := 0) (by decide)) ?_
            refine e_aload_n aX8_clashesUnder_109 rfl ?_
            refine e_getRF aX8_clashesUnder_110 fX8_46 rfl (fx_is F rfl) (fx_r (b := 75) F rfl) ?_
            refine e_iconst (v := 1) aX8_clashesUnder_113 (by decide) ?_
            refine e_iload aX8_clashesUnder_114 rfl ?_
            refine e_if_eq aX8_clashesUnder_116 (fun c116 => absurd c116 (by decide)) (fun c116 => ?_)
            refine e_iload_n aX8_clashesUnder_119 rfl ?_
            refine e_goto aX8_clashesUnder_120 ?_
            refine e_iastoreF aX8_clashesUnder_125 (fx_is F rfl) (fx_n (n := 3) F rfl) (vin (n := 1) (by decide)) ?_
            refine e_aload_n aX8_clashesUnder_126 rfl ?_
            refine e_getRF aX8_clashesUnder_127 fX8_46 rfl (fx_is F rfl) (fx_r (b := 75) F rfl) ?_
            refine e_iconst (v := 2) aX8_clashesUnder_130 (by decide) ?_
            refine e_iload aX8_clashesUnder_131 rfl ?_
            refine e_if_eq aX8_clashesUnder_133 (fun c133 => absurd c133 (by decide)) (fun c133 => ?_)
            refine e_iload aX8_clashesUnder_136 rfl ?_
            refine e_goto aX8_clashesUnder_138 ?_
            refine e_iastoreF aX8_clashesUnder_143 (fx_is F rfl) (fx_n (n := 3) F rfl) (vin (n := 2) (by decide)) ?_
            refine e_iconst (v := 1) aX8_clashesUnder_144 (by decide) ?_
            refine e_zreturn aX8_clashesUnder_145 rfl (by decide) (Nat.le_refl _) (Nat.le_refl _) ?_
            exact ⟨by rw [hn]; rfl, by rw [hn]; simp only [hw1]; rfl⟩
          · -- 86: not taken
            obtain ⟨w2, hw2⟩ := (oI_ge cls_b).mp (Int32.not_lt.mp c86)
            refine e_iload_n aX8_clashesUnder_89 rfl ?_
            refine e_iload aX8_clashesUnder_90 rfl ?_
            refine e_icmp_ge aX8_clashesUnder_92 (fun c92 => ?_) (fun c92 => ?_)
            · -- 92: taken
              have q92 := (nI_leI (by omega) (by omega)).mp c92
              have hn : ncl D n d s = some (bz, w2) := by simp [ncl, hg, hw1, hbz, hw2, Nat.not_lt.mpr q92]
              refine e_iconst (v := 0) aX8_clashesUnder_99 (by decide) ?_
              refine e_istore aX8_clashesUnder_100 (Nat.le_of_ble_eq_true rfl) ?_
              refine e_aload_n aX8_clashesUnder_102 rfl ?_
              refine e_getRF aX8_clashesUnder_103 fX8_46 rfl (fx_is F rfl) (fx_r (b := 75) F rfl) ?_
              refine e_iconst (v := 0) aX8_clashesUnder_106 (by decide) ?_
              refine e_iload_n aX8_clashesUnder_107 rfl ?_
              refine e_iastoreF aX8_clashesUnder_108 (fx_is F rfl) (fx_n (n := 3) F rfl) (vin (n := 0) (by decide)) ?_
              refine e_aload_n aX8_clashesUnder_109 rfl ?_
              refine e_getRF aX8_clashesUnder_110 fX8_46 rfl (fx_is F rfl) (fx_r (b := 75) F rfl) ?_
              refine e_iconst (v := 1) aX8_clashesUnder_113 (by decide) ?_
              refine e_iload aX8_clashesUnder_114 rfl ?_
              refine e_if_eq aX8_clashesUnder_116 (fun c116 => ?_) (fun c116 => absurd c116 (by decide))
              refine e_iload aX8_clashesUnder_123 rfl ?_
              refine e_iastoreF aX8_clashesUnder_125 (fx_is F rfl) (fx_n (n := 3) F rfl) (vin (n := 1) (by decide)) ?_
              refine e_aload_n aX8_clashesUnder_126 rfl ?_
              refine e_getRF aX8_clashesUnder_127 fX8_46 rfl (fx_is F rfl) (fx_r (b := 75) F rfl) ?_
              refine e_iconst (v := 2) aX8_clashesUnder_130 (by decide) ?_
              refine e_iload aX8_clashesUnder_131 rfl ?_
              refine e_if_eq aX8_clashesUnder_133 (fun c133 => ?_) (fun c133 => absurd c133 (by decide))
              refine e_iload aX8_clashesUnder_141 rfl ?_
              refine e_iastoreF aX8_clashesUnder_143 (fx_is F rfl) (fx_n (n := 3) F rfl) (vin (n := 2) (by decide)) ?_
              refine e_iconst (v := 1) aX8_clashesUnder_144 (by decide) ?_
              refine e_zreturn aX8_clashesUnder_145 rfl (by decide) (Nat.le_refl _) (Nat.le_refl _) ?_
              exact ⟨by rw [hn]; rfl, by rw [hn]; simp only [hbz, hw2]; rfl⟩
            · -- 92: not taken
              have q92 := (not_congr (nI_leI (by omega) (by omega))).mp c92
              have hn : ncl D n d s = some (g, w1) := by simp [ncl, hg, hw1, hbz, hw2, Nat.lt_of_not_le q92]
              refine e_iconst (v := 1) aX8_clashesUnder_95 (by decide) ?_
              refine e_goto aX8_clashesUnder_96 ?_
              refine e_istore aX8_clashesUnder_100 (Nat.le_of_ble_eq_true rfl) ?_
              refine e_aload_n aX8_clashesUnder_102 rfl ?_
              refine e_getRF aX8_clashesUnder_103 fX8_46 rfl (fx_is F rfl) (fx_r (b := 75) F rfl) ?_
              refine e_iconst (v := 0) aX8_clashesUnder_106 (by decide) ?_
              refine e_iload_n aX8_clashesUnder_107 rfl ?_
              refine e_iastoreF aX8_clashesUnder_108 (fx_is F rfl) (fx_n (n := 3) F rfl) (vin (n := 0) (by decide)) ?_
              refine e_aload_n aX8_clashesUnder_109 rfl ?_
              refine e_getRF aX8_clashesUnder_110 fX8_46 rfl (fx_is F rfl) (fx_r (b := 75) F rfl) ?_
              refine e_iconst (v := 1) aX8_clashesUnder_113 (by decide) ?_
              refine e_iload aX8_clashesUnder_114 rfl ?_
              refine e_if_eq aX8_clashesUnder_116 (fun c116 => absurd c116 (by decide)) (fun c116 => ?_)
              refine e_iload_n aX8_clashesUnder_119 rfl ?_
              refine e_goto aX8_clashesUnder_120 ?_
              refine e_iastoreF aX8_clashesUnder_125 (fx_is F rfl) (fx_n (n := 3) F rfl) (vin (n := 1) (by decide)) ?_
              refine e_aload_n aX8_clashesUnder_126 rfl ?_
              refine e_getRF aX8_clashesUnder_127 fX8_46 rfl (fx_is F rfl) (fx_r (b := 75) F rfl) ?_
              refine e_iconst (v := 2) aX8_clashesUnder_130 (by decide) ?_
              refine e_iload aX8_clashesUnder_131 rfl ?_
              refine e_if_eq aX8_clashesUnder_133 (fun c133 => absurd c133 (by decide)) (fun c133 => ?_)
              refine e_iload aX8_clashesUnder_136 rfl ?_
              refine e_goto aX8_clashesUnder_138 ?_
              refine e_iastoreF aX8_clashesUnder_143 (fx_is F rfl) (fx_n (n := 3) F rfl) (vin (n := 2) (by decide)) ?_
              refine e_iconst (v := 1) aX8_clashesUnder_144 (by decide) ?_
              refine e_zreturn aX8_clashesUnder_145 rfl (by decide) (Nat.le_refl _) (Nat.le_refl _) ?_
              exact ⟨by rw [hn]; rfl, by rw [hn]; simp only [hw1]; rfl⟩
      · -- 69: not taken
        have hw1 := (oI_lt cls_b).mp (Int32.not_le.mp c69)
        refine e_iload aX8_clashesUnder_72 rfl ?_
        refine e_if_ge aX8_clashesUnder_74 (fun c74 => ?_) (fun c74 => ?_)
        · -- 74: taken
          obtain ⟨w2, hw2⟩ := (oI_ge cls_b).mp c74
          refine e_iload aX8_clashesUnder_79 rfl ?_
          refine e_if_lt aX8_clashesUnder_81 (fun c81 => ?_) (fun c81 => ?_)
          · -- 81: taken
            skip
            refine e_iconst (v := 0) aX8_clashesUnder_99 (by decide) ?_
            refine e_istore aX8_clashesUnder_100 (Nat.le_of_ble_eq_true rfl) ?_
            refine e_aload_n aX8_clashesUnder_102 rfl ?_
            refine e_getRF aX8_clashesUnder_103 fX8_46 rfl (fx_is F rfl) (fx_r (b := 75) F rfl) ?_
            refine e_iconst (v := 0) aX8_clashesUnder_106 (by decide) ?_
            refine e_iload_n aX8_clashesUnder_107 rfl ?_
            refine e_iastoreF aX8_clashesUnder_108 (fx_is F rfl) (fx_n (n := 3) F rfl) (vin (n := 0) (by decide)) ?_
            refine e_aload_n aX8_clashesUnder_109 rfl ?_
            refine e_getRF aX8_clashesUnder_110 fX8_46 rfl (fx_is F rfl) (fx_r (b := 75) F rfl) ?_
            refine e_iconst (v := 1) aX8_clashesUnder_113 (by decide) ?_
            refine e_iload aX8_clashesUnder_114 rfl ?_
            refine e_if_eq aX8_clashesUnder_116 (fun c116 => ?_) (fun c116 => absurd c116 (by decide))
            refine e_iload aX8_clashesUnder_123 rfl ?_
            refine e_iastoreF aX8_clashesUnder_125 (fx_is F rfl) (fx_n (n := 3) F rfl) (vin (n := 1) (by decide)) ?_
            refine e_aload_n aX8_clashesUnder_126 rfl ?_
            refine e_getRF aX8_clashesUnder_127 fX8_46 rfl (fx_is F rfl) (fx_r (b := 75) F rfl) ?_
            refine e_iconst (v := 2) aX8_clashesUnder_130 (by decide) ?_
            refine e_iload aX8_clashesUnder_131 rfl ?_
            refine e_if_eq aX8_clashesUnder_133 (fun c133 => ?_) (fun c133 => absurd c133 (by decide))
            refine e_iload aX8_clashesUnder_141 rfl ?_
            refine e_iastoreF aX8_clashesUnder_143 (fx_is F rfl) (fx_n (n := 3) F rfl) (vin (n := 2) (by decide)) ?_
            refine e_iconst (v := 1) aX8_clashesUnder_144 (by decide) ?_
            refine e_zreturn aX8_clashesUnder_145 rfl (by decide) (Nat.le_refl _) (Nat.le_refl _) ?_
            have hn : ncl D n d s = some (bz, w2) := by simp [ncl, hg, hw1, hbz, hw2]
            exact ⟨by rw [hn]; rfl, by rw [hn]; simp only [hbz, hw2]; rfl⟩
          · -- 81: not taken
            exact absurd (Int32.not_lt.mp c81) c69
        · -- 74: not taken
          have hw2 := (oI_lt cls_b).mp (Int32.not_le.mp c74)
          have hn : ncl D n d s = none := by simp [ncl, hg, hw1, hbz, hw2]
          refine e_iconst (v := 0) aX8_clashesUnder_77 (by decide) ?_
          refine e_zreturn aX8_clashesUnder_78 rfl (by decide) (Nat.le_refl _) (Nat.le_refl _) ?_
          exact ⟨by rw [hn]; rfl, by rw [hn]⟩
    · -- 40: not taken
      have q40 := (oI_lt (fun q hq => by have := (gb_ok w hq).1; omega)).mp (Int32.not_le.mp c40)
      refine e_iconst (v := -1) aX8_clashesUnder_43 (by decide) ?_
      refine e_goto aX8_clashesUnder_44 ?_
      refine e_istore aX8_clashesUnder_65 (Nat.le_of_ble_eq_true rfl) ?_
      refine e_iload aX8_clashesUnder_67 rfl ?_
      refine e_if_ge aX8_clashesUnder_69 (fun c69 => ?_) (fun c69 => ?_)
      · -- 69: taken
        obtain ⟨w1, hw1⟩ := (oI_ge cls_b).mp c69
        refine e_iload aX8_clashesUnder_79 rfl ?_
        refine e_if_lt aX8_clashesUnder_81 (fun c81 => ?_) (fun c81 => ?_)
        · -- 81: taken
          exact absurd c69 (Int32.not_le.mpr c81)
        · -- 81: not taken
          skip
          refine e_iload aX8_clashesUnder_84 rfl ?_
          refine e_if_lt aX8_clashesUnder_86 (fun c86 => ?_) (fun c86 => absurd c86 (by decide))
          have hn : ncl D n d s = some (g, w1) := by simp [ncl, hg, hw1, q40]
          refine e_iconst (v := 1) aX8_clashesUnder_95 (by decide) ?_
          refine e_goto aX8_clashesUnder_96 ?_
          refine e_istore aX8_clashesUnder_100 (Nat.le_of_ble_eq_true rfl) ?_
          refine e_aload_n aX8_clashesUnder_102 rfl ?_
          refine e_getRF aX8_clashesUnder_103 fX8_46 rfl (fx_is F rfl) (fx_r (b := 75) F rfl) ?_
          refine e_iconst (v := 0) aX8_clashesUnder_106 (by decide) ?_
          refine e_iload_n aX8_clashesUnder_107 rfl ?_
          refine e_iastoreF aX8_clashesUnder_108 (fx_is F rfl) (fx_n (n := 3) F rfl) (vin (n := 0) (by decide)) ?_
          refine e_aload_n aX8_clashesUnder_109 rfl ?_
          refine e_getRF aX8_clashesUnder_110 fX8_46 rfl (fx_is F rfl) (fx_r (b := 75) F rfl) ?_
          refine e_iconst (v := 1) aX8_clashesUnder_113 (by decide) ?_
          refine e_iload aX8_clashesUnder_114 rfl ?_
          refine e_if_eq aX8_clashesUnder_116 (fun c116 => absurd c116 (by decide)) (fun c116 => ?_)
          refine e_iload_n aX8_clashesUnder_119 rfl ?_
          refine e_goto aX8_clashesUnder_120 ?_
          refine e_iastoreF aX8_clashesUnder_125 (fx_is F rfl) (fx_n (n := 3) F rfl) (vin (n := 1) (by decide)) ?_
          refine e_aload_n aX8_clashesUnder_126 rfl ?_
          refine e_getRF aX8_clashesUnder_127 fX8_46 rfl (fx_is F rfl) (fx_r (b := 75) F rfl) ?_
          refine e_iconst (v := 2) aX8_clashesUnder_130 (by decide) ?_
          refine e_iload aX8_clashesUnder_131 rfl ?_
          refine e_if_eq aX8_clashesUnder_133 (fun c133 => absurd c133 (by decide)) (fun c133 => ?_)
          refine e_iload aX8_clashesUnder_136 rfl ?_
          refine e_goto aX8_clashesUnder_138 ?_
          refine e_iastoreF aX8_clashesUnder_143 (fx_is F rfl) (fx_n (n := 3) F rfl) (vin (n := 2) (by decide)) ?_
          refine e_iconst (v := 1) aX8_clashesUnder_144 (by decide) ?_
          refine e_zreturn aX8_clashesUnder_145 rfl (by decide) (Nat.le_refl _) (Nat.le_refl _) ?_
          exact ⟨by rw [hn]; rfl, by rw [hn]; simp only [hw1]; rfl⟩
      · -- 69: not taken
        have hw1 := (oI_lt cls_b).mp (Int32.not_le.mp c69)
        refine e_iload aX8_clashesUnder_72 rfl ?_
        refine e_if_ge aX8_clashesUnder_74 (fun c74 => absurd c74 (by decide)) (fun c74 => ?_)
        have hn : ncl D n d s = none := by simp [ncl, hg, hw1, q40]
        refine e_iconst (v := 0) aX8_clashesUnder_77 (by decide) ?_
        refine e_zreturn aX8_clashesUnder_78 rfl (by decide) (Nat.le_refl _) (Nat.le_refl _) ?_
        exact ⟨by rw [hn]; rfl, by rw [hn]⟩
  · -- 7: not taken
    have q7 := (oI_lt (gv_b w)).mp (Int32.not_le.mp c7)
    have hn : ncl D n d s = none := by simp [ncl, q7]
    refine e_iconst (v := 0) aX8_clashesUnder_10 (by decide) ?_
    refine e_zreturn aX8_clashesUnder_11 rfl (by decide) (Nat.le_refl _) (Nat.le_refl _) ?_
    exact ⟨by rw [hn]; rfl, by rw [hn]⟩
end
section
/-! contracts: takes, enter, sale, swap (written by wip/p45/g21.py) -/
theorem e_aastoreF {X : EX} {y : MD} {d mc ms : Nat} {Q : Option VV → HP → Prop} {cells slots pc pc' : Nat} {ls : ZL} {st : List VV} {h : HP} {a : Nat} {i : Int32} {t b N : Nat} (hd : At y.2.1 pc (.aastore) 1 pc') (ok : Is h a t) (h1 : 16 ≤ t) (h2 : t ≤ 19) (ok2 : Is h b ((rfC t).1 + 1)) (hn : hN h a = N) (hin : vp_in i N) (k : Ev X y d mc ms Q cells slots pc' ls st (wR h a i.toNatClampNeg (some b))) : Ev X y d mc ms Q cells slots pc ls (vR (some b) :: vI i :: vR (some a) :: st) h := e_aastore hd ok h1 h2 ok2 (by rw [hn]; exact hin) k
theorem Fx.wR {h : HP} (F : Fx h) {b i : Nat} {v : Option Nat} (hb : R0l.getD (b - 32) [] = []) : Fx (wR h b i v) := by
  refine ⟨F.1, F.2.1, fun a j hr => ?_⟩
  have hab : a ≠ b := by
    intro e
    subst e
    apply hr
    unfold R0
    rw [hb]
    rfl
  exact (up2_a hab).trans (F.2.2 a j hr)
/-- the first CLASH from s on, among m STANDINGS -/
def fcl (D : Nat → DD) (n : Nat) (d : DD) : Nat → Nat → Option (Nat × Nat × Nat)
  | _, 0 => none
  | s, m + 1 => match ncl D n d s with
    | some q => some (s, q.1, q.2)
    | none => fcl D n d (s + 1) m
/-- one more deal is taken -/
def tkn (h : HP) (n a : Nat) (d : DD) (s0 m : Nat) : HP := rwR (wI (wR h 34 n (some a)) 33 1 (nI (n + 1))) (rng s0 (s0 + m) (stl d) (hI (wI (wR h 34 n (some a)) 33 1 (nI (n + 1))) 39))
/-- a finding -/
def fv (k : Nat) : VV := vI (-1000001 - nI k)
def fnd (h : HP) (k : Nat) : HP := wI h 76 k (hI h 76 k + 1)
theorem zfin (X : EX) {h : HP} (F : Fx h) {k : Nat} (hk : k < 8) : Ct X mX8_finding 0 0 0 [vR (some 32), vI (nI k)] h (Rt (fv k) (fnd h k)) := zX8_finding X F hk
theorem zX8_takes (X : EX) {h : HP} (F : Fx h) {f n : Nat} {o : Nat → Nat} {A : Nat → Nat} {D : Nat → DD} (bf : BkF h f o) (b : BkD h n A D) (hn : n < 12) {a : Nat} {d : DD} (kd : DealC h a d) : Ct X mX8_takes 5 0 0 [vR (some 32), vR (some a)] h (Rt (vI (b2 ((fcl D n d (fo o f) (om f)).isNone = true))) (match fcl D n d (fo o f) (om f) with | some q => tl h q.1 q.2.1 q.2.2 | none => tkn h n a d (fo o f) (om f))) := by
  refine ct_of rfl (Nat.le_of_ble_eq_true rfl) ?_
  have hb6 := om_fo bf.2.1 bf.2.2.2
  have loop : ∀ (m : Nat) (j : Nat), j + m = fo o f + om f → fcl D n d j m = fcl D n d (fo o f) (om f) → Ev X mX8_takes 5 0 0 (Rt (vI (b2 ((fcl D n d (fo o f) (om f)).isNone = true))) (match fcl D n d (fo o f) (om f) with | some q => tl h q.1 q.2.1 q.2.2 | none => tkn h n a d (fo o f) (om f))) 0 0 37 [(0, some (vR (some 32))), (1, some (vR (some a))), (2, some (vI (nI (fo o f)))), (3, some (vI (nI (fo o f + om f)))), (4, some (vI (nI j)))] [] h := by
    intro m
    induction m with
    | zero =>
      intro j hj hR9
      refine e_iload aX8_takes_37 rfl ?_
      refine e_iload_n aX8_takes_39 rfl ?_
      refine e_icmp_ge aX8_takes_40 (fun c40 => ?_) (fun c40 => ?_)
      · -- 40: taken
        refine e_aload_n aX8_takes_61 rfl ?_
        refine e_getRF aX8_takes_62 fX8_10 rfl (fx_is F rfl) (fx_r (b := 33) F rfl) ?_
        refine e_getRF aX8_takes_65 fX8_166 rfl (fx_is F rfl) (fx_r (b := 34) F rfl) ?_
        refine e_aload_n aX8_takes_68 rfl ?_
        refine e_getRF aX8_takes_69 fX8_10 rfl (fx_is F rfl) (fx_r (b := 33) F rfl) ?_
        refine e_getIF aX8_takes_72 fX8_101 rfl (fx_is F rfl) b.1 ?_
        refine e_aload_n aX8_takes_75 rfl ?_
        refine e_aastoreF (t := 17) aX8_takes_76 (fx_is F rfl) (by decide) (by decide) kd.2.1 (fx_n (n := 12) F rfl) (vin (by omega)) ?_
        rw [cl (by omega)]
        have F : Fx (wR h 34 n (some a)) := F.wR rfl
        refine e_aload_n aX8_takes_77 rfl ?_
        refine e_getRF aX8_takes_78 fX8_10 rfl (fx_is F rfl) (fx_r (b := 33) F rfl) ?_
        refine e_dup aX8_takes_81 rfl ?_
        refine e_getIF aX8_takes_82 fX8_101 rfl (fx_is F rfl) b.1 ?_
        refine e_iconst (v := 1) aX8_takes_85 (by decide) ?_
        refine e_iadd aX8_takes_86 ?_
        refine e_top (nI_1 n) ?_
        refine e_putI aX8_takes_87 fX8_101 rfl (fx_is F rfl) (Or.inl rfl) ?_
        refine e_aload_n aX8_takes_90 rfl ?_
        refine e_getRF aX8_takes_91 fX8_23 rfl (fx_is F rfl) (fx_r (b := 38) F rfl) ?_
        refine e_aload_n aX8_takes_94 rfl ?_
        refine e_iload_n aX8_takes_95 rfl ?_
        refine e_iload_n aX8_takes_96 rfl ?_
        refine e_invvV aX8_takes_97 kX8_276 (zX2_settle X (h := (wI (wR h 34 n (some a)) 33 1 (nI (n + 1)))) F ((kd.up (Up.wR (by decide))).up (Up.wI (by decide))) (Nat.le_add_right _ _) hb6) rfl rfl (fx_is F rfl) (Nat.le_of_ble_eq_true rfl) (Nat.le_of_ble_eq_true rfl) (Nat.le_refl _) (Nat.le_refl _) (Nat.le_of_ble_eq_true rfl) ?_
        refine e_iconst (v := 1) aX8_takes_100 (by decide) ?_
        refine e_zreturn aX8_takes_101 rfl (by decide) (Nat.le_refl _) (Nat.le_refl _) ?_
        exact ⟨by rw [← hR9]; rfl, by rw [← hR9]; rfl⟩
      · -- 40: not taken
        exact absurd (nI_le (by omega) (by omega)) c40
    | succ m ih =>
      intro j hj hR9
      refine e_iload aX8_takes_37 rfl ?_
      refine e_iload_n aX8_takes_39 rfl ?_
      refine e_icmp_ge aX8_takes_40 (fun c40 => ?_) (fun c40 => ?_)
      · -- 40: taken
        exact absurd c40 (nI_ge (by omega) (by omega))
      · -- 40: not taken
        refine e_aload_n aX8_takes_43 rfl ?_
        refine e_iload aX8_takes_44 rfl ?_
        refine e_aload_n aX8_takes_46 rfl ?_
        refine e_invvT aX8_takes_47 kX8_272 (zX8_clashesUnder X F b kd (by omega)) rfl rfl (fx_is F rfl) (Nat.le_of_ble_eq_true rfl) (Nat.le_of_ble_eq_true rfl) (Nat.le_refl _) (Nat.le_refl _) (Nat.le_of_ble_eq_true rfl) ?_
        refine e_if_eq aX8_takes_50 (fun c50 => ?_) (fun c50 => ?_)
        · -- 50: taken
          have q50 : ncl D n d j = none := Option.not_isSome_iff_eq_none.mp (fun z => b2_0.mp c50 z)
          refine e_hp (h2 := h) (by rw [q50]) ?_
          refine e_iinc aX8_takes_55 rfl rfl (Nat.le_of_ble_eq_true rfl) ?_
          refine e_goto aX8_takes_58 ?_
          refine e_ls (ls' := [(0, some (vR (some 32))), (1, some (vR (some a))), (2, some (vI (nI (fo o f)))), (3, some (vI (nI (fo o f + om f)))), (4, some (vI (nI (j + 1))))]) ⟨rfl, rfl, rfl, rfl, congrArg (fun x => some (vI x)) (nI_1 j), trivial⟩ ?_
          exact ih (j + 1) (by omega) (by
            rw [← hR9]
            conv => rhs; unfold fcl
            rw [q50])
        · -- 50: not taken
          obtain ⟨q, q50⟩ := Option.isSome_iff_exists.mp (Decidable.of_not_not (fun z => c50 (b2_0.mpr z)))
          refine e_hp (h2 := tl h j q.1 q.2) (by rw [q50]) ?_
          refine e_iconst (v := 0) aX8_takes_53 (by decide) ?_
          refine e_zreturn aX8_takes_54 rfl (by decide) (Nat.le_refl _) (Nat.le_refl _) ?_
          have hR8 : fcl D n d (fo o f) (om f) = some (j, q.1, q.2) := by
            rw [← hR9]
            unfold fcl
            rw [q50]
          exact ⟨by rw [hR8]; rfl, by rw [hR8]⟩
  refine e_aload_n aX8_takes_0 rfl ?_
  refine e_ifnull aX8_takes_1 (fun c1 => ?_) (fun r1 c1 => ?_)
  · -- 1: taken
    exact absurd c1 (by simp)
  · -- 1: not taken
    skip
    refine e_aload_n aX8_takes_4 rfl ?_
    refine e_getRF aX8_takes_5 fX8_10 rfl (fx_is F rfl) (fx_r (b := 33) F rfl) ?_
    refine e_getIF aX8_takes_8 fX8_101 rfl (fx_is F rfl) b.1 ?_
    refine e_bipush (v := 12) aX8_takes_11 (by decide) ?_
    refine e_icmp_lt aX8_takes_13 (fun c13 => ?_) (fun c13 => ?_)
    · -- 13: taken
      skip
      refine e_aload_n aX8_takes_18 rfl ?_
      refine e_getRF aX8_takes_19 fX8_10 rfl (fx_is F rfl) (fx_r (b := 33) F rfl) ?_
      refine e_invvT aX8_takes_22 kX8_84 (zX0_firstOpen X F bf) rfl rfl (fx_is F rfl) (Nat.le_of_ble_eq_true rfl) (Nat.le_of_ble_eq_true rfl) (Nat.le_refl _) (Nat.le_refl _) (Nat.le_of_ble_eq_true rfl) ?_
      refine e_istore_n aX8_takes_25 (Nat.le_of_ble_eq_true rfl) ?_
      refine e_aload_n aX8_takes_26 rfl ?_
      refine e_getRF aX8_takes_27 fX8_10 rfl (fx_is F rfl) (fx_r (b := 33) F rfl) ?_
      refine e_invvT aX8_takes_30 kX8_181 (zX0_endOpen X F bf) rfl rfl (fx_is F rfl) (Nat.le_of_ble_eq_true rfl) (Nat.le_of_ble_eq_true rfl) (Nat.le_refl _) (Nat.le_refl _) (Nat.le_of_ble_eq_true rfl) ?_
      refine e_istore_n aX8_takes_33 (Nat.le_of_ble_eq_true rfl) ?_
      refine e_iload_n aX8_takes_34 rfl ?_
      refine e_istore aX8_takes_35 (Nat.le_of_ble_eq_true rfl) ?_
      refine e_ls (ls' := [(0, some (vR (some 32))), (1, some (vR (some a))), (2, some (vI (nI (fo o f)))), (3, some (vI (nI (fo o f + om f)))), (4, some (vI (nI (fo o f))))]) ⟨rfl, rfl, rfl, rfl, rfl, trivial⟩ ?_
      exact loop (om f) (fo o f) rfl rfl
    · -- 13: not taken
      exact absurd (nI_lt (a := n) (b := 12) hn (by decide)) c13
/-- what enter answers, and the heap behind it -/
def entV (D : Nat → DD) (n : Nat) (d : DD) (f : Nat) (o : Nat → Nat) : VV := if dP d / 3 < f then fv 3 else if 12 ≤ n then fv 1 else match fcl D n d (fo o f) (om f) with
  | some _ => fv 4
  | none => vI (nI n)
def entH (h : HP) (a : Nat) (D : Nat → DD) (n : Nat) (d : DD) (f : Nat) (o : Nat → Nat) : HP := if dP d / 3 < f then fnd h 3 else if 12 ≤ n then fnd h 1 else match fcl D n d (fo o f) (om f) with
  | some q => fnd (tl h q.1 q.2.1 q.2.2) 4
  | none => tkn h n a d (fo o f) (om f)
theorem tkn_33 {h : HP} {n a : Nat} {d : DD} {s0 m : Nat} : hI (tkn h n a d s0 m) 33 1 = nI (n + 1) := (rwR_I (by decide)).trans (up2_s (f := h.1) (a := 33) (i := 1) (v := nI (n + 1)))
theorem zX8_enter (X : EX) {h : HP} (F : Fx h) {f n : Nat} {o : Nat → Nat} {A : Nat → Nat} {D : Nat → DD} (bf : BkF h f o) (b : BkD h n A D) {a : Nat} {d : DD} (kd : DealC h a d) : Ct X mX8_enter 6 0 0 [vR (some 32), vR (some a)] h (Rt (entV D n d f o) (entH h a D n d f o)) := by
  refine ct_of rfl (Nat.le_of_ble_eq_true rfl) ?_
  have hp9 := kd.2.2.1.2.2.2.2.1
  have hf4 := bf.2.1
  have hn12 := b.2.1
  refine e_aload_n aX8_enter_0 rfl ?_
  refine e_getIF aX8_enter_1 fX8_140 rfl kd.2.1 kd.2.2.2.2.2.2.1 ?_
  refine e_iconst (v := 3) aX8_enter_4 (by decide) ?_
  refine e_idiv aX8_enter_5 (by decide) ?_
  refine e_top (nI_div (b := 3) (by omega) (by decide) (by decide)) ?_
  refine e_aload_n aX8_enter_6 rfl ?_
  refine e_getRF aX8_enter_7 fX8_10 rfl (fx_is F rfl) (fx_r (b := 33) F rfl) ?_
  refine e_getIF aX8_enter_10 fX8_73 rfl (fx_is F rfl) bf.1 ?_
  refine e_icmp_ge aX8_enter_13 (fun c13 => ?_) (fun c13 => ?_)
  · -- 13: taken
    have q13 := (not_congr (nI_ltI (a := dP d / 3) (b := f) (by omega) (by omega))).mp (Int32.not_lt.mpr c13)
    refine e_aload_n aX8_enter_22 rfl ?_
    refine e_getRF aX8_enter_23 fX8_10 rfl (fx_is F rfl) (fx_r (b := 33) F rfl) ?_
    refine e_getIF aX8_enter_26 fX8_101 rfl (fx_is F rfl) b.1 ?_
    refine e_bipush (v := 12) aX8_enter_29 (by decide) ?_
    refine e_icmp_lt aX8_enter_31 (fun c31 => ?_) (fun c31 => ?_)
    · -- 31: taken
      have q31 : n < 12 := (nI_ltI (b := 12) (by omega) (by decide)).mp c31
      refine e_aload_n aX8_enter_40 rfl ?_
      refine e_aload_n aX8_enter_41 rfl ?_
      refine e_invvT aX8_enter_42 kX8_121 (zX8_takes X F bf b q31 kd) rfl rfl (fx_is F rfl) (Nat.le_of_ble_eq_true rfl) (Nat.le_of_ble_eq_true rfl) (Nat.le_refl _) (Nat.le_refl _) (Nat.le_of_ble_eq_true rfl) ?_
      refine e_if_eq aX8_enter_45 (fun c45 => ?_) (fun c45 => ?_)
      · -- 45: taken
        obtain ⟨q, q45⟩ := Option.ne_none_iff_exists'.mp (fun z => b2_0.mp c45 (Option.isNone_iff_eq_none.mpr z))
        refine e_hp (h2 := tl h q.1 q.2.1 q.2.2) (by rw [q45]) ?_
        refine e_aload_n aX8_enter_60 rfl ?_
        refine e_iconst (v := 4) aX8_enter_61 (by decide) ?_
        refine e_invvT aX8_enter_62 kX8_62 (zfin X (k := 4) (h := tl h q.1 q.2.1 q.2.2) F (by decide)) rfl rfl (fx_is F rfl) (Nat.le_of_ble_eq_true rfl) (Nat.le_of_ble_eq_true rfl) (Nat.le_refl _) (Nat.le_refl _) (Nat.le_of_ble_eq_true rfl) ?_
        refine e_ireturn aX8_enter_65 rfl (Nat.le_refl _) (Nat.le_refl _) ?_
        exact ⟨by unfold entV; rw [if_neg q13, if_neg (by omega), q45] <;> rfl, by unfold entH; rw [if_neg q13, if_neg (by omega), q45] <;> rfl⟩
      · -- 45: not taken
        have q45 := Option.isNone_iff_eq_none.mp (Decidable.of_not_not (fun z => c45 (b2_0.mpr z)))
        refine e_hp (h2 := tkn h n a d (fo o f) (om f)) (by rw [q45]) ?_
        refine e_aload_n aX8_enter_48 rfl ?_
        refine e_getRF aX8_enter_49 fX8_10 rfl (fx_is F rfl) (fx_r (b := 33) F rfl) ?_
        refine e_getIF aX8_enter_52 fX8_101 rfl (fx_is F rfl) tkn_33 ?_
        refine e_iconst (v := 1) aX8_enter_55 (by decide) ?_
        refine e_isub aX8_enter_56 ?_
        refine e_top (nI_pred n) ?_
        refine e_goto aX8_enter_57 ?_
        refine e_ireturn aX8_enter_65 rfl (Nat.le_refl _) (Nat.le_refl _) ?_
        exact ⟨by unfold entV; rw [if_neg q13, if_neg (by omega), q45] <;> rfl, by unfold entH; rw [if_neg q13, if_neg (by omega), q45] <;> rfl⟩
    · -- 31: not taken
      have q31 : ¬ n < 12 := (not_congr (nI_ltI (b := 12) (by omega) (by decide))).mp c31
      refine e_aload_n aX8_enter_34 rfl ?_
      refine e_iconst (v := 1) aX8_enter_35 (by decide) ?_
      refine e_invvT aX8_enter_36 kX8_62 (zfin X (k := 1) F (by decide)) rfl rfl (fx_is F rfl) (Nat.le_of_ble_eq_true rfl) (Nat.le_of_ble_eq_true rfl) (Nat.le_refl _) (Nat.le_refl _) (Nat.le_of_ble_eq_true rfl) ?_
      refine e_ireturn aX8_enter_39 rfl (Nat.le_refl _) (Nat.le_refl _) ?_
      exact ⟨by unfold entV; rw [if_neg q13, if_pos (by omega)] <;> rfl, by unfold entH; rw [if_neg q13, if_pos (by omega)] <;> rfl⟩
  · -- 13: not taken
    have q13 := (nI_ltI (a := dP d / 3) (b := f) (by omega) (by omega)).mp (Int32.not_le.mp c13)
    refine e_aload_n aX8_enter_16 rfl ?_
    refine e_iconst (v := 3) aX8_enter_17 (by decide) ?_
    refine e_invvT aX8_enter_18 kX8_62 (zfin X (k := 3) F (by decide)) rfl rfl (fx_is F rfl) (Nat.le_of_ble_eq_true rfl) (Nat.le_of_ble_eq_true rfl) (Nat.le_refl _) (Nat.le_refl _) (Nat.le_of_ble_eq_true rfl) ?_
    refine e_ireturn aX8_enter_21 rfl (Nat.le_refl _) (Nat.le_refl _) ?_
    exact ⟨by unfold entV; rw [if_pos q13] <;> rfl, by unfold entH; rw [if_pos q13] <;> rfl⟩
end
section
/-! contracts: small answers of RolledPicks (written by wip/p45/g22.py) -/
/-- a finding is the answer -/
def RF (h : HP) (k : Nat) : Option VV → HP → Prop := Rt (fv k) (fnd h k)
theorem zlfin (X : EX) {h : HP} {k : Nat} (F : Fx h) (hk : k < 8) : Ct X mX8_longFinding 0 0 0 [vR (some 32), vI (nI k)] h (Rt (vL (-1000000000000000001 - lN k)) (fnd h k)) := zX8_longFinding X F hk
def RFL (h : HP) (k : Nat) : Option VV → HP → Prop := Rt (vL (-1000000000000000001 - lN k)) (fnd h k)
theorem ou_of {v : Int32} (N : Nat) (hN : N ≤ 1073741824) (h : ¬ (v < 0 ∨ nI N ≤ v)) : ∃ i, i < N ∧ v = nI i := by
  rcases pk_ix v (n := N) (by omega) with z | z | ⟨j, hj, rfl⟩
  · exact absurd (Or.inl z) h
  · exact absurd (Or.inr z) h
  · exact ⟨j, hj, rfl⟩
theorem wI_s {h : HP} {a i : Nat} {v : Int32} : hI (wI h a i v) a i = v := up2_s
theorem wI_a {h : HP} {a i b j : Nat} {v : Int32} (q : b ≠ a) : hI (wI h a i v) b j = hI h b j := up2_a q
theorem wI_i {h : HP} {a i b j : Nat} {v : Int32} (q : j ≠ i) : hI (wI h a i v) b j = hI h b j := up2_i q
def clubA (a b : Nat) : Nat := [0, 1, 2, 0, 2, 1, 1, 0, 2, 1, 2, 0, 2, 0, 1, 2, 1, 0].getD (a * 3 + b) 0
theorem zX8_fall (X : EX) {h : HP} (F : Fx h) {f : Nat} {o : Nat → Nat} (bf : BkF h f o) (x : Int32) : Ct X mX8_fall 1 0 0 [vR (some 32), vI x] h (if x < 0 ∨ 6 ≤ x then RF h 0 else if 4 ≤ f then RF h 3 else Rt (vI (nI (f + 1))) (wI (wI h 35 f x) 33 3 (nI (f + 1)))) := by
  refine ct_of rfl (Nat.le_of_ble_eq_true rfl) ?_
  have hf4 := bf.2.1
  refine e_iload_n aX8_fall_0 rfl ?_
  refine e_bipush (v := 6) aX8_fall_1 (by decide) ?_
  refine e_invsT aX8_fall_3 kX8_58 (zX8_isOutside X _ _) rfl rfl (Nat.le_of_ble_eq_true rfl) (Nat.le_of_ble_eq_true rfl) (Nat.le_refl _) (Nat.le_refl _) (Nat.le_of_ble_eq_true rfl) ?_
  refine e_if_eq aX8_fall_6 (fun c6 => ?_) (fun c6 => ?_)
  · -- 6: taken
    have q6 := b2_0.mp c6
    refine e_aload_n aX8_fall_15 rfl ?_
    refine e_getRF aX8_fall_16 fX8_10 rfl (fx_is F rfl) (fx_r (b := 33) F rfl) ?_
    refine e_getIF aX8_fall_19 fX8_73 rfl (fx_is F rfl) bf.1 ?_
    refine e_iconst (v := 4) aX8_fall_22 (by decide) ?_
    refine e_icmp_lt aX8_fall_23 (fun c23 => ?_) (fun c23 => ?_)
    · -- 23: taken
      have q23 : ¬ 4 ≤ f := Nat.not_le.mpr ((nI_ltI (a := f) (b := 4) (by omega) (by decide)).mp c23)
      refine e_aload_n aX8_fall_32 rfl ?_
      refine e_getRF aX8_fall_33 fX8_10 rfl (fx_is F rfl) (fx_r (b := 33) F rfl) ?_
      refine e_getRF aX8_fall_36 fX8_77 rfl (fx_is F rfl) (fx_r (b := 35) F rfl) ?_
      refine e_aload_n aX8_fall_39 rfl ?_
      refine e_getRF aX8_fall_40 fX8_10 rfl (fx_is F rfl) (fx_r (b := 33) F rfl) ?_
      refine e_getIF aX8_fall_43 fX8_73 rfl (fx_is F rfl) bf.1 ?_
      refine e_iload_n aX8_fall_46 rfl ?_
      refine e_iastoreF aX8_fall_47 (fx_is F rfl) (fx_n (n := 4) F rfl) (vin (N := 4) (by omega)) ?_
      rw [cl (by omega)]
      refine e_aload_n aX8_fall_48 rfl ?_
      refine e_getRF aX8_fall_49 fX8_10 rfl (fx_is F rfl) (fx_r (b := 33) F rfl) ?_
      refine e_dup aX8_fall_52 rfl ?_
      refine e_getIF aX8_fall_53 fX8_73 rfl (fx_is F rfl) bf.1 ?_
      refine e_iconst (v := 1) aX8_fall_56 (by decide) ?_
      refine e_iadd aX8_fall_57 ?_
      refine e_top (nI_1 f) ?_
      refine e_putI aX8_fall_58 fX8_73 rfl (fx_is F rfl) (Or.inl rfl) ?_
      refine e_aload_n aX8_fall_61 rfl ?_
      refine e_getRF aX8_fall_62 fX8_10 rfl (fx_is F rfl) (fx_r (b := 33) F rfl) ?_
      refine e_getIF aX8_fall_65 fX8_73 rfl (fx_is F rfl) wI_s ?_
      refine e_ireturn aX8_fall_68 rfl (Nat.le_refl _) (Nat.le_refl _) ?_
      rw [if_neg q6, if_neg q23]
      exact ⟨rfl, rfl⟩
    · -- 23: not taken
      have q23 : 4 ≤ f := Nat.not_lt.mp ((not_congr (nI_ltI (a := f) (b := 4) (by omega) (by decide))).mp c23)
      refine e_aload_n aX8_fall_26 rfl ?_
      refine e_iconst (v := 3) aX8_fall_27 (by decide) ?_
      refine e_invvT aX8_fall_28 kX8_62 (zfin X (k := 3) F (by decide)) rfl rfl (fx_is F rfl) (Nat.le_of_ble_eq_true rfl) (Nat.le_of_ble_eq_true rfl) (Nat.le_refl _) (Nat.le_refl _) (Nat.le_of_ble_eq_true rfl) ?_
      refine e_ireturn aX8_fall_31 rfl (Nat.le_refl _) (Nat.le_refl _) ?_
      rw [if_neg q6, if_pos q23]
      exact ⟨rfl, rfl⟩
  · -- 6: not taken
    have q6 := Decidable.of_not_not (fun z => c6 (b2_0.mpr z))
    refine e_aload_n aX8_fall_9 rfl ?_
    refine e_iconst (v := 0) aX8_fall_10 (by decide) ?_
    refine e_invvT aX8_fall_11 kX8_62 (zfin X (k := 0) F (by decide)) rfl rfl (fx_is F rfl) (Nat.le_of_ble_eq_true rfl) (Nat.le_of_ble_eq_true rfl) (Nat.le_refl _) (Nat.le_refl _) (Nat.le_of_ble_eq_true rfl) ?_
    refine e_ireturn aX8_fall_14 rfl (Nat.le_refl _) (Nat.le_refl _) ?_
    rw [if_pos q6]
    exact ⟨rfl, rfl⟩
theorem zX8_fallen (X : EX) {h : HP} (F : Fx h) {f : Nat} {o : Nat → Nat} (bf : BkF h f o) (x : Int32) : Ct X mX8_fallen 1 0 0 [vR (some 32), vI x] h (if x < 0 ∨ 4 ≤ x then RF h 0 else if x.toNatClampNeg < f then Rt (vI (nI (o x.toNatClampNeg))) h else RF h 3) := by
  refine ct_of rfl (Nat.le_of_ble_eq_true rfl) ?_
  have hf4 := bf.2.1
  refine e_iload_n aX8_fallen_0 rfl ?_
  refine e_iconst (v := 4) aX8_fallen_1 (by decide) ?_
  refine e_invsT aX8_fallen_2 kX8_58 (zX8_isOutside X _ _) rfl rfl (Nat.le_of_ble_eq_true rfl) (Nat.le_of_ble_eq_true rfl) (Nat.le_refl _) (Nat.le_refl _) (Nat.le_of_ble_eq_true rfl) ?_
  refine e_if_eq aX8_fallen_5 (fun c5 => ?_) (fun c5 => ?_)
  · -- 5: taken
    have q5 := b2_0.mp c5
    obtain ⟨yz, hy, rfl⟩ := ou_of 4 (by decide) q5
    refine e_iload_n aX8_fallen_14 rfl ?_
    refine e_aload_n aX8_fallen_15 rfl ?_
    refine e_getRF aX8_fallen_16 fX8_10 rfl (fx_is F rfl) (fx_r (b := 33) F rfl) ?_
    refine e_getIF aX8_fallen_19 fX8_73 rfl (fx_is F rfl) bf.1 ?_
    refine e_icmp_ge aX8_fallen_22 (fun c22 => ?_) (fun c22 => ?_)
    · -- 22: taken
      have q22 := (not_congr (nI_ltI (a := yz) (b := f) (by omega) (by omega))).mp (Int32.not_lt.mpr c22)
      refine e_aload_n aX8_fallen_37 rfl ?_
      refine e_iconst (v := 3) aX8_fallen_38 (by decide) ?_
      refine e_invvT aX8_fallen_39 kX8_62 (zfin X (k := 3) F (by decide)) rfl rfl (fx_is F rfl) (Nat.le_of_ble_eq_true rfl) (Nat.le_of_ble_eq_true rfl) (Nat.le_refl _) (Nat.le_refl _) (Nat.le_of_ble_eq_true rfl) ?_
      refine e_ireturn aX8_fallen_42 rfl (Nat.le_refl _) (Nat.le_refl _) ?_
      rw [if_neg q5, cl (by omega), if_neg q22]
      exact ⟨rfl, rfl⟩
    · -- 22: not taken
      have q22 := (nI_ltI (a := yz) (b := f) (by omega) (by omega)).mp (Int32.not_le.mp c22)
      refine e_aload_n aX8_fallen_25 rfl ?_
      refine e_getRF aX8_fallen_26 fX8_10 rfl (fx_is F rfl) (fx_r (b := 33) F rfl) ?_
      refine e_getRF aX8_fallen_29 fX8_77 rfl (fx_is F rfl) (fx_r (b := 35) F rfl) ?_
      refine e_iload_n aX8_fallen_32 rfl ?_
      refine e_ialoadF aX8_fallen_33 (fx_is F rfl) (fx_n (n := 4) F rfl) (vin (N := 4) (by omega)) (show hI h 35 (nI yz).toNatClampNeg = nI (o yz) by rw [cl (by omega)]; exact bf.2.2.1 _ q22) ?_
      refine e_goto aX8_fallen_34 ?_
      refine e_ireturn aX8_fallen_42 rfl (Nat.le_refl _) (Nat.le_refl _) ?_
      rw [if_neg q5, cl (by omega), if_pos q22]
      exact ⟨rfl, rfl⟩
  · -- 5: not taken
    have q5 := Decidable.of_not_not (fun z => c5 (b2_0.mpr z))
    refine e_aload_n aX8_fallen_8 rfl ?_
    refine e_iconst (v := 0) aX8_fallen_9 (by decide) ?_
    refine e_invvT aX8_fallen_10 kX8_62 (zfin X (k := 0) F (by decide)) rfl rfl (fx_is F rfl) (Nat.le_of_ble_eq_true rfl) (Nat.le_of_ble_eq_true rfl) (Nat.le_refl _) (Nat.le_refl _) (Nat.le_of_ble_eq_true rfl) ?_
    refine e_ireturn aX8_fallen_13 rfl (Nat.le_refl _) (Nat.le_refl _) ?_
    rw [if_pos q5]
    exact ⟨rfl, rfl⟩
theorem om_le {f : Nat} (h : f ≤ 4) : om f < 2 ^ 31 := by
  have : f = 0 ∨ f = 1 ∨ f = 2 ∨ f = 3 ∨ f = 4 := by omega
  rcases this with rfl | rfl | rfl | rfl | rfl <;> decide
/-- one number drawn from z -/
def dz (z : Int32) (a b : Nat) : Int32 := nI a + ((z.toUInt32 >>> ((8 : Int32).toUInt32 &&& Int32.toUInt32 31)).toInt32 - (z.toUInt32 >>> ((8 : Int32).toUInt32 &&& Int32.toUInt32 31)).toInt32 / nI b * nI b)
theorem zX8_clash (X : EX) {h : HP} (F : Fx h) (x : Int32) : Ct X mX8_clash 1 0 0 [vR (some 32), vI x] h (if x < 0 ∨ 3 ≤ x then RF h 0 else Rt (vI (hI h 75 x.toNatClampNeg)) h) := by
  refine ct_of rfl (Nat.le_of_ble_eq_true rfl) ?_
  refine e_iload_n aX8_clash_0 rfl ?_
  refine e_aload_n aX8_clash_1 rfl ?_
  refine e_getRF aX8_clash_2 fX8_46 rfl (fx_is F rfl) (fx_r (b := 75) F rfl) ?_
  refine e_alen (t := 13) aX8_clash_5 (fx_is F rfl) (Nat.le_of_ble_eq_true rfl) (Nat.le_of_ble_eq_true rfl) (by decide) ?_
  refine e_top (show nI (hN h 75) = 3 from congrArg nI (fx_n (a := 75) F rfl)) ?_
  refine e_invsT aX8_clash_6 kX8_58 (zX8_isOutside X _ _) rfl rfl (Nat.le_of_ble_eq_true rfl) (Nat.le_of_ble_eq_true rfl) (Nat.le_refl _) (Nat.le_refl _) (Nat.le_of_ble_eq_true rfl) ?_
  refine e_if_eq aX8_clash_9 (fun c9 => ?_) (fun c9 => ?_)
  · -- 9: taken
    have q9 := b2_0.mp c9
    obtain ⟨wz, hw, rfl⟩ := ou_of 3 (by decide) q9
    refine e_aload_n aX8_clash_20 rfl ?_
    refine e_getRF aX8_clash_21 fX8_46 rfl (fx_is F rfl) (fx_r (b := 75) F rfl) ?_
    refine e_iload_n aX8_clash_24 rfl ?_
    refine e_ialoadF aX8_clash_25 (fx_is F rfl) (fx_n (n := 3) F rfl) (vin hw) rfl ?_
    refine e_ireturn aX8_clash_26 rfl (Nat.le_refl _) (Nat.le_refl _) ?_
    rw [if_neg q9]
    exact ⟨rfl, rfl⟩
  · -- 9: not taken
    have q9 := Decidable.of_not_not (fun z => c9 (b2_0.mpr z))
    refine e_aload_n aX8_clash_12 rfl ?_
    refine e_iconst (v := 0) aX8_clash_13 (by decide) ?_
    refine e_invvT aX8_clash_14 kX8_62 (zfin X (k := 0) F (by decide)) rfl rfl (fx_is F rfl) (Nat.le_of_ble_eq_true rfl) (Nat.le_of_ble_eq_true rfl) (Nat.le_refl _) (Nat.le_refl _) (Nat.le_of_ble_eq_true rfl) ?_
    refine e_goto aX8_clash_17 ?_
    refine e_ireturn aX8_clash_26 rfl (Nat.le_refl _) (Nat.le_refl _) ?_
    rw [if_pos q9]
    exact ⟨rfl, rfl⟩
def fsum (h : HP) : Nat → Int32
  | 0 => 0
  | i + 1 => fsum h i + hI h 76 i
end
section
/-! contracts: counts, deals told (written by wip/p45/g23.py) -/
/-- how many, and the first, of a run -/
def cnW (P : Nat → Bool) (a : Nat) : Nat → Nat
  | 0 => 0
  | m + 1 => cnW P a m + (if P (a + m) = true then 1 else 0)
def frW (P : Nat → Bool) (a : Nat) : Nat → Option Nat
  | 0 => none
  | m + 1 => if P a = true then some a else frW P (a + 1) m
theorem cnW_le {P : Nat → Bool} {a : Nat} : ∀ m, cnW P a m ≤ m := by
  intro m
  induction m with
  | zero => exact Nat.le_refl _
  | succ m ih =>
    unfold cnW
    split <;> omega
theorem cnW_t {P : Nat → Bool} {a m : Nat} (z : P (a + m) = true) : cnW P a (m + 1) = cnW P a m + 1 := by
  show _ + _ = _
  rw [if_pos z]
theorem cnW_f {P : Nat → Bool} {a m : Nat} (z : P (a + m) = false) : cnW P a (m + 1) = cnW P a m := by
  show _ + _ = _
  rw [if_neg (by rw [z]; decide)]
  rfl
theorem sw_out {x v : Int32} {hi9 : Int} (hh : hi9 < v.toInt) (q : x < 0 ∨ v ≤ x) : x.toInt < 0 ∨ hi9 < x.toInt := by
  rcases q with z | z
  · left
    have := Int32.lt_iff_toInt_lt.mp z
    exact this
  · right
    have := Int32.le_iff_toInt_le.mp z
    omega
theorem frW_some {P : Nat → Bool} : ∀ {m a j : Nat}, frW P a m = some j → P j = true ∧ a ≤ j ∧ j < a + m := by
  intro m
  induction m with
  | zero => intro a j z; cases z
  | succ m ih =>
    intro a j z
    unfold frW at z
    split at z
    · cases z
      exact ⟨by assumption, Nat.le_refl _, by omega⟩
    · have := ih z
      exact ⟨this.1, by omega, by omega⟩
theorem opn_of {a b : Nat} {s : Int32} (hab : a ≤ b) (hb : b ≤ 1296) (h : nI a ≤ s ∧ s < nI b) : ∃ i, a ≤ i ∧ i < b ∧ s = nI i := by
  rcases pk_ix s (n := b) (by omega) with z | z | ⟨j, hj, rfl⟩
  · exact absurd (Int32.lt_of_le_of_lt h.1 z) (Int32.not_lt.mpr (nI_pos' (by omega)))
  · exact absurd h.2 (Int32.not_lt.mpr z)
  · exact ⟨j, (nI_leI (by omega) (by omega)).mp h.1, hj, rfl⟩
def dl (A : Nat → Nat) (n : Nat) (x : Int32) : Option Nat := if x < 0 ∨ nI n ≤ x then none else some (A x.toNatClampNeg)
theorem dl_none {A : Nat → Nat} {n : Nat} {x : Int32} (z : dl A n x = none) : x < 0 ∨ nI n ≤ x := by
  unfold dl at z
  split at z
  · assumption
  · cases z
theorem dl_some {A : Nat → Nat} {n r : Nat} {x : Int32} (hn : n ≤ 12) (z : dl A n x = some r) : ¬ (x < 0 ∨ nI n ≤ x) ∧ ∃ j, j < n ∧ x = nI j ∧ r = A j := by
  unfold dl at z
  split at z
  · cases z
  · rename_i hq
    refine ⟨hq, ?_⟩
    obtain ⟨j, hj, rfl⟩ := ou_of n (by omega) hq
    cases z
    exact ⟨j, hj, rfl, by rw [cl (by omega)]⟩
theorem zdl (X : EX) {h : HP} (F : Fx h) {n : Nat} {A : Nat → Nat} {D : Nat → DD} (b : BkD h n A D) (x : Int32) : Ct X mX0_dealAt 1 0 0 [vR (some 33), vI x] h (Rt (vR (dl A n x)) h) := by
  have e : dl A n x = if x < 0 ∨ nI n ≤ x then none else hR h 34 x.toNatClampNeg := by
    unfold dl
    split
    · rfl
    · rename_i hq
      obtain ⟨j, hj, rfl⟩ := ou_of n (by have := b.2.1; omega) hq
      have hn := b.2.1
      rw [cl (by omega)]
      exact (b.2.2 j hj).1.symm
  rw [e]
  exact zX0_dealAt X F b x
/-- a PICK, or the finding that there is none -/
def rO (h : HP) : Option Nat → Option VV → HP → Prop
  | none => RF h 3
  | some p => Rt (vI (nI p)) h
def hld (h : HP) : Nat := cnW (fun i => (hR h 74 i).isSome) 0 4
theorem zX8_countHeld (X : EX) {h : HP} (F : Fx h) : Ct X mX8_countHeld 0 0 0 [vR (some 32)] h (Rt (vI (nI (hld h))) h) := by
  refine ct_of rfl (Nat.le_of_ble_eq_true rfl) ?_
  have loop : ∀ (m : Nat) (k : Nat), k + m = 4 → Ev X mX8_countHeld 0 0 0 (Rt (vI (nI (hld h))) h) 0 0 4 [(0, some (vR (some 32))), (1, some (vI (nI (cnW (fun i => (hR h 74 i).isSome) 0 k)))), (2, some (vI (nI k)))] [] h := by
    intro m
    induction m with
    | zero =>
      intro k hk
      obtain rfl : k = 4 := by omega
      refine e_iload_n aX8_countHeld_4 rfl ?_
      refine e_iconst (v := 4) aX8_countHeld_5 (by decide) ?_
      refine e_icmp_ge aX8_countHeld_6 (fun c6 => ?_) (fun c6 => ?_)
      · -- 6: taken
        refine e_iload_n aX8_countHeld_27 rfl ?_
        refine e_ireturn aX8_countHeld_28 rfl (Nat.le_refl _) (Nat.le_refl _) ?_
        exact ⟨rfl, rfl⟩
      · -- 6: not taken
        exact absurd (nI_le (a := 4) (b := 4) (by decide) (by decide)) c6
    | succ m ih =>
      intro k hk
      refine e_iload_n aX8_countHeld_4 rfl ?_
      refine e_iconst (v := 4) aX8_countHeld_5 (by decide) ?_
      refine e_icmp_ge aX8_countHeld_6 (fun c6 => ?_) (fun c6 => ?_)
      · -- 6: taken
        exact absurd c6 (nI_ge (a := k) (b := 4) (by omega) (by decide))
      · -- 6: not taken
        refine e_aload_n aX8_countHeld_9 rfl ?_
        refine e_getRF aX8_countHeld_10 fX8_42 rfl (fx_is F rfl) (fx_r (b := 74) F rfl) ?_
        refine e_iload_n aX8_countHeld_13 rfl ?_
        refine e_aaloadF (t := 17) aX8_countHeld_14 (fx_is F rfl) (by decide) (by decide) (fx_n (n := 4) F rfl) (vin (N := 4) (by omega)) (show hR h 74 (nI k).toNatClampNeg = hR h 74 k by rw [cl (by omega)]) ?_
        refine e_ifnull aX8_countHeld_15 (fun c15 => ?_) (fun r15 c15 => ?_)
        · -- 15: taken
          have ck := cnW_f (P := fun i => (hR h 74 i).isSome) (a := 0) (m := k) (by rw [Nat.zero_add]; show (hR h 74 k).isSome = false; rw [c15]; rfl)
          refine e_iinc aX8_countHeld_21 rfl rfl (Nat.le_of_ble_eq_true rfl) ?_
          refine e_goto aX8_countHeld_24 ?_
          refine e_ls (ls' := [(0, some (vR (some 32))), (1, some (vI (nI (cnW (fun i => (hR h 74 i).isSome) 0 (k + 1))))), (2, some (vI (nI (k + 1))))]) ⟨rfl, congrArg (fun x => some (vI x)) (show nI (cnW (fun i => (hR h 74 i).isSome) 0 k) = nI (cnW (fun i => (hR h 74 i).isSome) 0 (k + 1)) by rw [ck]), congrArg (fun x => some (vI x)) (nI_1 k), trivial⟩ ?_
          exact ih (k + 1) (by omega)
        · -- 15: not taken
          have ck := cnW_t (P := fun i => (hR h 74 i).isSome) (a := 0) (m := k) (by rw [Nat.zero_add]; show (hR h 74 k).isSome = true; rw [c15]; rfl)
          refine e_iinc aX8_countHeld_18 rfl rfl (Nat.le_of_ble_eq_true rfl) ?_
          refine e_iinc aX8_countHeld_21 rfl rfl (Nat.le_of_ble_eq_true rfl) ?_
          refine e_goto aX8_countHeld_24 ?_
          refine e_ls (ls' := [(0, some (vR (some 32))), (1, some (vI (nI (cnW (fun i => (hR h 74 i).isSome) 0 (k + 1))))), (2, some (vI (nI (k + 1))))]) ⟨rfl, congrArg (fun x => some (vI x)) ((nI_1 (cnW (fun i => (hR h 74 i).isSome) 0 k)).trans (by rw [ck])), congrArg (fun x => some (vI x)) (nI_1 k), trivial⟩ ?_
          exact ih (k + 1) (by omega)
  refine e_iconst (v := 0) aX8_countHeld_0 (by decide) ?_
  refine e_istore_n aX8_countHeld_1 (Nat.le_of_ble_eq_true rfl) ?_
  refine e_iconst (v := 0) aX8_countHeld_2 (by decide) ?_
  refine e_istore_n aX8_countHeld_3 (Nat.le_of_ble_eq_true rfl) ?_
  refine e_ls (ls' := [(0, some (vR (some 32))), (1, some (vI (nI (cnW (fun i => (hR h 74 i).isSome) 0 0)))), (2, some (vI (nI 0)))]) ⟨rfl, rfl, rfl, trivial⟩ ?_
  exact loop 4 0 rfl
def cntV (h : HP) (f n : Nat) : Nat → Int32
  | 0 => nI n
  | 1 => nI f
  | 2 => nI (om f)
  | 3 => hI h 32 2
  | 4 => hI h 33 5
  | 5 => hI h 41 1
  | _ => nI (hld h)
theorem zX8_count (X : EX) {h : HP} (F : Fx h) {f n : Nat} {o : Nat → Nat} {A : Nat → Nat} {D : Nat → DD} (bf : BkF h f o) (b : BkD h n A D) (x : Int32) : Ct X mX8_count 1 0 0 [vR (some 32), vI x] h (if x < 0 ∨ nI 7 ≤ x then RF h 0 else Rt (vI (cntV h f n x.toNatClampNeg)) h) := by
  refine ct_of rfl (Nat.le_of_ble_eq_true rfl) ?_
  refine e_iload_n aX8_count_0 rfl ?_
  by_cases q1 : x < 0 ∨ nI 7 ≤ x
  rotate_left
  obtain ⟨iz, hi7, rfl⟩ := ou_of 7 (by decide) q1
  rw [if_neg q1, cl (by omega)]
  rcases (show iz = 0 ∨ iz = 1 ∨ iz = 2 ∨ iz = 3 ∨ iz = 4 ∨ iz = 5 ∨ iz = 6 by omega) with rfl | rfl | rfl | rfl | rfl | rfl | rfl
  rotate_left 7
  rw [if_pos q1]
  rotate_right 7
  · -- switch
    refine e_tableIn (tgt := 44) aX8_count_1 (by decide) (by decide) rfl (by decide) ?_
    refine e_aload_n aX8_count_44 rfl ?_
    refine e_getRF aX8_count_45 fX8_10 rfl (fx_is F rfl) (fx_r (b := 33) F rfl) ?_
    refine e_getIF aX8_count_48 fX8_101 rfl (fx_is F rfl) b.1 ?_
    refine e_ireturn aX8_count_51 rfl (Nat.le_refl _) (Nat.le_refl _) ?_
    exact ⟨rfl, rfl⟩
  · -- switch
    refine e_tableIn (tgt := 52) aX8_count_1 (by decide) (by decide) rfl (by decide) ?_
    refine e_aload_n aX8_count_52 rfl ?_
    refine e_getRF aX8_count_53 fX8_10 rfl (fx_is F rfl) (fx_r (b := 33) F rfl) ?_
    refine e_getIF aX8_count_56 fX8_73 rfl (fx_is F rfl) bf.1 ?_
    refine e_ireturn aX8_count_59 rfl (Nat.le_refl _) (Nat.le_refl _) ?_
    exact ⟨rfl, rfl⟩
  · -- switch
    refine e_tableIn (tgt := 60) aX8_count_1 (by decide) (by decide) rfl (by decide) ?_
    refine e_aload_n aX8_count_60 rfl ?_
    refine e_getRF aX8_count_61 fX8_10 rfl (fx_is F rfl) (fx_r (b := 33) F rfl) ?_
    refine e_invvT aX8_count_64 kX8_88 (zX0_openCount X F bf) rfl rfl (fx_is F rfl) (Nat.le_of_ble_eq_true rfl) (Nat.le_of_ble_eq_true rfl) (Nat.le_refl _) (Nat.le_refl _) (Nat.le_of_ble_eq_true rfl) ?_
    refine e_ireturn aX8_count_67 rfl (Nat.le_refl _) (Nat.le_refl _) ?_
    exact ⟨rfl, rfl⟩
  · -- switch
    refine e_tableIn (tgt := 68) aX8_count_1 (by decide) (by decide) rfl (by decide) ?_
    refine e_aload_n aX8_count_68 rfl ?_
    refine e_getI aX8_count_69 fX8_254 rfl (fx_is F rfl) ?_
    refine e_ireturn aX8_count_72 rfl (Nat.le_refl _) (Nat.le_refl _) ?_
    exact ⟨rfl, rfl⟩
  · -- switch
    refine e_tableIn (tgt := 73) aX8_count_1 (by decide) (by decide) rfl (by decide) ?_
    refine e_aload_n aX8_count_73 rfl ?_
    refine e_getRF aX8_count_74 fX8_10 rfl (fx_is F rfl) (fx_r (b := 33) F rfl) ?_
    refine e_getI aX8_count_77 fX8_80 rfl (fx_is F rfl) ?_
    refine e_ireturn aX8_count_80 rfl (Nat.le_refl _) (Nat.le_refl _) ?_
    exact ⟨rfl, rfl⟩
  · -- switch
    refine e_tableIn (tgt := 81) aX8_count_1 (by decide) (by decide) rfl (by decide) ?_
    refine e_aload_n aX8_count_81 rfl ?_
    refine e_getRF aX8_count_82 fX8_30 rfl (fx_is F rfl) (fx_r (b := 40) F rfl) ?_
    refine e_getRF aX8_count_85 fX8_108 rfl (fx_is F rfl) (fx_r (b := 41) F rfl) ?_
    refine e_getI aX8_count_88 fX8_112 rfl (fx_is F rfl) ?_
    refine e_ireturn aX8_count_91 rfl (Nat.le_refl _) (Nat.le_refl _) ?_
    exact ⟨rfl, rfl⟩
  · -- switch
    refine e_tableIn (tgt := 92) aX8_count_1 (by decide) (by decide) rfl (by decide) ?_
    refine e_aload_n aX8_count_92 rfl ?_
    refine e_invvT aX8_count_93 kX8_260 (zX8_countHeld X F) rfl rfl (fx_is F rfl) (Nat.le_of_ble_eq_true rfl) (Nat.le_of_ble_eq_true rfl) (Nat.le_refl _) (Nat.le_refl _) (Nat.le_of_ble_eq_true rfl) ?_
    refine e_ireturn aX8_count_96 rfl (Nat.le_refl _) (Nat.le_refl _) ?_
    exact ⟨rfl, rfl⟩
  · -- switch
    refine e_tableOut (tgt := 97) aX8_count_1 (sw_out (v := nI 7) (by decide) q1) (by decide) ?_
    refine e_aload_n aX8_count_97 rfl ?_
    refine e_iconst (v := 0) aX8_count_98 (by decide) ?_
    refine e_invvT aX8_count_99 kX8_62 (zfin X (k := 0) F (by decide)) rfl rfl (fx_is F rfl) (Nat.le_of_ble_eq_true rfl) (Nat.le_of_ble_eq_true rfl) (Nat.le_refl _) (Nat.le_refl _) (Nat.le_of_ble_eq_true rfl) ?_
    refine e_ireturn aX8_count_102 rfl (Nat.le_refl _) (Nat.le_refl _) ?_
    exact ⟨rfl, rfl⟩
theorem zX8_owner (X : EX) {h : HP} (F : Fx h) {f : Nat} {o : Nat → Nat} (bf : BkF h f o) (x y : Int32) : Ct X mX8_owner 3 0 0 [vR (some 32), vI x, vI y] h (if nI (fo o f) ≤ x ∧ x < nI (fo o f + om f) then if y < 0 ∨ 12 ≤ y then RF h 0 else Rt (vI (dgt (hI h 39 x.toNatClampNeg) y.toNatClampNeg)) h else RF h 0) := by
  refine ct_of rfl (Nat.le_of_ble_eq_true rfl) ?_
  have hb6 := om_fo bf.2.1 bf.2.2.2
  refine e_aload_n aX8_owner_0 rfl ?_
  refine e_getRF aX8_owner_1 fX8_10 rfl (fx_is F rfl) (fx_r (b := 33) F rfl) ?_
  refine e_iload_n aX8_owner_4 rfl ?_
  refine e_invvT aX8_owner_5 kX8_169 (zX0_isOpen X F bf _) rfl rfl (fx_is F rfl) (Nat.le_of_ble_eq_true rfl) (Nat.le_of_ble_eq_true rfl) (Nat.le_refl _) (Nat.le_refl _) (Nat.le_of_ble_eq_true rfl) ?_
  refine e_if_eq aX8_owner_8 (fun c8 => ?_) (fun c8 => ?_)
  · -- 8: taken
    have q8 := b2_0.mp c8
    refine e_aload_n aX8_owner_20 rfl ?_
    refine e_iconst (v := 0) aX8_owner_21 (by decide) ?_
    refine e_invvT aX8_owner_22 kX8_62 (zfin X (k := 0) F (by decide)) rfl rfl (fx_is F rfl) (Nat.le_of_ble_eq_true rfl) (Nat.le_of_ble_eq_true rfl) (Nat.le_refl _) (Nat.le_refl _) (Nat.le_of_ble_eq_true rfl) ?_
    refine e_ireturn aX8_owner_25 rfl (Nat.le_refl _) (Nat.le_refl _) ?_
    rw [if_neg q8]
    exact ⟨rfl, rfl⟩
  · -- 8: not taken
    have q8 := Decidable.of_not_not (fun z => c8 (b2_0.mpr z))
    obtain ⟨sz, hs1, hs2, rfl⟩ := opn_of (Nat.le_add_right _ _) hb6 q8
    refine e_iload_n aX8_owner_11 rfl ?_
    refine e_bipush (v := 12) aX8_owner_12 (by decide) ?_
    refine e_invsT aX8_owner_14 kX8_58 (zX8_isOutside X _ _) rfl rfl (Nat.le_of_ble_eq_true rfl) (Nat.le_of_ble_eq_true rfl) (Nat.le_refl _) (Nat.le_refl _) (Nat.le_of_ble_eq_true rfl) ?_
    refine e_if_eq aX8_owner_17 (fun c17 => ?_) (fun c17 => ?_)
    · -- 17: taken
      have q17 := b2_0.mp c17
      obtain ⟨pz, hp, rfl⟩ := ou_of 12 (by decide) q17
      refine e_aload_n aX8_owner_26 rfl ?_
      refine e_getRF aX8_owner_27 fX8_23 rfl (fx_is F rfl) (fx_r (b := 38) F rfl) ?_
      refine e_iload_n aX8_owner_30 rfl ?_
      refine e_iload_n aX8_owner_31 rfl ?_
      refine e_invvT aX8_owner_32 kX8_172 (zX2_at X F (s := sz) (by omega) hp) rfl rfl (fx_is F rfl) (Nat.le_of_ble_eq_true rfl) (Nat.le_of_ble_eq_true rfl) (Nat.le_refl _) (Nat.le_refl _) (Nat.le_of_ble_eq_true rfl) ?_
      refine e_ireturn aX8_owner_35 rfl (Nat.le_refl _) (Nat.le_refl _) ?_
      rw [if_pos q8, if_neg q17, cl (by omega), cl (by omega)]
      exact ⟨rfl, rfl⟩
    · -- 17: not taken
      have q17 := Decidable.of_not_not (fun z => c17 (b2_0.mpr z))
      refine e_aload_n aX8_owner_20 rfl ?_
      refine e_iconst (v := 0) aX8_owner_21 (by decide) ?_
      refine e_invvT aX8_owner_22 kX8_62 (zfin X (k := 0) F (by decide)) rfl rfl (fx_is F rfl) (Nat.le_of_ble_eq_true rfl) (Nat.le_of_ble_eq_true rfl) (Nat.le_refl _) (Nat.le_refl _) (Nat.le_of_ble_eq_true rfl) ?_
      refine e_ireturn aX8_owner_25 rfl (Nat.le_refl _) (Nat.le_refl _) ?_
      rw [if_pos q8, if_pos q17]
      exact ⟨rfl, rfl⟩
end
section
/-! contracts: runs over standings (written by wip/p45/g24.py) -/
def gvS (d : DD) (s : Nat) : Bool := (gv d s).isSome
theorem oI_neg {q : Option Nat} (hb : ∀ p, q = some p → p < 1073741824) : oI q < 0 ↔ q = none := by
  cases q with
  | none => exact ⟨fun _ => rfl, fun _ => by decide⟩
  | some p => exact ⟨fun z => absurd z (Int32.not_lt.mpr (nI_pos' (by have := hb p rfl; omega))), fun z => by cases z⟩
theorem zX8_countConveying (X : EX) {h : HP} (F : Fx h) {f : Nat} {o : Nat → Nat} (bf : BkF h f o) {a : Nat} {d : DD} (kd : DealC h a d) : Ct X mX8_countConveying 2 0 0 [vR (some 32), vR (some a)] h (Rt (vI (nI (cnW (gvS d) (fo o f) (om f)))) h) := by
  refine ct_of rfl (Nat.le_of_ble_eq_true rfl) ?_
  have hb6 := om_fo bf.2.1 bf.2.2.2
  have loop : ∀ (m : Nat) (k : Nat), k + m = om f → Ev X mX8_countConveying 2 0 0 (Rt (vI (nI (cnW (gvS d) (fo o f) (om f)))) h) 0 0 19 [(0, some (vR (some 32))), (1, some (vR (some a))), (2, some (vI (nI (cnW (gvS d) (fo o f) k)))), (3, some (vI (nI (fo o f + om f)))), (4, some (vI (nI (fo o f + k))))] [] h := by
    intro m
    induction m with
    | zero =>
      intro k hk
      obtain rfl : k = om f := by omega
      refine e_iload aX8_countConveying_19 rfl ?_
      refine e_iload_n aX8_countConveying_21 rfl ?_
      refine e_icmp_ge aX8_countConveying_22 (fun c22 => ?_) (fun c22 => ?_)
      · -- 22: taken
        refine e_iload_n aX8_countConveying_43 rfl ?_
        refine e_ireturn aX8_countConveying_44 rfl (Nat.le_refl _) (Nat.le_refl _) ?_
        exact ⟨rfl, rfl⟩
      · -- 22: not taken
        exact absurd (nI_le (by omega) (by omega)) c22
    | succ m ih =>
      intro k hk
      have hgb : ∀ p, gv d (fo o f + k) = some p → p < 1073741824 := fun p q => by have := (gv_ok kd.2.2.1 q).1; omega
      refine e_iload aX8_countConveying_19 rfl ?_
      refine e_iload_n aX8_countConveying_21 rfl ?_
      refine e_icmp_ge aX8_countConveying_22 (fun c22 => ?_) (fun c22 => ?_)
      · -- 22: taken
        exact absurd c22 (nI_ge (by omega) (by omega))
      · -- 22: not taken
        refine e_aload_n aX8_countConveying_25 rfl ?_
        refine e_iload aX8_countConveying_26 rfl ?_
        refine e_invvT aX8_countConveying_28 kX8_160 (zX1_gives X kd (s := fo o f + k) (by omega)) rfl rfl kd.2.1 (Nat.le_of_ble_eq_true rfl) (Nat.le_of_ble_eq_true rfl) (Nat.le_refl _) (Nat.le_refl _) (Nat.le_of_ble_eq_true rfl) ?_
        refine e_if_lt aX8_countConveying_31 (fun c31 => ?_) (fun c31 => ?_)
        · -- 31: taken
          have q31 := (oI_neg (q := gv d (fo o f + k)) hgb).mp c31
          refine e_iinc aX8_countConveying_37 rfl rfl (Nat.le_of_ble_eq_true rfl) ?_
          refine e_goto aX8_countConveying_40 ?_
          refine e_ls (ls' := [(0, some (vR (some 32))), (1, some (vR (some a))), (2, some (vI (nI (cnW (gvS d) (fo o f) (k + 1))))), (3, some (vI (nI (fo o f + om f)))), (4, some (vI (nI (fo o f + (k + 1)))))]) ⟨rfl, rfl, congrArg (fun x => some (vI x)) (congrArg nI (cnW_f (P := gvS d) (a := fo o f) (m := k) (by unfold gvS; rw [q31]; rfl)).symm), rfl, congrArg (fun x => some (vI x)) (nI_1 (fo o f + k)), trivial⟩ ?_
          exact ih (k + 1) (by omega)
        · -- 31: not taken
          have q31 := (not_congr (oI_neg (q := gv d (fo o f + k)) hgb)).mp (Int32.not_lt.mpr (Int32.not_lt.mp c31))
          refine e_iinc aX8_countConveying_34 rfl rfl (Nat.le_of_ble_eq_true rfl) ?_
          refine e_iinc aX8_countConveying_37 rfl rfl (Nat.le_of_ble_eq_true rfl) ?_
          refine e_goto aX8_countConveying_40 ?_
          refine e_ls (ls' := [(0, some (vR (some 32))), (1, some (vR (some a))), (2, some (vI (nI (cnW (gvS d) (fo o f) (k + 1))))), (3, some (vI (nI (fo o f + om f)))), (4, some (vI (nI (fo o f + (k + 1)))))]) ⟨rfl, rfl, congrArg (fun x => some (vI x)) ((nI_1 _).trans (congrArg nI (cnW_t (P := gvS d) (a := fo o f) (m := k) (by unfold gvS; exact Option.isSome_iff_ne_none.mpr q31)).symm)), rfl, congrArg (fun x => some (vI x)) (nI_1 (fo o f + k)), trivial⟩ ?_
          exact ih (k + 1) (by omega)
  refine e_iconst (v := 0) aX8_countConveying_0 (by decide) ?_
  refine e_istore_n aX8_countConveying_1 (Nat.le_of_ble_eq_true rfl) ?_
  refine e_aload_n aX8_countConveying_2 rfl ?_
  refine e_getRF aX8_countConveying_3 fX8_10 rfl (fx_is F rfl) (fx_r (b := 33) F rfl) ?_
  refine e_invvT aX8_countConveying_6 kX8_181 (zX0_endOpen X F bf) rfl rfl (fx_is F rfl) (Nat.le_of_ble_eq_true rfl) (Nat.le_of_ble_eq_true rfl) (Nat.le_refl _) (Nat.le_refl _) (Nat.le_of_ble_eq_true rfl) ?_
  refine e_istore_n aX8_countConveying_9 (Nat.le_of_ble_eq_true rfl) ?_
  refine e_aload_n aX8_countConveying_10 rfl ?_
  refine e_getRF aX8_countConveying_11 fX8_10 rfl (fx_is F rfl) (fx_r (b := 33) F rfl) ?_
  refine e_invvT aX8_countConveying_14 kX8_84 (zX0_firstOpen X F bf) rfl rfl (fx_is F rfl) (Nat.le_of_ble_eq_true rfl) (Nat.le_of_ble_eq_true rfl) (Nat.le_refl _) (Nat.le_refl _) (Nat.le_of_ble_eq_true rfl) ?_
  refine e_istore aX8_countConveying_17 (Nat.le_of_ble_eq_true rfl) ?_
  refine e_ls (ls' := [(0, some (vR (some 32))), (1, some (vR (some a))), (2, some (vI (nI (cnW (gvS d) (fo o f) 0)))), (3, some (vI (nI (fo o f + om f)))), (4, some (vI (nI (fo o f + 0))))]) ⟨rfl, rfl, rfl, rfl, rfl, trivial⟩ ?_
  exact loop (om f) 0 (by omega)
theorem zX8_conveys (X : EX) {h : HP} (F : Fx h) {n : Nat} {A : Nat → Nat} {D : Nat → DD} (b : BkD h n A D) (x y w : Int32) : Ct X mX8_conveys 3 0 0 [vR (some 32), vI x, vI y, vI w] h (if x < 0 ∨ nI n ≤ x then RF h 0 else if y < 0 ∨ 1296 ≤ y then RF h 0 else if w < 0 ∨ 2 ≤ w then RF h 0 else rO h (if w = 0 then gv (D x.toNatClampNeg) y.toNatClampNeg else gb (D x.toNatClampNeg) y.toNatClampNeg)) := by
  refine ct_of rfl (Nat.le_of_ble_eq_true rfl) ?_
  have hn12 := b.2.1
  refine e_aload_n aX8_conveys_0 rfl ?_
  refine e_getRF aX8_conveys_1 fX8_10 rfl (fx_is F rfl) (fx_r (b := 33) F rfl) ?_
  refine e_iload_n aX8_conveys_4 rfl ?_
  refine e_invvT aX8_conveys_5 kX8_128 (zdl X F b x) rfl rfl (fx_is F rfl) (Nat.le_of_ble_eq_true rfl) (Nat.le_of_ble_eq_true rfl) (Nat.le_refl _) (Nat.le_refl _) (Nat.le_of_ble_eq_true rfl) ?_
  refine e_astore aX8_conveys_8 (Nat.le_of_ble_eq_true rfl) ?_
  refine e_aload aX8_conveys_10 rfl ?_
  refine e_ifnull aX8_conveys_12 (fun c12 => ?_) (fun r12 c12 => ?_)
  · -- 12: taken
    have q12 := dl_none c12
    refine e_aload_n aX8_conveys_33 rfl ?_
    refine e_iconst (v := 0) aX8_conveys_34 (by decide) ?_
    refine e_invvT aX8_conveys_35 kX8_62 (zfin X (k := 0) F (by decide)) rfl rfl (fx_is F rfl) (Nat.le_of_ble_eq_true rfl) (Nat.le_of_ble_eq_true rfl) (Nat.le_refl _) (Nat.le_refl _) (Nat.le_of_ble_eq_true rfl) ?_
    refine e_ireturn aX8_conveys_38 rfl (Nat.le_refl _) (Nat.le_refl _) ?_
    rw [if_pos q12]
    exact ⟨rfl, rfl⟩
  · -- 12: not taken
    rw [c12]
    obtain ⟨q12, kz, hk, rfl, rfl⟩ := dl_some hn12 c12
    refine e_iload_n aX8_conveys_15 rfl ?_
    refine e_sipush (v := 1296) aX8_conveys_16 (by decide) ?_
    refine e_invsT aX8_conveys_19 kX8_58 (zX8_isOutside X _ _) rfl rfl (Nat.le_of_ble_eq_true rfl) (Nat.le_of_ble_eq_true rfl) (Nat.le_refl _) (Nat.le_refl _) (Nat.le_of_ble_eq_true rfl) ?_
    refine e_if_ne aX8_conveys_22 (fun c22 => ?_) (fun c22 => ?_)
    · -- 22: taken
      have q22 := Decidable.of_not_not (fun z => c22 (b2_0.mpr z))
      refine e_aload_n aX8_conveys_33 rfl ?_
      refine e_iconst (v := 0) aX8_conveys_34 (by decide) ?_
      refine e_invvT aX8_conveys_35 kX8_62 (zfin X (k := 0) F (by decide)) rfl rfl (fx_is F rfl) (Nat.le_of_ble_eq_true rfl) (Nat.le_of_ble_eq_true rfl) (Nat.le_refl _) (Nat.le_refl _) (Nat.le_of_ble_eq_true rfl) ?_
      refine e_ireturn aX8_conveys_38 rfl (Nat.le_refl _) (Nat.le_refl _) ?_
      rw [if_neg q12, if_pos q22]
      exact ⟨rfl, rfl⟩
    · -- 22: not taken
      have q22 := b2_0.mp c22
      obtain ⟨sz, hs, rfl⟩ := ou_of 1296 (by decide) q22
      refine e_iload_n aX8_conveys_25 rfl ?_
      refine e_iconst (v := 2) aX8_conveys_26 (by decide) ?_
      refine e_invsT aX8_conveys_27 kX8_58 (zX8_isOutside X _ _) rfl rfl (Nat.le_of_ble_eq_true rfl) (Nat.le_of_ble_eq_true rfl) (Nat.le_refl _) (Nat.le_refl _) (Nat.le_of_ble_eq_true rfl) ?_
      refine e_if_eq aX8_conveys_30 (fun c30 => ?_) (fun c30 => ?_)
      · -- 30: taken
        have q30 := b2_0.mp c30
        have wf := (b.2.2 kz hk).2.2.2.1
        have hgv : ∀ p, gv (D kz) sz = some p → p < 1073741824 := fun p q => by have := (gv_ok wf q).1; omega
        have hgb : ∀ p, gb (D kz) sz = some p → p < 1073741824 := fun p q => by have := (gb_ok wf q).1; omega
        refine e_iload_n aX8_conveys_39 rfl ?_
        refine e_if_ne aX8_conveys_40 (fun c40 => ?_) (fun c40 => ?_)
        · -- 40: taken
          have q40 : ¬ w = 0 := c40
          refine e_aload aX8_conveys_52 rfl ?_
          refine e_iload_n aX8_conveys_54 rfl ?_
          refine e_invvT aX8_conveys_55 kX8_163 (zX1_getsBack X (b.2.2 kz hk).2 hs) rfl rfl (b.2.2 kz hk).2.2.1 (Nat.le_of_ble_eq_true rfl) (Nat.le_of_ble_eq_true rfl) (Nat.le_refl _) (Nat.le_refl _) (Nat.le_of_ble_eq_true rfl) ?_
          refine e_istore aX8_conveys_58 (Nat.le_of_ble_eq_true rfl) ?_
          refine e_iload aX8_conveys_60 rfl ?_
          refine e_if_ge aX8_conveys_62 (fun c62 => ?_) (fun c62 => ?_)
          · -- 62: taken
            have q62 := (not_congr (oI_neg (q := gb (D kz) sz) hgb)).mp (Int32.not_lt.mpr c62)
            obtain ⟨pz, q63⟩ := Option.ne_none_iff_exists'.mp q62
            refine e_iload aX8_conveys_73 rfl ?_
            refine e_ireturn aX8_conveys_75 rfl (Nat.le_refl _) (Nat.le_refl _) ?_
            rw [if_neg q12, if_neg q22, if_neg q30, cl (by omega), cl (by omega), if_neg q40, q63]
            exact ⟨rfl, rfl⟩
          · -- 62: not taken
            have q62 := (oI_neg (q := gb (D kz) sz) hgb).mp (Int32.not_le.mp c62)
            refine e_aload_n aX8_conveys_65 rfl ?_
            refine e_iconst (v := 3) aX8_conveys_66 (by decide) ?_
            refine e_invvT aX8_conveys_67 kX8_62 (zfin X (k := 3) F (by decide)) rfl rfl (fx_is F rfl) (Nat.le_of_ble_eq_true rfl) (Nat.le_of_ble_eq_true rfl) (Nat.le_refl _) (Nat.le_refl _) (Nat.le_of_ble_eq_true rfl) ?_
            refine e_goto aX8_conveys_70 ?_
            refine e_ireturn aX8_conveys_75 rfl (Nat.le_refl _) (Nat.le_refl _) ?_
            rw [if_neg q12, if_neg q22, if_neg q30, cl (by omega), cl (by omega), if_neg q40, q62]
            exact ⟨rfl, rfl⟩
        · -- 40: not taken
          have q40 : w = 0 := c40
          refine e_aload aX8_conveys_43 rfl ?_
          refine e_iload_n aX8_conveys_45 rfl ?_
          refine e_invvT aX8_conveys_46 kX8_160 (zX1_gives X (b.2.2 kz hk).2 hs) rfl rfl (b.2.2 kz hk).2.2.1 (Nat.le_of_ble_eq_true rfl) (Nat.le_of_ble_eq_true rfl) (Nat.le_refl _) (Nat.le_refl _) (Nat.le_of_ble_eq_true rfl) ?_
          refine e_goto aX8_conveys_49 ?_
          refine e_istore aX8_conveys_58 (Nat.le_of_ble_eq_true rfl) ?_
          refine e_iload aX8_conveys_60 rfl ?_
          refine e_if_ge aX8_conveys_62 (fun c62 => ?_) (fun c62 => ?_)
          · -- 62: taken
            have q62 := (not_congr (oI_neg (q := gv (D kz) sz) hgv)).mp (Int32.not_lt.mpr c62)
            obtain ⟨pz, q63⟩ := Option.ne_none_iff_exists'.mp q62
            refine e_iload aX8_conveys_73 rfl ?_
            refine e_ireturn aX8_conveys_75 rfl (Nat.le_refl _) (Nat.le_refl _) ?_
            rw [if_neg q12, if_neg q22, if_neg q30, cl (by omega), cl (by omega), if_pos q40, q63]
            exact ⟨rfl, rfl⟩
          · -- 62: not taken
            have q62 := (oI_neg (q := gv (D kz) sz) hgv).mp (Int32.not_le.mp c62)
            refine e_aload_n aX8_conveys_65 rfl ?_
            refine e_iconst (v := 3) aX8_conveys_66 (by decide) ?_
            refine e_invvT aX8_conveys_67 kX8_62 (zfin X (k := 3) F (by decide)) rfl rfl (fx_is F rfl) (Nat.le_of_ble_eq_true rfl) (Nat.le_of_ble_eq_true rfl) (Nat.le_refl _) (Nat.le_refl _) (Nat.le_of_ble_eq_true rfl) ?_
            refine e_goto aX8_conveys_70 ?_
            refine e_ireturn aX8_conveys_75 rfl (Nat.le_refl _) (Nat.le_refl _) ?_
            rw [if_neg q12, if_neg q22, if_neg q30, cl (by omega), cl (by omega), if_pos q40, q62]
            exact ⟨rfl, rfl⟩
      · -- 30: not taken
        have q30 := Decidable.of_not_not (fun z => c30 (b2_0.mpr z))
        refine e_aload_n aX8_conveys_33 rfl ?_
        refine e_iconst (v := 0) aX8_conveys_34 (by decide) ?_
        refine e_invvT aX8_conveys_35 kX8_62 (zfin X (k := 0) F (by decide)) rfl rfl (fx_is F rfl) (Nat.le_of_ble_eq_true rfl) (Nat.le_of_ble_eq_true rfl) (Nat.le_refl _) (Nat.le_refl _) (Nat.le_of_ble_eq_true rfl) ?_
        refine e_ireturn aX8_conveys_38 rfl (Nat.le_refl _) (Nat.le_refl _) ?_
        rw [if_neg q12, if_neg q22, if_pos q30]
        exact ⟨rfl, rfl⟩
def ofV (d : DD) (a m : Nat) : Nat → Int32
  | 0 => nI (dK d)
  | 1 => nI (dF d)
  | 2 => nI (dT d)
  | 3 => nI (dP d)
  | 4 => oI (dO d)
  | 5 => nI (dN d)
  | 6 => b2 (dC d = true)
  | _ => nI (cnW (gvS d) a m)
theorem zX8_of (X : EX) {h : HP} (F : Fx h) {f n : Nat} {o : Nat → Nat} {A : Nat → Nat} {D : Nat → DD} (bf : BkF h f o) (b : BkD h n A D) (x y : Int32) : Ct X mX8_of 3 0 0 [vR (some 32), vI x, vI y] h (if x < 0 ∨ nI n ≤ x then RF h 0 else if y < 0 ∨ nI 8 ≤ y then RF h 0 else Rt (vI (ofV (D x.toNatClampNeg) (fo o f) (om f) y.toNatClampNeg)) h) := by
  refine ct_of rfl (Nat.le_of_ble_eq_true rfl) ?_
  have hn12 := b.2.1
  refine e_aload_n aX8_of_0 rfl ?_
  refine e_getRF aX8_of_1 fX8_10 rfl (fx_is F rfl) (fx_r (b := 33) F rfl) ?_
  refine e_iload_n aX8_of_4 rfl ?_
  refine e_invvT aX8_of_5 kX8_128 (zdl X F b x) rfl rfl (fx_is F rfl) (Nat.le_of_ble_eq_true rfl) (Nat.le_of_ble_eq_true rfl) (Nat.le_refl _) (Nat.le_refl _) (Nat.le_of_ble_eq_true rfl) ?_
  refine e_astore_n aX8_of_8 (Nat.le_of_ble_eq_true rfl) ?_
  refine e_aload_n aX8_of_9 rfl ?_
  refine e_ifnonnull aX8_of_10 (fun r10 c10 => ?_) (fun c10 => ?_)
  · -- 10: taken
    rw [c10]
    obtain ⟨q10, kz, hk, rfl, rfl⟩ := dl_some hn12 c10
    refine e_iload_n aX8_of_19 rfl ?_
    have kd := (b.2.2 kz hk).2
    obtain ⟨k134, kI9, wf9, e0, e1, e2, e3, e4, e5, e6⟩ := id kd
    rw [if_neg q10]
    by_cases q1 : y < 0 ∨ nI 8 ≤ y
    rotate_left
    obtain ⟨iz, hi8, rfl⟩ := ou_of 8 (by decide) q1
    rw [if_neg q1, cl (n := iz) (by omega), cl (by omega)]
    rcases (show iz = 0 ∨ iz = 1 ∨ iz = 2 ∨ iz = 3 ∨ iz = 4 ∨ iz = 5 ∨ iz = 6 ∨ iz = 7 by omega) with rfl | rfl | rfl | rfl | rfl | rfl | rfl | rfl
    rotate_left 8
    rw [if_pos q1]
    rotate_right 8
    · -- switch
      refine e_tableIn (tgt := 68) aX8_of_20 (by decide) (by decide) rfl (by decide) ?_
      refine e_aload_n aX8_of_68 rfl ?_
      refine e_getIF aX8_of_69 fX8_131 rfl kI9 e0 ?_
      refine e_ireturn aX8_of_72 rfl (Nat.le_refl _) (Nat.le_refl _) ?_
      exact ⟨rfl, rfl⟩
    · -- switch
      refine e_tableIn (tgt := 73) aX8_of_20 (by decide) (by decide) rfl (by decide) ?_
      refine e_aload_n aX8_of_73 rfl ?_
      refine e_getIF aX8_of_74 fX8_134 rfl kI9 e1 ?_
      refine e_ireturn aX8_of_77 rfl (Nat.le_refl _) (Nat.le_refl _) ?_
      exact ⟨rfl, rfl⟩
    · -- switch
      refine e_tableIn (tgt := 78) aX8_of_20 (by decide) (by decide) rfl (by decide) ?_
      refine e_aload_n aX8_of_78 rfl ?_
      refine e_getIF aX8_of_79 fX8_137 rfl kI9 e2 ?_
      refine e_ireturn aX8_of_82 rfl (Nat.le_refl _) (Nat.le_refl _) ?_
      exact ⟨rfl, rfl⟩
    · -- switch
      refine e_tableIn (tgt := 83) aX8_of_20 (by decide) (by decide) rfl (by decide) ?_
      refine e_aload_n aX8_of_83 rfl ?_
      refine e_getIF aX8_of_84 fX8_140 rfl kI9 e3 ?_
      refine e_ireturn aX8_of_87 rfl (Nat.le_refl _) (Nat.le_refl _) ?_
      exact ⟨rfl, rfl⟩
    · -- switch
      refine e_tableIn (tgt := 88) aX8_of_20 (by decide) (by decide) rfl (by decide) ?_
      refine e_aload_n aX8_of_88 rfl ?_
      refine e_getIF aX8_of_89 fX8_143 rfl kI9 e4 ?_
      refine e_ireturn aX8_of_92 rfl (Nat.le_refl _) (Nat.le_refl _) ?_
      exact ⟨rfl, rfl⟩
    · -- switch
      refine e_tableIn (tgt := 93) aX8_of_20 (by decide) (by decide) rfl (by decide) ?_
      refine e_aload_n aX8_of_93 rfl ?_
      refine e_getIF aX8_of_94 fX8_146 rfl kI9 e5 ?_
      refine e_ireturn aX8_of_97 rfl (Nat.le_refl _) (Nat.le_refl _) ?_
      exact ⟨rfl, rfl⟩
    · -- switch
      refine e_tableIn (tgt := 98) aX8_of_20 (by decide) (by decide) rfl (by decide) ?_
      refine e_aload_n aX8_of_98 rfl ?_
      refine e_getR aX8_of_99 fX8_149 rfl kI9 ?_
      refine e_ifnull aX8_of_102 (fun c102 => ?_) (fun r102 c102 => ?_)
      · -- 102: taken
        rcases e6 with e6 | e6
        rotate_left
        obtain ⟨-, sb9, e7, -⟩ := e6
        rw [e7] at c102
        cases c102
        refine e_iconst (v := 0) aX8_of_109 (by decide) ?_
        refine e_ireturn aX8_of_110 rfl (Nat.le_refl _) (Nat.le_refl _) ?_
        exact ⟨by show _ = some (vI (b2 (dC (D kz) = true))); rw [b2_f (by rw [e6.1]; decide)], rfl⟩
      · -- 102: not taken
        rcases e6 with e6 | e6
        rw [e6.2] at c102
        cases c102
        refine e_iconst (v := 1) aX8_of_105 (by decide) ?_
        refine e_goto aX8_of_106 ?_
        refine e_ireturn aX8_of_110 rfl (Nat.le_refl _) (Nat.le_refl _) ?_
        exact ⟨by show _ = some (vI (b2 (dC (D kz) = true))); rw [b2_t (by rw [e6.1])], rfl⟩
    · -- switch
      refine e_tableIn (tgt := 111) aX8_of_20 (by decide) (by decide) rfl (by decide) ?_
      refine e_aload_n aX8_of_111 rfl ?_
      refine e_aload_n aX8_of_112 rfl ?_
      refine e_invvT aX8_of_113 kX8_153 (zX8_countConveying X F bf kd) rfl rfl (fx_is F rfl) (Nat.le_of_ble_eq_true rfl) (Nat.le_of_ble_eq_true rfl) (Nat.le_refl _) (Nat.le_refl _) (Nat.le_of_ble_eq_true rfl) ?_
      refine e_ireturn aX8_of_116 rfl (Nat.le_refl _) (Nat.le_refl _) ?_
      exact ⟨rfl, rfl⟩
    · -- switch
      refine e_tableOut (tgt := 117) aX8_of_20 (sw_out (v := nI 8) (by decide) q1) (by decide) ?_
      refine e_aload_n aX8_of_117 rfl ?_
      refine e_iconst (v := 0) aX8_of_118 (by decide) ?_
      refine e_invvT aX8_of_119 kX8_62 (zfin X (k := 0) F (by decide)) rfl rfl (fx_is F rfl) (Nat.le_of_ble_eq_true rfl) (Nat.le_of_ble_eq_true rfl) (Nat.le_refl _) (Nat.le_refl _) (Nat.le_of_ble_eq_true rfl) ?_
      refine e_ireturn aX8_of_122 rfl (Nat.le_refl _) (Nat.le_refl _) ?_
      exact ⟨rfl, rfl⟩
  · -- 10: not taken
    have q10 := dl_none c10
    refine e_aload_n aX8_of_13 rfl ?_
    refine e_iconst (v := 0) aX8_of_14 (by decide) ?_
    refine e_invvT aX8_of_15 kX8_62 (zfin X (k := 0) F (by decide)) rfl rfl (fx_is F rfl) (Nat.le_of_ble_eq_true rfl) (Nat.le_of_ble_eq_true rfl) (Nat.le_refl _) (Nat.le_refl _) (Nat.le_of_ble_eq_true rfl) ?_
    refine e_ireturn aX8_of_18 rfl (Nat.le_refl _) (Nat.le_refl _) ?_
    rw [if_pos q10]
    exact ⟨rfl, rfl⟩
theorem nI_pred9 {n : Nat} (z : 1 ≤ n) : nI n - 1 = nI (n - 1) := nI_subN z
/-- the heap behind a settling: rows of the OPEN STANDINGS hold OWNERS -/
def setH (h : HP) (f n : Nat) (o : Nat → Nat) (D : Nat → DD) (h' : HP) : Prop := ∃ r, h' = rwR h r ∧ ∀ s, fo o f ≤ s → s < fo o f + om f → ∀ p, p < 12 → dgt (r s) p = nI (ow D s p n)
end
section
/-! contracts: prune, chain, hand, owners, sure, chance, least (written by wip/p45/g25.py) -/
def kA {α : Type} (P : Nat → Bool) (A : Nat → α) : Nat → Nat → α
  | 0 => A
  | k + 1 => if P k = true then fun j => if j = cnW P 0 k then A k else kA P A k j else kA P A k
theorem kA_ge {α : Type} {P : Nat → Bool} {A : Nat → α} : ∀ (k j : Nat), k ≤ j → kA P A k j = A j := by
  intro k
  induction k with
  | zero => intro j _; rfl
  | succ k ih =>
    intro j hj
    unfold kA
    have := cnW_le (P := P) (a := 0) k
    split
    · show (if j = cnW P 0 k then A k else kA P A k j) = A j
      rw [if_neg (by omega)]
      exact ih j (by omega)
    · exact ih j (by omega)
def prH (h : HP) (P : Nat → Bool) (A : Nat → Nat) : Nat → HP
  | 0 => h
  | k + 1 => if P k = true then wR (prH h P A k) 34 (cnW P 0 k) (some (A k)) else prH h P A k
theorem prH_F {h : HP} (F : Fx h) {P : Nat → Bool} {A : Nat → Nat} : ∀ k, Fx (prH h P A k) := by
  intro k
  induction k with
  | zero => exact F
  | succ k ih =>
    unfold prH
    split
    · exact ih.wR rfl
    · exact ih
theorem prH_I {h : HP} {P : Nat → Bool} {A : Nat → Nat} : ∀ k, hI (prH h P A k) = hI h := by
  intro k
  induction k with
  | zero => rfl
  | succ k ih =>
    unfold prH
    split
    · exact ih
    · exact ih
theorem prH_B {h : HP} {P : Nat → Bool} {A : Nat → Nat} {D : Nat → DD} {n : Nat} (b : BkD h n A D) : ∀ k, k ≤ n → BkD (prH h P A k) n (kA P A k) (kA P D k) := by
  intro k
  induction k with
  | zero => intro _; exact b
  | succ k ih =>
    intro hk
    have z := ih (by omega)
    have zk := z.2.2 k (by omega)
    rw [kA_ge k k (Nat.le_refl _), kA_ge k k (Nat.le_refl _)] at zk
    have hc := cnW_le (P := P) (a := 0) k
    by_cases q : P k = true
    · have e1 : prH h P A (k + 1) = wR (prH h P A k) 34 (cnW P 0 k) (some (A k)) := if_pos q
      have e2 : kA P A (k + 1) = fun j => if j = cnW P 0 k then A k else kA P A k j := if_pos q
      have e3 : kA P D (k + 1) = fun j => if j = cnW P 0 k then D k else kA P D k j := if_pos q
      rw [e1, e2, e3]
      refine ⟨z.1, z.2.1, fun j hj => ?_⟩
      by_cases qj : j = cnW P 0 k
      · simp only [if_pos qj]
        subst qj
        exact ⟨up2_s, zk.2.up (Up.wR (by decide))⟩
      · simp only [if_neg qj]
        exact ⟨(up2_i qj).trans (z.2.2 j hj).1, (z.2.2 j hj).2.up (Up.wR (by decide))⟩
    · have e1 : prH h P A (k + 1) = prH h P A k := if_neg q
      have e2 : kA P A (k + 1) = kA P A k := if_neg q
      have e3 : kA P D (k + 1) = kA P D k := if_neg q
      rw [e1, e2, e3]
      exact z
/-- a DEAL conveys somewhere under an OPEN STANDING -/
def kpP (D : Nat → DD) (a m : Nat) (k : Nat) : Bool := decide (0 < cnW (gvS (D k)) a m)
theorem zX8_prune (X : EX) {h : HP} (F : Fx h) {f n : Nat} {o : Nat → Nat} {A : Nat → Nat} {D : Nat → DD} (bf : BkF h f o) (b : BkD h n A D) : Ct X mX8_prune 3 0 0 [vR (some 32)] h (Rt (vI (nI (n - cnW (kpP D (fo o f) (om f)) 0 n))) (wI (prH h (kpP D (fo o f) (om f)) A n) 33 1 (nI (cnW (kpP D (fo o f) (om f)) 0 n)))) := by
  refine ct_of rfl (Nat.le_of_ble_eq_true rfl) ?_
  have hb6 := om_fo bf.2.1 bf.2.2.2
  have hn12 := b.2.1
  have loop : ∀ (m : Nat) (k : Nat), k + m = n → Ev X mX8_prune 3 0 0 (Rt (vI (nI (n - cnW (kpP D (fo o f) (om f)) 0 n))) (wI (prH h (kpP D (fo o f) (om f)) A n) 33 1 (nI (cnW (kpP D (fo o f) (om f)) 0 n)))) 0 0 12 [(0, some (vR (some 32))), (1, some (vI (nI (cnW (kpP D (fo o f) (om f)) 0 k)))), (2, some (vI (nI n))), (3, some (vI (nI k)))] [] (prH h (kpP D (fo o f) (om f)) A k) := by
    intro m
    induction m with
    | zero =>
      intro k hk
      obtain rfl : k = n := by omega
      have hkn := cnW_le (P := (kpP D (fo o f) (om f))) (a := 0) k
      have FP := prH_F (P := (kpP D (fo o f) (om f))) (A := A) F k
      refine e_iload_n aX8_prune_12 rfl ?_
      refine e_iload_n aX8_prune_13 rfl ?_
      refine e_icmp_ge aX8_prune_14 (fun c14 => ?_) (fun c14 => ?_)
      · -- 14: taken
        refine e_aload_n aX8_prune_61 rfl ?_
        refine e_getRF aX8_prune_62 fX8_10 rfl (fx_is FP rfl) (fx_r (b := 33) FP rfl) ?_
        refine e_iload_n aX8_prune_65 rfl ?_
        refine e_putI aX8_prune_66 fX8_101 rfl (fx_is FP rfl) (Or.inl rfl) ?_
        refine e_iload_n aX8_prune_69 rfl ?_
        refine e_iload_n aX8_prune_70 rfl ?_
        refine e_isub aX8_prune_71 ?_
        refine e_top (nI_subN (cnW_le _)) ?_
        refine e_ireturn aX8_prune_72 rfl (Nat.le_refl _) (Nat.le_refl _) ?_
        exact ⟨rfl, rfl⟩
      · -- 14: not taken
        exact absurd (nI_le (by omega) (by omega)) c14
    | succ m ih =>
      intro k hk
      have hkn := cnW_le (P := (kpP D (fo o f) (om f))) (a := 0) k
      have hkm := cnW_le (P := gvS (D k)) (a := fo o f) (om f)
      have FP := prH_F (P := (kpP D (fo o f) (om f))) (A := A) F k
      have BP := prH_B (P := (kpP D (fo o f) (om f))) b k (by omega)
      have bfP : BkF (prH h (kpP D (fo o f) (om f)) A k) f o := bf.up (fun j => by rw [prH_I]) (fun j => by rw [prH_I])
      have kdP := (BP.2.2 k (by omega)).2
      rw [kA_ge k k (Nat.le_refl _), kA_ge k k (Nat.le_refl _)] at kdP
      refine e_iload_n aX8_prune_12 rfl ?_
      refine e_iload_n aX8_prune_13 rfl ?_
      refine e_icmp_ge aX8_prune_14 (fun c14 => ?_) (fun c14 => ?_)
      · -- 14: taken
        exact absurd c14 (nI_ge (by omega) (by omega))
      · -- 14: not taken
        refine e_aload_n aX8_prune_17 rfl ?_
        refine e_getRF aX8_prune_18 fX8_10 rfl (fx_is FP rfl) (fx_r (b := 33) FP rfl) ?_
        refine e_iload_n aX8_prune_21 rfl ?_
        refine e_invvT aX8_prune_22 kX8_128 (zX0_dealAt_in X FP BP (k := k) (by omega)) rfl rfl (fx_is FP rfl) (Nat.le_of_ble_eq_true rfl) (Nat.le_of_ble_eq_true rfl) (Nat.le_refl _) (Nat.le_refl _) (Nat.le_of_ble_eq_true rfl) ?_
        rw [kA_ge k k (Nat.le_refl _)]
        refine e_astore aX8_prune_25 (Nat.le_of_ble_eq_true rfl) ?_
        refine e_aload aX8_prune_27 rfl ?_
        refine e_ifnull aX8_prune_29 (fun c29 => ?_) (fun r29 c29 => ?_)
        · -- 29: taken
          exact absurd c29 (by simp)
        · -- 29: not taken
          refine e_aload_n aX8_prune_32 rfl ?_
          refine e_aload aX8_prune_33 rfl ?_
          refine e_invvT aX8_prune_35 kX8_153 (zX8_countConveying X FP bfP kdP) rfl rfl (fx_is FP rfl) (Nat.le_of_ble_eq_true rfl) (Nat.le_of_ble_eq_true rfl) (Nat.le_refl _) (Nat.le_refl _) (Nat.le_of_ble_eq_true rfl) ?_
          refine e_if_le aX8_prune_38 (fun c38 => ?_) (fun c38 => ?_)
          · -- 38: taken
            have q38 : (kpP D (fo o f) (om f)) k = false := decide_eq_false (fun z => absurd c38 (Int32.not_le.mpr (nI_lt (a := 0) z (by omega))))
            refine e_iinc aX8_prune_55 rfl rfl (Nat.le_of_ble_eq_true rfl) ?_
            refine e_goto aX8_prune_58 ?_
            refine e_ls (ls' := [(0, some (vR (some 32))), (1, some (vI (nI (cnW (kpP D (fo o f) (om f)) 0 (k + 1))))), (2, some (vI (nI n))), (3, some (vI (nI (k + 1))))]) ⟨rfl, congrArg (fun x => some (vI x)) (congrArg nI (cnW_f (P := (kpP D (fo o f) (om f))) (a := 0) (m := k) (by rw [Nat.zero_add]; exact q38)).symm), rfl, congrArg (fun x => some (vI x)) (nI_1 k), trivial⟩ ?_
            refine e_hp (h2 := (prH h (kpP D (fo o f) (om f)) A (k + 1))) (if_neg (by rw [q38]; decide)).symm ?_
            exact ih (k + 1) (by omega)
          · -- 38: not taken
            have q38 : (kpP D (fo o f) (om f)) k = true := decide_eq_true (by
              rcases Nat.eq_zero_or_pos (cnW (gvS (D k)) (fo o f) (om f)) with z | z
              · exact absurd (by rw [z]; decide) c38
              · exact z)
            refine e_aload_n aX8_prune_41 rfl ?_
            refine e_getRF aX8_prune_42 fX8_10 rfl (fx_is FP rfl) (fx_r (b := 33) FP rfl) ?_
            refine e_getRF aX8_prune_45 fX8_166 rfl (fx_is FP rfl) (fx_r (b := 34) FP rfl) ?_
            refine e_iload_n aX8_prune_48 rfl ?_
            refine e_aload aX8_prune_49 rfl ?_
            refine e_aastoreF (t := 17) aX8_prune_51 (fx_is FP rfl) (by decide) (by decide) kdP.2.1 (fx_n (n := 12) FP rfl) (vin (N := 12) (by omega)) ?_
            rw [cl (by omega)]
            refine e_iinc aX8_prune_52 rfl rfl (Nat.le_of_ble_eq_true rfl) ?_
            refine e_iinc aX8_prune_55 rfl rfl (Nat.le_of_ble_eq_true rfl) ?_
            refine e_goto aX8_prune_58 ?_
            refine e_ls (ls' := [(0, some (vR (some 32))), (1, some (vI (nI (cnW (kpP D (fo o f) (om f)) 0 (k + 1))))), (2, some (vI (nI n))), (3, some (vI (nI (k + 1))))]) ⟨rfl, congrArg (fun x => some (vI x)) ((nI_1 _).trans (congrArg nI (cnW_t (P := (kpP D (fo o f) (om f))) (a := 0) (m := k) (by rw [Nat.zero_add]; exact q38)).symm)), rfl, congrArg (fun x => some (vI x)) (nI_1 k), trivial⟩ ?_
            refine e_hp (h2 := (prH h (kpP D (fo o f) (om f)) A (k + 1))) (if_pos q38).symm ?_
            exact ih (k + 1) (by omega)
  refine e_iconst (v := 0) aX8_prune_0 (by decide) ?_
  refine e_istore_n aX8_prune_1 (Nat.le_of_ble_eq_true rfl) ?_
  refine e_aload_n aX8_prune_2 rfl ?_
  refine e_getRF aX8_prune_3 fX8_10 rfl (fx_is F rfl) (fx_r (b := 33) F rfl) ?_
  refine e_getIF aX8_prune_6 fX8_101 rfl (fx_is F rfl) b.1 ?_
  refine e_istore_n aX8_prune_9 (Nat.le_of_ble_eq_true rfl) ?_
  refine e_iconst (v := 0) aX8_prune_10 (by decide) ?_
  refine e_istore_n aX8_prune_11 (Nat.le_of_ble_eq_true rfl) ?_
  refine e_ls (ls' := [(0, some (vR (some 32))), (1, some (vI (nI (cnW (kpP D (fo o f) (om f)) 0 0)))), (2, some (vI (nI n))), (3, some (vI (nI 0)))]) ⟨rfl, rfl, rfl, rfl, trivial⟩ ?_
  exact loop n 0 (by omega)
/-- the last CLUB and the length of a chain, walked until it is x long -/
def chn (D : Nat → DD) (s p : Nat) (x : Int32) : Nat → Nat → Nat → Nat → Nat × Nat
  | _, 0, c, l => (c, l)
  | k, m + 1, c, l => if nI l = x then (c, l) else match tk (D k) s p with
    | none => chn D s p x (k + 1) m c l
    | some t => chn D s p x (k + 1) m t (l + 1)
theorem chn_s {D : Nat → DD} {s p : Nat} {x : Int32} {k m cz lz : Nat} : chn D s p x k (m + 1) cz lz = if nI lz = x then (cz, lz) else match tk (D k) s p with
    | none => chn D s p x (k + 1) m cz lz
    | some t => chn D s p x (k + 1) m t (lz + 1) := rfl
theorem zX8_chain (X : EX) {h : HP} (F : Fx h) {f n : Nat} {o : Nat → Nat} {A : Nat → Nat} {D : Nat → DD} (bf : BkF h f o) (b : BkD h n A D) (x y w : Int32) : Ct X mX8_chain 3 0 0 [vR (some 32), vI x, vI y, vI w] h (if nI (fo o f) ≤ x ∧ x < nI (fo o f + om f) then if y < 0 ∨ 12 ≤ y then RF h 0 else (if w = -1 then Rt (vI (nI (chn D x.toNatClampNeg y.toNatClampNeg (w + 1) 0 n (y.toNatClampNeg % 3) 1).2)) h else if nI (chn D x.toNatClampNeg y.toNatClampNeg (w + 1) 0 n (y.toNatClampNeg % 3) 1).2 = w + 1 then Rt (vI (nI (chn D x.toNatClampNeg y.toNatClampNeg (w + 1) 0 n (y.toNatClampNeg % 3) 1).1)) h else RF h 3) else RF h 0) := by
  refine ct_of rfl (Nat.le_of_ble_eq_true rfl) ?_
  have hb6 := om_fo bf.2.1 bf.2.2.2
  have hn12 := b.2.1
  refine e_aload_n aX8_chain_0 rfl ?_
  refine e_getRF aX8_chain_1 fX8_10 rfl (fx_is F rfl) (fx_r (b := 33) F rfl) ?_
  refine e_iload_n aX8_chain_4 rfl ?_
  refine e_invvT aX8_chain_5 kX8_169 (zX0_isOpen X F bf _) rfl rfl (fx_is F rfl) (Nat.le_of_ble_eq_true rfl) (Nat.le_of_ble_eq_true rfl) (Nat.le_refl _) (Nat.le_refl _) (Nat.le_of_ble_eq_true rfl) ?_
  refine e_if_eq aX8_chain_8 (fun c8 => ?_) (fun c8 => ?_)
  · -- 8: taken
    have q8 := b2_0.mp c8
    refine e_aload_n aX8_chain_20 rfl ?_
    refine e_iconst (v := 0) aX8_chain_21 (by decide) ?_
    refine e_invvT aX8_chain_22 kX8_62 (zfin X (k := 0) F (by decide)) rfl rfl (fx_is F rfl) (Nat.le_of_ble_eq_true rfl) (Nat.le_of_ble_eq_true rfl) (Nat.le_refl _) (Nat.le_refl _) (Nat.le_of_ble_eq_true rfl) ?_
    refine e_ireturn aX8_chain_25 rfl (Nat.le_refl _) (Nat.le_refl _) ?_
    rw [if_neg q8]
    exact ⟨rfl, rfl⟩
  · -- 8: not taken
    have q8 := Decidable.of_not_not (fun z => c8 (b2_0.mpr z))
    obtain ⟨sz, hs1, hs2, rfl⟩ := opn_of (Nat.le_add_right _ _) hb6 q8
    refine e_iload_n aX8_chain_11 rfl ?_
    refine e_bipush (v := 12) aX8_chain_12 (by decide) ?_
    refine e_invsT aX8_chain_14 kX8_58 (zX8_isOutside X _ _) rfl rfl (Nat.le_of_ble_eq_true rfl) (Nat.le_of_ble_eq_true rfl) (Nat.le_refl _) (Nat.le_refl _) (Nat.le_of_ble_eq_true rfl) ?_
    refine e_if_eq aX8_chain_17 (fun c17 => ?_) (fun c17 => ?_)
    · -- 17: taken
      have q17 := b2_0.mp c17
      obtain ⟨pz, hp, rfl⟩ := ou_of 12 (by decide) q17
      rw [if_pos q8, if_neg q17, cl (by omega), cl (by omega)]
      have hs : sz < 1296 := by omega
      have tail : ∀ (cz lz : Nat), (chn D sz pz (w + 1) 0 n (pz % 3) 1) = (cz, lz) → Ev X mX8_chain 3 0 0 (if w = -1 then Rt (vI (nI (chn D sz pz (w + 1) 0 n (pz % 3) 1).2)) h else if nI (chn D sz pz (w + 1) 0 n (pz % 3) 1).2 = w + 1 then Rt (vI (nI (chn D sz pz (w + 1) 0 n (pz % 3) 1).1)) h else RF h 3) 0 0 104 [(0, some (vR (some 32))), (3, some (vI w)), (4, some (vI (nI cz))), (5, some (vI (nI lz)))] [] h := by
        intro cz lz hR9
        refine e_iload_n aX8_chain_104 rfl ?_
        refine e_iconst (v := -1) aX8_chain_105 (by decide) ?_
        refine e_icmp_ne aX8_chain_106 (fun c106 => ?_) (fun c106 => ?_)
        · -- 106: taken
          have q106 : ¬ w = -1 := c106
          refine e_iload aX8_chain_112 rfl ?_
          refine e_iload_n aX8_chain_114 rfl ?_
          refine e_iconst (v := 1) aX8_chain_115 (by decide) ?_
          refine e_iadd aX8_chain_116 ?_
          refine e_icmp_ne aX8_chain_117 (fun c117 => ?_) (fun c117 => ?_)
          · -- 117: taken
            have q117 : ¬ nI lz = w + 1 := c117
            refine e_aload_n aX8_chain_125 rfl ?_
            refine e_iconst (v := 3) aX8_chain_126 (by decide) ?_
            refine e_invvT aX8_chain_127 kX8_62 (zfin X (k := 3) F (by decide)) rfl rfl (fx_is F rfl) (Nat.le_of_ble_eq_true rfl) (Nat.le_of_ble_eq_true rfl) (Nat.le_refl _) (Nat.le_refl _) (Nat.le_of_ble_eq_true rfl) ?_
            refine e_ireturn aX8_chain_130 rfl (Nat.le_refl _) (Nat.le_refl _) ?_
            rw [hR9, if_neg q106, if_neg q117]
            exact ⟨rfl, rfl⟩
          · -- 117: not taken
            have q117 : nI lz = w + 1 := c117
            refine e_iload aX8_chain_120 rfl ?_
            refine e_goto aX8_chain_122 ?_
            refine e_ireturn aX8_chain_130 rfl (Nat.le_refl _) (Nat.le_refl _) ?_
            rw [hR9, if_neg q106, if_pos q117]
            exact ⟨rfl, rfl⟩
        · -- 106: not taken
          have q106 : w = -1 := c106
          refine e_iload aX8_chain_109 rfl ?_
          refine e_ireturn aX8_chain_111 rfl (Nat.le_refl _) (Nat.le_refl _) ?_
          rw [hR9, if_pos q106]
          exact ⟨rfl, rfl⟩
      have loop : ∀ (m : Nat) (k cz lz : Nat), k + m = n → chn D sz pz (w + 1) k m cz lz = (chn D sz pz (w + 1) 0 n (pz % 3) 1) → Ev X mX8_chain 3 0 0 (if w = -1 then Rt (vI (nI (chn D sz pz (w + 1) 0 n (pz % 3) 1).2)) h else if nI (chn D sz pz (w + 1) 0 n (pz % 3) 1).2 = w + 1 then Rt (vI (nI (chn D sz pz (w + 1) 0 n (pz % 3) 1).1)) h else RF h 3) 0 0 37 [(0, some (vR (some 32))), (1, some (vI (nI sz))), (2, some (vI (nI pz))), (3, some (vI w)), (4, some (vI (nI cz))), (5, some (vI (nI lz))), (6, some (vI (nI k)))] [] h := by
        intro m
        induction m with
        | zero =>
          intro k cz lz hk hR9
          obtain rfl : n = k := by omega
          refine e_iload aX8_chain_37 rfl ?_
          refine e_aload_n aX8_chain_39 rfl ?_
          refine e_getRF aX8_chain_40 fX8_10 rfl (fx_is F rfl) (fx_r (b := 33) F rfl) ?_
          refine e_getIF aX8_chain_43 fX8_101 rfl (fx_is F rfl) b.1 ?_
          refine e_icmp_ge aX8_chain_46 (fun c46 => ?_) (fun c46 => ?_)
          · -- 46: taken
            refine e_ls (ls' := [(0, some (vR (some 32))), (3, some (vI w)), (4, some (vI (nI cz))), (5, some (vI (nI lz)))]) ⟨rfl, rfl, rfl, rfl, trivial⟩ ?_
            exact tail cz lz hR9.symm
          · -- 46: not taken
            exact absurd (nI_le (by omega) (by omega)) c46
        | succ m ih =>
          intro k cz lz hk hR9
          have htk : ∀ p, tk (D k) sz pz = some p → p < 1073741824 := fun p q => by have := (tk_lt (b.2.2 k (by omega)).2.2.2.1 q).1; omega
          refine e_iload aX8_chain_37 rfl ?_
          refine e_aload_n aX8_chain_39 rfl ?_
          refine e_getRF aX8_chain_40 fX8_10 rfl (fx_is F rfl) (fx_r (b := 33) F rfl) ?_
          refine e_getIF aX8_chain_43 fX8_101 rfl (fx_is F rfl) b.1 ?_
          refine e_icmp_ge aX8_chain_46 (fun c46 => ?_) (fun c46 => ?_)
          · -- 46: taken
            exact absurd c46 (nI_ge (by omega) (by omega))
          · -- 46: not taken
            refine e_iload aX8_chain_49 rfl ?_
            refine e_iload_n aX8_chain_51 rfl ?_
            refine e_iconst (v := 1) aX8_chain_52 (by decide) ?_
            refine e_iadd aX8_chain_53 ?_
            refine e_icmp_eq aX8_chain_54 (fun c54 => ?_) (fun c54 => ?_)
            · -- 54: taken
              have q54 : nI lz = w + 1 := c54
              refine e_ls (ls' := [(0, some (vR (some 32))), (3, some (vI w)), (4, some (vI (nI cz))), (5, some (vI (nI lz)))]) ⟨rfl, rfl, rfl, rfl, trivial⟩ ?_
              exact tail cz lz (by rw [← hR9, chn_s, if_pos q54])
            · -- 54: not taken
              have q54 : ¬ nI lz = w + 1 := c54
              refine e_aload_n aX8_chain_57 rfl ?_
              refine e_getRF aX8_chain_58 fX8_10 rfl (fx_is F rfl) (fx_r (b := 33) F rfl) ?_
              refine e_iload aX8_chain_61 rfl ?_
              refine e_invvT aX8_chain_63 kX8_128 (zX0_dealAt_in X F b (k := k) (by omega)) rfl rfl (fx_is F rfl) (Nat.le_of_ble_eq_true rfl) (Nat.le_of_ble_eq_true rfl) (Nat.le_refl _) (Nat.le_refl _) (Nat.le_of_ble_eq_true rfl) ?_
              refine e_astore aX8_chain_66 (Nat.le_of_ble_eq_true rfl) ?_
              refine e_aload aX8_chain_68 rfl ?_
              refine e_ifnonnull aX8_chain_70 (fun r70 c70 => ?_) (fun c70 => ?_)
              · -- 70: taken
                refine e_aload aX8_chain_77 rfl ?_
                refine e_iload_n aX8_chain_79 rfl ?_
                refine e_iload_n aX8_chain_80 rfl ?_
                refine e_invvT aX8_chain_81 kX8_175 (zX1_takerOf X (b.2.2 k (by omega)).2 hs hp) rfl rfl (b.2.2 k (by omega)).2.2.1 (Nat.le_of_ble_eq_true rfl) (Nat.le_of_ble_eq_true rfl) (Nat.le_refl _) (Nat.le_refl _) (Nat.le_of_ble_eq_true rfl) ?_
                refine e_istore aX8_chain_84 (Nat.le_of_ble_eq_true rfl) ?_
                refine e_iload aX8_chain_86 rfl ?_
                refine e_if_lt aX8_chain_88 (fun c88 => ?_) (fun c88 => ?_)
                · -- 88: taken
                  have q88 := (oI_neg (q := tk (D k) sz pz) htk).mp c88
                  refine e_iinc aX8_chain_98 rfl rfl (Nat.le_of_ble_eq_true rfl) ?_
                  refine e_goto aX8_chain_101 ?_
                  refine e_ls (ls' := [(0, some (vR (some 32))), (1, some (vI (nI sz))), (2, some (vI (nI pz))), (3, some (vI w)), (4, some (vI (nI cz))), (5, some (vI (nI lz))), (6, some (vI (nI (k + 1))))]) ⟨rfl, rfl, rfl, rfl, rfl, rfl, congrArg (fun x => some (vI x)) (nI_1 k), trivial⟩ ?_
                  exact ih (k + 1) cz lz (by omega) (by rw [← hR9, chn_s, if_neg q54, q88])
                · -- 88: not taken
                  obtain ⟨tz, q88⟩ := Option.ne_none_iff_exists'.mp ((not_congr (oI_neg (q := tk (D k) sz pz) htk)).mp c88)
                  refine e_iload aX8_chain_91 rfl ?_
                  refine e_istore aX8_chain_93 (Nat.le_of_ble_eq_true rfl) ?_
                  refine e_iinc aX8_chain_95 rfl rfl (Nat.le_of_ble_eq_true rfl) ?_
                  refine e_iinc aX8_chain_98 rfl rfl (Nat.le_of_ble_eq_true rfl) ?_
                  refine e_goto aX8_chain_101 ?_
                  refine e_ls (ls' := [(0, some (vR (some 32))), (1, some (vI (nI sz))), (2, some (vI (nI pz))), (3, some (vI w)), (4, some (vI (nI tz))), (5, some (vI (nI (lz + 1)))), (6, some (vI (nI (k + 1))))]) ⟨rfl, rfl, rfl, rfl, congrArg (fun x => some (vI (oI x))) q88, congrArg (fun x => some (vI x)) (nI_1 lz), congrArg (fun x => some (vI x)) (nI_1 k), trivial⟩ ?_
                  exact ih (k + 1) tz (lz + 1) (by omega) (by rw [← hR9, chn_s, if_neg q54, q88])
              · -- 70: not taken
                exact absurd c70 (by simp)
      refine e_iload_n aX8_chain_26 rfl ?_
      refine e_iconst (v := 3) aX8_chain_27 (by decide) ?_
      refine e_irem aX8_chain_28 (by decide) ?_
      refine e_top (nI_rem (b := 3) (by omega) (by decide) (by decide)) ?_
      refine e_istore aX8_chain_29 (Nat.le_of_ble_eq_true rfl) ?_
      refine e_iconst (v := 1) aX8_chain_31 (by decide) ?_
      refine e_istore aX8_chain_32 (Nat.le_of_ble_eq_true rfl) ?_
      refine e_iconst (v := 0) aX8_chain_34 (by decide) ?_
      refine e_istore aX8_chain_35 (Nat.le_of_ble_eq_true rfl) ?_
      refine e_ls (ls' := [(0, some (vR (some 32))), (1, some (vI (nI sz))), (2, some (vI (nI pz))), (3, some (vI w)), (4, some (vI (nI (pz % 3)))), (5, some (vI (nI 1))), (6, some (vI (nI 0)))]) ⟨rfl, rfl, rfl, rfl, rfl, rfl, rfl, trivial⟩ ?_
      exact loop n 0 (pz % 3) 1 (by omega) rfl
    · -- 17: not taken
      have q17 := Decidable.of_not_not (fun z => c17 (b2_0.mpr z))
      refine e_aload_n aX8_chain_20 rfl ?_
      refine e_iconst (v := 0) aX8_chain_21 (by decide) ?_
      refine e_invvT aX8_chain_22 kX8_62 (zfin X (k := 0) F (by decide)) rfl rfl (fx_is F rfl) (Nat.le_of_ble_eq_true rfl) (Nat.le_of_ble_eq_true rfl) (Nat.le_refl _) (Nat.le_refl _) (Nat.le_of_ble_eq_true rfl) ?_
      refine e_ireturn aX8_chain_25 rfl (Nat.le_refl _) (Nat.le_refl _) ?_
      rw [if_pos q8, if_pos q17]
      exact ⟨rfl, rfl⟩
end
section
/-! contracts: hand, owners, sure, chance, least, what it is worth (written by wip/p45/g26.py) -/
/-- sets of PICKS and CLUBS, sums of worths -/
def hnR (P : Nat → Bool) : Nat → Int32
  | 0 => 0
  | p + 1 => if P p = true then hnR P p ||| ((1 : Int32) <<< (nI p &&& 31)) else hnR P p
def evR (g : Nat → Int32) (a : Nat) : Nat → Int32
  | 0 => 0
  | m + 1 => evR g a m ||| ((1 : Int32) <<< (g (a + m) &&& 31))
def atB (h : HP) (s : Nat) (y : Int32) (p : Nat) : Bool := decide (dgt (hI h 39 s) p = y)
def atS (h : HP) (p : Nat) (y : Int32) (s : Nat) : Bool := decide (dgt (hI h 39 s) p = y)
def wuR (h : HP) (s : Nat) (y : Int32) : Nat → Int32
  | 0 => 0
  | p + 1 => if dgt (hI h 39 s) p = y then wuR h s y p + hI h 36 (pl s p) else wuR h s y p
def woR (h : HP) (y : Int32) (a : Nat) : Nat → Int64
  | 0 => 0
  | m + 1 => woR h y a m + (wuR h (a + m) y 12).toInt64
def bsR (h : HP) (y w : Int32) : Nat → Nat → Nat → Int32 → Nat
  | _, 0, c, _ => c
  | k, m + 1, c, v => if (if w = 0 then v < wuR h k y 12 else wuR h k y 12 < v) then bsR h y w (k + 1) m k (wuR h k y 12) else bsR h y w (k + 1) m c v
def hpR (h : HP) (y : Int32) (a q : Nat) : Nat → Nat → Nat → Int64 → Nat
  | _, 0, c, _ => c
  | k, m + 1, c, v => if lg_cmp (woR h y (a + k * q) q) v ≤ 0 then hpR h y a q (k + 1) m c v else hpR h y a q (k + 1) m k (woR h y (a + k * q) q)
theorem hnR_s {P : Nat → Bool} {p : Nat} : hnR P (p + 1) = if P p = true then hnR P p ||| ((1 : Int32) <<< (nI p &&& 31)) else hnR P p := rfl
theorem wuR_s {h : HP} {s p : Nat} {y : Int32} : wuR h s y (p + 1) = if dgt (hI h 39 s) p = y then wuR h s y p + hI h 36 (pl s p) else wuR h s y p := rfl
theorem bsR_s {h : HP} {y w v : Int32} {k m cz : Nat} : bsR h y w k (m + 1) cz v = if (if w = 0 then v < wuR h k y 12 else wuR h k y 12 < v) then bsR h y w (k + 1) m k (wuR h k y 12) else bsR h y w (k + 1) m cz v := rfl
theorem hpR_s {h : HP} {y : Int32} {a9 qz k m cz : Nat} {v : Int64} : hpR h y a9 qz k (m + 1) cz v = if lg_cmp (woR h y (a9 + k * qz) qz) v ≤ 0 then hpR h y a9 qz (k + 1) m cz v else hpR h y a9 qz (k + 1) m k (woR h y (a9 + k * qz) qz) := rfl
theorem zX8_hand (X : EX) {h : HP} (F : Fx h) {f : Nat} {o : Nat → Nat} (bf : BkF h f o) (x y : Int32) : Ct X mX8_hand 3 0 0 [vR (some 32), vI x, vI y] h (if nI (fo o f) ≤ x ∧ x < nI (fo o f + om f) then if y < 0 ∨ 3 ≤ y then RF h 0 else Rt (vI (hnR (atB h x.toNatClampNeg y) 12)) h else RF h 0) := by
  refine ct_of rfl (Nat.le_of_ble_eq_true rfl) ?_
  have hb6 := om_fo bf.2.1 bf.2.2.2
  refine e_aload_n aX8_hand_0 rfl ?_
  refine e_getRF aX8_hand_1 fX8_10 rfl (fx_is F rfl) (fx_r (b := 33) F rfl) ?_
  refine e_iload_n aX8_hand_4 rfl ?_
  refine e_invvT aX8_hand_5 kX8_169 (zX0_isOpen X F bf _) rfl rfl (fx_is F rfl) (Nat.le_of_ble_eq_true rfl) (Nat.le_of_ble_eq_true rfl) (Nat.le_refl _) (Nat.le_refl _) (Nat.le_of_ble_eq_true rfl) ?_
  refine e_if_eq aX8_hand_8 (fun c8 => ?_) (fun c8 => ?_)
  · -- 8: taken
    have q8 := b2_0.mp c8
    refine e_aload_n aX8_hand_19 rfl ?_
    refine e_iconst (v := 0) aX8_hand_20 (by decide) ?_
    refine e_invvT aX8_hand_21 kX8_62 (zfin X (k := 0) F (by decide)) rfl rfl (fx_is F rfl) (Nat.le_of_ble_eq_true rfl) (Nat.le_of_ble_eq_true rfl) (Nat.le_refl _) (Nat.le_refl _) (Nat.le_of_ble_eq_true rfl) ?_
    refine e_ireturn aX8_hand_24 rfl (Nat.le_refl _) (Nat.le_refl _) ?_
    rw [if_neg q8]
    exact ⟨rfl, rfl⟩
  · -- 8: not taken
    have q8 := Decidable.of_not_not (fun z => c8 (b2_0.mpr z))
    obtain ⟨sz, hs1, hs2, rfl⟩ := opn_of (Nat.le_add_right _ _) hb6 q8
    refine e_iload_n aX8_hand_11 rfl ?_
    refine e_iconst (v := 3) aX8_hand_12 (by decide) ?_
    refine e_invsT aX8_hand_13 kX8_58 (zX8_isOutside X _ _) rfl rfl (Nat.le_of_ble_eq_true rfl) (Nat.le_of_ble_eq_true rfl) (Nat.le_refl _) (Nat.le_refl _) (Nat.le_of_ble_eq_true rfl) ?_
    refine e_if_eq aX8_hand_16 (fun c16 => ?_) (fun c16 => ?_)
    · -- 16: taken
      have q16 := b2_0.mp c16
      obtain ⟨iz, hi3, rfl⟩ := ou_of 3 (by decide) q16
      rw [if_pos q8, if_neg q16, cl (by omega)]
      have hs : sz < 1296 := by omega
      have loop : ∀ (m : Nat) (k : Nat), k + m = 12 → Ev X mX8_hand 3 0 0 (Rt (vI (hnR (atB h sz (nI iz)) 12)) h) 0 0 30 [(0, some (vR (some 32))), (1, some (vI (nI sz))), (2, some (vI (nI iz))), (3, some (vI (hnR (atB h sz (nI iz)) k))), (4, some (vI (nI k)))] [] h := by
        intro m
        induction m with
        | zero =>
          intro k hk
          obtain rfl : k = 12 := by omega
          refine e_iload aX8_hand_30 rfl ?_
          refine e_bipush (v := 12) aX8_hand_32 (by decide) ?_
          refine e_icmp_ge aX8_hand_34 (fun c34 => ?_) (fun c34 => ?_)
          · -- 34: taken
            refine e_iload_n aX8_hand_64 rfl ?_
            refine e_ireturn aX8_hand_65 rfl (Nat.le_refl _) (Nat.le_refl _) ?_
            exact ⟨rfl, rfl⟩
          · -- 34: not taken
            exact absurd (nI_le (a := 12) (b := 12) (by decide) (by decide)) c34
        | succ m ih =>
          intro k hk
          refine e_iload aX8_hand_30 rfl ?_
          refine e_bipush (v := 12) aX8_hand_32 (by decide) ?_
          refine e_icmp_ge aX8_hand_34 (fun c34 => ?_) (fun c34 => ?_)
          · -- 34: taken
            exact absurd c34 (nI_ge (a := k) (b := 12) (by omega) (by decide))
          · -- 34: not taken
            refine e_aload_n aX8_hand_37 rfl ?_
            refine e_getRF aX8_hand_38 fX8_23 rfl (fx_is F rfl) (fx_r (b := 38) F rfl) ?_
            refine e_iload_n aX8_hand_41 rfl ?_
            refine e_iload aX8_hand_42 rfl ?_
            refine e_invvT aX8_hand_44 kX8_172 (zX2_at X F (s := sz) (p := k) hs (by omega)) rfl rfl (fx_is F rfl) (Nat.le_of_ble_eq_true rfl) (Nat.le_of_ble_eq_true rfl) (Nat.le_refl _) (Nat.le_refl _) (Nat.le_of_ble_eq_true rfl) ?_
            refine e_iload_n aX8_hand_47 rfl ?_
            refine e_icmp_ne aX8_hand_48 (fun c48 => ?_) (fun c48 => ?_)
            · -- 48: taken
              refine e_iinc aX8_hand_58 rfl rfl (Nat.le_of_ble_eq_true rfl) ?_
              refine e_goto aX8_hand_61 ?_
              refine e_ls (ls' := [(0, some (vR (some 32))), (1, some (vI (nI sz))), (2, some (vI (nI iz))), (3, some (vI (hnR (atB h sz (nI iz)) (k + 1)))), (4, some (vI (nI (k + 1))))]) ⟨rfl, rfl, rfl, congrArg (fun x => some (vI x)) ((hnR_s.trans (if_neg (fun z => c48 (of_decide_eq_true z)))).symm), congrArg (fun x => some (vI x)) (nI_1 k), trivial⟩ ?_
              exact ih (k + 1) (by omega)
            · -- 48: not taken
              refine e_iload_n aX8_hand_51 rfl ?_
              refine e_iconst (v := 1) aX8_hand_52 (by decide) ?_
              refine e_iload aX8_hand_53 rfl ?_
              refine e_ishl aX8_hand_55 ?_
              refine e_ior aX8_hand_56 ?_
              refine e_istore_n aX8_hand_57 (Nat.le_of_ble_eq_true rfl) ?_
              refine e_iinc aX8_hand_58 rfl rfl (Nat.le_of_ble_eq_true rfl) ?_
              refine e_goto aX8_hand_61 ?_
              refine e_ls (ls' := [(0, some (vR (some 32))), (1, some (vI (nI sz))), (2, some (vI (nI iz))), (3, some (vI (hnR (atB h sz (nI iz)) (k + 1)))), (4, some (vI (nI (k + 1))))]) ⟨rfl, rfl, rfl, congrArg (fun x => some (vI x)) ((hnR_s.trans (if_pos (decide_eq_true c48))).symm), congrArg (fun x => some (vI x)) (nI_1 k), trivial⟩ ?_
              exact ih (k + 1) (by omega)
      refine e_iconst (v := 0) aX8_hand_25 (by decide) ?_
      refine e_istore_n aX8_hand_26 (Nat.le_of_ble_eq_true rfl) ?_
      refine e_iconst (v := 0) aX8_hand_27 (by decide) ?_
      refine e_istore aX8_hand_28 (Nat.le_of_ble_eq_true rfl) ?_
      refine e_ls (ls' := [(0, some (vR (some 32))), (1, some (vI (nI sz))), (2, some (vI (nI iz))), (3, some (vI (hnR (atB h sz (nI iz)) 0))), (4, some (vI (nI 0)))]) ⟨rfl, rfl, rfl, rfl, rfl, trivial⟩ ?_
      exact loop 12 0 rfl
    · -- 16: not taken
      have q16 := Decidable.of_not_not (fun z => c16 (b2_0.mpr z))
      refine e_aload_n aX8_hand_19 rfl ?_
      refine e_iconst (v := 0) aX8_hand_20 (by decide) ?_
      refine e_invvT aX8_hand_21 kX8_62 (zfin X (k := 0) F (by decide)) rfl rfl (fx_is F rfl) (Nat.le_of_ble_eq_true rfl) (Nat.le_of_ble_eq_true rfl) (Nat.le_refl _) (Nat.le_refl _) (Nat.le_of_ble_eq_true rfl) ?_
      refine e_ireturn aX8_hand_24 rfl (Nat.le_refl _) (Nat.le_refl _) ?_
      rw [if_pos q8, if_pos q16]
      exact ⟨rfl, rfl⟩
theorem zX8_everOwners (X : EX) {h : HP} (F : Fx h) {f : Nat} {o : Nat → Nat} (bf : BkF h f o) {pz : Nat} (hp : pz < 12) : Ct X mX8_everOwners 2 0 0 [vR (some 32), vI (nI pz)] h (Rt (vI (evR (fun s => dgt (hI h 39 s) pz) (fo o f) (om f))) h) := by
  refine ct_of rfl (Nat.le_of_ble_eq_true rfl) ?_
  have hb6 := om_fo bf.2.1 bf.2.2.2
  have loop : ∀ (m : Nat) (k : Nat), k + m = om f → Ev X mX8_everOwners 2 0 0 (Rt (vI (evR (fun s => dgt (hI h 39 s) pz) (fo o f) (om f))) h) 0 0 19 [(0, some (vR (some 32))), (1, some (vI (nI pz))), (2, some (vI (evR (fun s => dgt (hI h 39 s) pz) (fo o f) k))), (3, some (vI (nI (fo o f + om f)))), (4, some (vI (nI (fo o f + k))))] [] h := by
    intro m
    induction m with
    | zero =>
      intro k hk
      obtain rfl : k = om f := by omega
      refine e_iload aX8_everOwners_19 rfl ?_
      refine e_iload_n aX8_everOwners_21 rfl ?_
      refine e_icmp_ge aX8_everOwners_22 (fun c22 => ?_) (fun c22 => ?_)
      · -- 22: taken
        refine e_iload_n aX8_everOwners_46 rfl ?_
        refine e_ireturn aX8_everOwners_47 rfl (Nat.le_refl _) (Nat.le_refl _) ?_
        exact ⟨rfl, rfl⟩
      · -- 22: not taken
        exact absurd (nI_le (by omega) (by omega)) c22
    | succ m ih =>
      intro k hk
      refine e_iload aX8_everOwners_19 rfl ?_
      refine e_iload_n aX8_everOwners_21 rfl ?_
      refine e_icmp_ge aX8_everOwners_22 (fun c22 => ?_) (fun c22 => ?_)
      · -- 22: taken
        exact absurd c22 (nI_ge (by omega) (by omega))
      · -- 22: not taken
        refine e_iload_n aX8_everOwners_25 rfl ?_
        refine e_iconst (v := 1) aX8_everOwners_26 (by decide) ?_
        refine e_aload_n aX8_everOwners_27 rfl ?_
        refine e_getRF aX8_everOwners_28 fX8_23 rfl (fx_is F rfl) (fx_r (b := 38) F rfl) ?_
        refine e_iload aX8_everOwners_31 rfl ?_
        refine e_iload_n aX8_everOwners_33 rfl ?_
        refine e_invvT aX8_everOwners_34 kX8_172 (zX2_at X F (s := fo o f + k) (by omega) hp) rfl rfl (fx_is F rfl) (Nat.le_of_ble_eq_true rfl) (Nat.le_of_ble_eq_true rfl) (Nat.le_refl _) (Nat.le_refl _) (Nat.le_of_ble_eq_true rfl) ?_
        refine e_ishl aX8_everOwners_37 ?_
        refine e_ior aX8_everOwners_38 ?_
        refine e_istore_n aX8_everOwners_39 (Nat.le_of_ble_eq_true rfl) ?_
        refine e_iinc aX8_everOwners_40 rfl rfl (Nat.le_of_ble_eq_true rfl) ?_
        refine e_goto aX8_everOwners_43 ?_
        refine e_ls (ls' := [(0, some (vR (some 32))), (1, some (vI (nI pz))), (2, some (vI (evR (fun s => dgt (hI h 39 s) pz) (fo o f) (k + 1)))), (3, some (vI (nI (fo o f + om f)))), (4, some (vI (nI (fo o f + (k + 1)))))]) ⟨rfl, rfl, rfl, rfl, congrArg (fun x => some (vI x)) (nI_1 (fo o f + k)), trivial⟩ ?_
        exact ih (k + 1) (by omega)
  refine e_iconst (v := 0) aX8_everOwners_0 (by decide) ?_
  refine e_istore_n aX8_everOwners_1 (Nat.le_of_ble_eq_true rfl) ?_
  refine e_aload_n aX8_everOwners_2 rfl ?_
  refine e_getRF aX8_everOwners_3 fX8_10 rfl (fx_is F rfl) (fx_r (b := 33) F rfl) ?_
  refine e_invvT aX8_everOwners_6 kX8_181 (zX0_endOpen X F bf) rfl rfl (fx_is F rfl) (Nat.le_of_ble_eq_true rfl) (Nat.le_of_ble_eq_true rfl) (Nat.le_refl _) (Nat.le_refl _) (Nat.le_of_ble_eq_true rfl) ?_
  refine e_istore_n aX8_everOwners_9 (Nat.le_of_ble_eq_true rfl) ?_
  refine e_aload_n aX8_everOwners_10 rfl ?_
  refine e_getRF aX8_everOwners_11 fX8_10 rfl (fx_is F rfl) (fx_r (b := 33) F rfl) ?_
  refine e_invvT aX8_everOwners_14 kX8_84 (zX0_firstOpen X F bf) rfl rfl (fx_is F rfl) (Nat.le_of_ble_eq_true rfl) (Nat.le_of_ble_eq_true rfl) (Nat.le_refl _) (Nat.le_refl _) (Nat.le_of_ble_eq_true rfl) ?_
  refine e_istore aX8_everOwners_17 (Nat.le_of_ble_eq_true rfl) ?_
  refine e_ls (ls' := [(0, some (vR (some 32))), (1, some (vI (nI pz))), (2, some (vI (evR (fun s => dgt (hI h 39 s) pz) (fo o f) 0))), (3, some (vI (nI (fo o f + om f)))), (4, some (vI (nI (fo o f + 0))))]) ⟨rfl, rfl, rfl, rfl, rfl, trivial⟩ ?_
  exact loop (om f) 0 (by omega)
theorem zX8_owners (X : EX) {h : HP} (F : Fx h) {f : Nat} {o : Nat → Nat} (bf : BkF h f o) (x : Int32) : Ct X mX8_owners 3 0 0 [vR (some 32), vI x] h (if x < 0 ∨ 12 ≤ x then RF h 0 else Rt (vI (evR (fun s => dgt (hI h 39 s) x.toNatClampNeg) (fo o f) (om f))) h) := by
  refine ct_of rfl (Nat.le_of_ble_eq_true rfl) ?_
  refine e_iload_n aX8_owners_0 rfl ?_
  refine e_bipush (v := 12) aX8_owners_1 (by decide) ?_
  refine e_invsT aX8_owners_3 kX8_58 (zX8_isOutside X _ _) rfl rfl (Nat.le_of_ble_eq_true rfl) (Nat.le_of_ble_eq_true rfl) (Nat.le_refl _) (Nat.le_refl _) (Nat.le_of_ble_eq_true rfl) ?_
  refine e_if_eq aX8_owners_6 (fun c6 => ?_) (fun c6 => ?_)
  · -- 6: taken
    have q6 := b2_0.mp c6
    obtain ⟨pz, hp, rfl⟩ := ou_of 12 (by decide) q6
    refine e_aload_n aX8_owners_17 rfl ?_
    refine e_iload_n aX8_owners_18 rfl ?_
    refine e_invvT aX8_owners_19 kX8_178 (zX8_everOwners X F bf hp) rfl rfl (fx_is F rfl) (Nat.le_of_ble_eq_true rfl) (Nat.le_of_ble_eq_true rfl) (Nat.le_refl _) (Nat.le_refl _) (Nat.le_of_ble_eq_true rfl) ?_
    refine e_ireturn aX8_owners_22 rfl (Nat.le_refl _) (Nat.le_refl _) ?_
    rw [if_neg q6, cl (by omega)]
    exact ⟨rfl, rfl⟩
  · -- 6: not taken
    have q6 := Decidable.of_not_not (fun z => c6 (b2_0.mpr z))
    refine e_aload_n aX8_owners_9 rfl ?_
    refine e_iconst (v := 0) aX8_owners_10 (by decide) ?_
    refine e_invvT aX8_owners_11 kX8_62 (zfin X (k := 0) F (by decide)) rfl rfl (fx_is F rfl) (Nat.le_of_ble_eq_true rfl) (Nat.le_of_ble_eq_true rfl) (Nat.le_refl _) (Nat.le_refl _) (Nat.le_of_ble_eq_true rfl) ?_
    refine e_goto aX8_owners_14 ?_
    refine e_ireturn aX8_owners_22 rfl (Nat.le_refl _) (Nat.le_refl _) ?_
    rw [if_pos q6]
    exact ⟨rfl, rfl⟩
theorem frW_t {P : Nat → Bool} {a m : Nat} (z : P a = true) : frW P a (m + 1) = some a := if_pos z
theorem frW_f {P : Nat → Bool} {a m : Nat} (z : ¬ P a = true) : frW P a (m + 1) = frW P (a + 1) m := if_neg z
theorem zX8_sure (X : EX) {h : HP} (F : Fx h) {f : Nat} {o : Nat → Nat} (bf : BkF h f o) (x : Int32) : Ct X mX8_sure 3 0 0 [vR (some 32), vI x] h (if x < 0 ∨ 12 ≤ x then RF h 0 else rO h (frW (fun k => decide ((evR (fun s => dgt (hI h 39 s) x.toNatClampNeg) (fo o f) (om f)) = (1 : Int32) <<< (nI k &&& 31))) 0 3)) := by
  refine ct_of rfl (Nat.le_of_ble_eq_true rfl) ?_
  refine e_iload_n aX8_sure_0 rfl ?_
  refine e_bipush (v := 12) aX8_sure_1 (by decide) ?_
  refine e_invsT aX8_sure_3 kX8_58 (zX8_isOutside X _ _) rfl rfl (Nat.le_of_ble_eq_true rfl) (Nat.le_of_ble_eq_true rfl) (Nat.le_refl _) (Nat.le_refl _) (Nat.le_of_ble_eq_true rfl) ?_
  refine e_if_eq aX8_sure_6 (fun c6 => ?_) (fun c6 => ?_)
  · -- 6: taken
    have q6 := b2_0.mp c6
    obtain ⟨pz, hp, rfl⟩ := ou_of 12 (by decide) q6
    rw [if_neg q6, cl (by omega)]
    have loop : ∀ (m : Nat) (k : Nat), k + m = 3 → frW (fun k => decide ((evR (fun s => dgt (hI h 39 s) pz) (fo o f) (om f)) = (1 : Int32) <<< (nI k &&& 31))) k m = frW (fun k => decide ((evR (fun s => dgt (hI h 39 s) pz) (fo o f) (om f)) = (1 : Int32) <<< (nI k &&& 31))) 0 3 → Ev X mX8_sure 3 0 0 (rO h (frW (fun k => decide ((evR (fun s => dgt (hI h 39 s) pz) (fo o f) (om f)) = (1 : Int32) <<< (nI k &&& 31))) 0 3)) 0 0 23 [(0, some (vR (some 32))), (2, some (vI (evR (fun s => dgt (hI h 39 s) pz) (fo o f) (om f)))), (3, some (vI (nI k)))] [] h := by
      intro m
      induction m with
      | zero =>
        intro k hk hR9
        obtain rfl : k = 3 := by omega
        refine e_iload_n aX8_sure_23 rfl ?_
        refine e_iconst (v := 3) aX8_sure_24 (by decide) ?_
        refine e_icmp_ge aX8_sure_25 (fun c25 => ?_) (fun c25 => ?_)
        · -- 25: taken
          refine e_aload_n aX8_sure_43 rfl ?_
          refine e_iconst (v := 3) aX8_sure_44 (by decide) ?_
          refine e_invvT aX8_sure_45 kX8_62 (zfin X (k := 3) F (by decide)) rfl rfl (fx_is F rfl) (Nat.le_of_ble_eq_true rfl) (Nat.le_of_ble_eq_true rfl) (Nat.le_refl _) (Nat.le_refl _) (Nat.le_of_ble_eq_true rfl) ?_
          refine e_ireturn aX8_sure_48 rfl (Nat.le_refl _) (Nat.le_refl _) ?_
          rw [← hR9]
          exact ⟨rfl, rfl⟩
        · -- 25: not taken
          exact absurd (nI_le (a := 3) (b := 3) (by decide) (by decide)) c25
      | succ m ih =>
        intro k hk hR9
        refine e_iload_n aX8_sure_23 rfl ?_
        refine e_iconst (v := 3) aX8_sure_24 (by decide) ?_
        refine e_icmp_ge aX8_sure_25 (fun c25 => ?_) (fun c25 => ?_)
        · -- 25: taken
          exact absurd c25 (nI_ge (a := k) (b := 3) (by omega) (by decide))
        · -- 25: not taken
          refine e_iload_n aX8_sure_28 rfl ?_
          refine e_iconst (v := 1) aX8_sure_29 (by decide) ?_
          refine e_iload_n aX8_sure_30 rfl ?_
          refine e_ishl aX8_sure_31 ?_
          refine e_icmp_ne aX8_sure_32 (fun c32 => ?_) (fun c32 => ?_)
          · -- 32: taken
            refine e_iinc aX8_sure_37 rfl rfl (Nat.le_of_ble_eq_true rfl) ?_
            refine e_goto aX8_sure_40 ?_
            refine e_ls (ls' := [(0, some (vR (some 32))), (2, some (vI (evR (fun s => dgt (hI h 39 s) pz) (fo o f) (om f)))), (3, some (vI (nI (k + 1))))]) ⟨rfl, rfl, congrArg (fun x => some (vI x)) (nI_1 k), trivial⟩ ?_
            exact ih (k + 1) (by omega) (by rw [← hR9, frW_f (fun z => c32 (of_decide_eq_true z))])
          · -- 32: not taken
            refine e_iload_n aX8_sure_35 rfl ?_
            refine e_ireturn aX8_sure_36 rfl (Nat.le_refl _) (Nat.le_refl _) ?_
            rw [← hR9, frW_t (decide_eq_true c32)]
            exact ⟨rfl, rfl⟩
    refine e_aload_n aX8_sure_15 rfl ?_
    refine e_iload_n aX8_sure_16 rfl ?_
    refine e_invvT aX8_sure_17 kX8_178 (zX8_everOwners X F bf hp) rfl rfl (fx_is F rfl) (Nat.le_of_ble_eq_true rfl) (Nat.le_of_ble_eq_true rfl) (Nat.le_refl _) (Nat.le_refl _) (Nat.le_of_ble_eq_true rfl) ?_
    refine e_istore_n aX8_sure_20 (Nat.le_of_ble_eq_true rfl) ?_
    refine e_iconst (v := 0) aX8_sure_21 (by decide) ?_
    refine e_istore_n aX8_sure_22 (Nat.le_of_ble_eq_true rfl) ?_
    refine e_ls (ls' := [(0, some (vR (some 32))), (2, some (vI (evR (fun s => dgt (hI h 39 s) pz) (fo o f) (om f)))), (3, some (vI (nI 0)))]) ⟨rfl, rfl, rfl, trivial⟩ ?_
    exact loop 3 0 rfl rfl
  · -- 6: not taken
    have q6 := Decidable.of_not_not (fun z => c6 (b2_0.mpr z))
    refine e_aload_n aX8_sure_9 rfl ?_
    refine e_iconst (v := 0) aX8_sure_10 (by decide) ?_
    refine e_invvT aX8_sure_11 kX8_62 (zfin X (k := 0) F (by decide)) rfl rfl (fx_is F rfl) (Nat.le_of_ble_eq_true rfl) (Nat.le_of_ble_eq_true rfl) (Nat.le_refl _) (Nat.le_refl _) (Nat.le_of_ble_eq_true rfl) ?_
    refine e_ireturn aX8_sure_14 rfl (Nat.le_refl _) (Nat.le_refl _) ?_
    rw [if_pos q6]
    exact ⟨rfl, rfl⟩
theorem zX8_chance (X : EX) {h : HP} (F : Fx h) {f : Nat} {o : Nat → Nat} (bf : BkF h f o) (x y : Int32) : Ct X mX8_chance 2 0 0 [vR (some 32), vI x, vI y] h (if x < 0 ∨ 12 ≤ x then RF h 0 else if y < 0 ∨ 3 ≤ y then RF h 0 else Rt (vI (nI (cnW (atS h x.toNatClampNeg y) (fo o f) (om f)))) h) := by
  refine ct_of rfl (Nat.le_of_ble_eq_true rfl) ?_
  have hb6 := om_fo bf.2.1 bf.2.2.2
  refine e_iload_n aX8_chance_0 rfl ?_
  refine e_bipush (v := 12) aX8_chance_1 (by decide) ?_
  refine e_invsT aX8_chance_3 kX8_58 (zX8_isOutside X _ _) rfl rfl (Nat.le_of_ble_eq_true rfl) (Nat.le_of_ble_eq_true rfl) (Nat.le_refl _) (Nat.le_refl _) (Nat.le_of_ble_eq_true rfl) ?_
  refine e_if_ne aX8_chance_6 (fun c6 => ?_) (fun c6 => ?_)
  · -- 6: taken
    have q6 := Decidable.of_not_not (fun z => c6 (b2_0.mpr z))
    refine e_aload_n aX8_chance_17 rfl ?_
    refine e_iconst (v := 0) aX8_chance_18 (by decide) ?_
    refine e_invvT aX8_chance_19 kX8_62 (zfin X (k := 0) F (by decide)) rfl rfl (fx_is F rfl) (Nat.le_of_ble_eq_true rfl) (Nat.le_of_ble_eq_true rfl) (Nat.le_refl _) (Nat.le_refl _) (Nat.le_of_ble_eq_true rfl) ?_
    refine e_ireturn aX8_chance_22 rfl (Nat.le_refl _) (Nat.le_refl _) ?_
    rw [if_pos q6]
    exact ⟨rfl, rfl⟩
  · -- 6: not taken
    have q6 := b2_0.mp c6
    obtain ⟨pz, hp, rfl⟩ := ou_of 12 (by decide) q6
    refine e_iload_n aX8_chance_9 rfl ?_
    refine e_iconst (v := 3) aX8_chance_10 (by decide) ?_
    refine e_invsT aX8_chance_11 kX8_58 (zX8_isOutside X _ _) rfl rfl (Nat.le_of_ble_eq_true rfl) (Nat.le_of_ble_eq_true rfl) (Nat.le_refl _) (Nat.le_refl _) (Nat.le_of_ble_eq_true rfl) ?_
    refine e_if_eq aX8_chance_14 (fun c14 => ?_) (fun c14 => ?_)
    · -- 14: taken
      have q14 := b2_0.mp c14
      obtain ⟨iz, hi3, rfl⟩ := ou_of 3 (by decide) q14
      rw [if_neg q6, if_neg q14, cl (by omega)]
      have loop : ∀ (m : Nat) (k : Nat), k + m = om f → Ev X mX8_chance 2 0 0 (Rt (vI (nI (cnW (atS h pz (nI iz)) (fo o f) (om f)))) h) 0 0 43 [(0, some (vR (some 32))), (1, some (vI (nI pz))), (2, some (vI (nI iz))), (3, some (vI (nI (cnW (atS h pz (nI iz)) (fo o f) k)))), (4, some (vI (nI (fo o f + om f)))), (5, some (vI (nI (fo o f + k))))] [] h := by
        intro m
        induction m with
        | zero =>
          intro k hk
          obtain rfl : k = om f := by omega
          refine e_iload aX8_chance_43 rfl ?_
          refine e_iload aX8_chance_45 rfl ?_
          refine e_icmp_ge aX8_chance_47 (fun c47 => ?_) (fun c47 => ?_)
          · -- 47: taken
            refine e_iload_n aX8_chance_73 rfl ?_
            refine e_ireturn aX8_chance_74 rfl (Nat.le_refl _) (Nat.le_refl _) ?_
            exact ⟨rfl, rfl⟩
          · -- 47: not taken
            exact absurd (nI_le (by omega) (by omega)) c47
        | succ m ih =>
          intro k hk
          refine e_iload aX8_chance_43 rfl ?_
          refine e_iload aX8_chance_45 rfl ?_
          refine e_icmp_ge aX8_chance_47 (fun c47 => ?_) (fun c47 => ?_)
          · -- 47: taken
            exact absurd c47 (nI_ge (by omega) (by omega))
          · -- 47: not taken
            refine e_aload_n aX8_chance_50 rfl ?_
            refine e_getRF aX8_chance_51 fX8_23 rfl (fx_is F rfl) (fx_r (b := 38) F rfl) ?_
            refine e_iload aX8_chance_54 rfl ?_
            refine e_iload_n aX8_chance_56 rfl ?_
            refine e_invvT aX8_chance_57 kX8_172 (zX2_at X F (s := fo o f + k) (by omega) hp) rfl rfl (fx_is F rfl) (Nat.le_of_ble_eq_true rfl) (Nat.le_of_ble_eq_true rfl) (Nat.le_refl _) (Nat.le_refl _) (Nat.le_of_ble_eq_true rfl) ?_
            refine e_iload_n aX8_chance_60 rfl ?_
            refine e_icmp_ne aX8_chance_61 (fun c61 => ?_) (fun c61 => ?_)
            · -- 61: taken
              refine e_iinc aX8_chance_67 rfl rfl (Nat.le_of_ble_eq_true rfl) ?_
              refine e_goto aX8_chance_70 ?_
              refine e_ls (ls' := [(0, some (vR (some 32))), (1, some (vI (nI pz))), (2, some (vI (nI iz))), (3, some (vI (nI (cnW (atS h pz (nI iz)) (fo o f) (k + 1))))), (4, some (vI (nI (fo o f + om f)))), (5, some (vI (nI (fo o f + (k + 1)))))]) ⟨rfl, rfl, rfl, congrArg (fun x => some (vI x)) (congrArg nI (cnW_f (P := (atS h pz (nI iz))) (a := fo o f) (m := k) (decide_eq_false c61)).symm), rfl, congrArg (fun x => some (vI x)) (nI_1 (fo o f + k)), trivial⟩ ?_
              exact ih (k + 1) (by omega)
            · -- 61: not taken
              refine e_iinc aX8_chance_64 rfl rfl (Nat.le_of_ble_eq_true rfl) ?_
              refine e_iinc aX8_chance_67 rfl rfl (Nat.le_of_ble_eq_true rfl) ?_
              refine e_goto aX8_chance_70 ?_
              refine e_ls (ls' := [(0, some (vR (some 32))), (1, some (vI (nI pz))), (2, some (vI (nI iz))), (3, some (vI (nI (cnW (atS h pz (nI iz)) (fo o f) (k + 1))))), (4, some (vI (nI (fo o f + om f)))), (5, some (vI (nI (fo o f + (k + 1)))))]) ⟨rfl, rfl, rfl, congrArg (fun x => some (vI x)) ((nI_1 _).trans (congrArg nI (cnW_t (P := (atS h pz (nI iz))) (a := fo o f) (m := k) (decide_eq_true c61)).symm)), rfl, congrArg (fun x => some (vI x)) (nI_1 (fo o f + k)), trivial⟩ ?_
              exact ih (k + 1) (by omega)
      refine e_iconst (v := 0) aX8_chance_23 (by decide) ?_
      refine e_istore_n aX8_chance_24 (Nat.le_of_ble_eq_true rfl) ?_
      refine e_aload_n aX8_chance_25 rfl ?_
      refine e_getRF aX8_chance_26 fX8_10 rfl (fx_is F rfl) (fx_r (b := 33) F rfl) ?_
      refine e_invvT aX8_chance_29 kX8_181 (zX0_endOpen X F bf) rfl rfl (fx_is F rfl) (Nat.le_of_ble_eq_true rfl) (Nat.le_of_ble_eq_true rfl) (Nat.le_refl _) (Nat.le_refl _) (Nat.le_of_ble_eq_true rfl) ?_
      refine e_istore aX8_chance_32 (Nat.le_of_ble_eq_true rfl) ?_
      refine e_aload_n aX8_chance_34 rfl ?_
      refine e_getRF aX8_chance_35 fX8_10 rfl (fx_is F rfl) (fx_r (b := 33) F rfl) ?_
      refine e_invvT aX8_chance_38 kX8_84 (zX0_firstOpen X F bf) rfl rfl (fx_is F rfl) (Nat.le_of_ble_eq_true rfl) (Nat.le_of_ble_eq_true rfl) (Nat.le_refl _) (Nat.le_refl _) (Nat.le_of_ble_eq_true rfl) ?_
      refine e_istore aX8_chance_41 (Nat.le_of_ble_eq_true rfl) ?_
      refine e_ls (ls' := [(0, some (vR (some 32))), (1, some (vI (nI pz))), (2, some (vI (nI iz))), (3, some (vI (nI (cnW (atS h pz (nI iz)) (fo o f) 0)))), (4, some (vI (nI (fo o f + om f)))), (5, some (vI (nI (fo o f + 0))))]) ⟨rfl, rfl, rfl, rfl, rfl, rfl, trivial⟩ ?_
      exact loop (om f) 0 (by omega)
    · -- 14: not taken
      have q14 := Decidable.of_not_not (fun z => c14 (b2_0.mpr z))
      refine e_aload_n aX8_chance_17 rfl ?_
      refine e_iconst (v := 0) aX8_chance_18 (by decide) ?_
      refine e_invvT aX8_chance_19 kX8_62 (zfin X (k := 0) F (by decide)) rfl rfl (fx_is F rfl) (Nat.le_of_ble_eq_true rfl) (Nat.le_of_ble_eq_true rfl) (Nat.le_refl _) (Nat.le_refl _) (Nat.le_of_ble_eq_true rfl) ?_
      refine e_ireturn aX8_chance_22 rfl (Nat.le_refl _) (Nat.le_refl _) ?_
      rw [if_neg q6, if_pos q14]
      exact ⟨rfl, rfl⟩
theorem zX8_least (X : EX) {h : HP} (F : Fx h) {f : Nat} {o : Nat → Nat} (bf : BkF h f o) (x y : Int32) : Ct X mX8_least 2 0 0 [vR (some 32), vI x, vI y] h (if x < 0 ∨ 12 ≤ x then RF h 0 else if y < 0 ∨ 3 ≤ y then RF h 0 else rO h (frW (atS h x.toNatClampNeg y) (fo o f) (om f))) := by
  refine ct_of rfl (Nat.le_of_ble_eq_true rfl) ?_
  have hb6 := om_fo bf.2.1 bf.2.2.2
  refine e_iload_n aX8_least_0 rfl ?_
  refine e_bipush (v := 12) aX8_least_1 (by decide) ?_
  refine e_invsT aX8_least_3 kX8_58 (zX8_isOutside X _ _) rfl rfl (Nat.le_of_ble_eq_true rfl) (Nat.le_of_ble_eq_true rfl) (Nat.le_refl _) (Nat.le_refl _) (Nat.le_of_ble_eq_true rfl) ?_
  refine e_if_ne aX8_least_6 (fun c6 => ?_) (fun c6 => ?_)
  · -- 6: taken
    have q6 := Decidable.of_not_not (fun z => c6 (b2_0.mpr z))
    refine e_aload_n aX8_least_17 rfl ?_
    refine e_iconst (v := 0) aX8_least_18 (by decide) ?_
    refine e_invvT aX8_least_19 kX8_62 (zfin X (k := 0) F (by decide)) rfl rfl (fx_is F rfl) (Nat.le_of_ble_eq_true rfl) (Nat.le_of_ble_eq_true rfl) (Nat.le_refl _) (Nat.le_refl _) (Nat.le_of_ble_eq_true rfl) ?_
    refine e_ireturn aX8_least_22 rfl (Nat.le_refl _) (Nat.le_refl _) ?_
    rw [if_pos q6]
    exact ⟨rfl, rfl⟩
  · -- 6: not taken
    have q6 := b2_0.mp c6
    obtain ⟨pz, hp, rfl⟩ := ou_of 12 (by decide) q6
    refine e_iload_n aX8_least_9 rfl ?_
    refine e_iconst (v := 3) aX8_least_10 (by decide) ?_
    refine e_invsT aX8_least_11 kX8_58 (zX8_isOutside X _ _) rfl rfl (Nat.le_of_ble_eq_true rfl) (Nat.le_of_ble_eq_true rfl) (Nat.le_refl _) (Nat.le_refl _) (Nat.le_of_ble_eq_true rfl) ?_
    refine e_if_eq aX8_least_14 (fun c14 => ?_) (fun c14 => ?_)
    · -- 14: taken
      have q14 := b2_0.mp c14
      obtain ⟨iz, hi3, rfl⟩ := ou_of 3 (by decide) q14
      rw [if_neg q6, if_neg q14, cl (by omega)]
      have loop : ∀ (m : Nat) (k : Nat), k + m = (fo o f + om f) → frW (atS h pz (nI iz)) k m = frW (atS h pz (nI iz)) (fo o f) (om f) → Ev X mX8_least 2 0 0 (rO h (frW (atS h pz (nI iz)) (fo o f) (om f))) 0 0 40 [(0, some (vR (some 32))), (1, some (vI (nI pz))), (2, some (vI (nI iz))), (3, some (vI (nI (fo o f + om f)))), (4, some (vI (nI k)))] [] h := by
        intro m
        induction m with
        | zero =>
          intro k hk hR9
          obtain rfl : k = (fo o f + om f) := by omega
          refine e_iload aX8_least_40 rfl ?_
          refine e_iload_n aX8_least_42 rfl ?_
          refine e_icmp_ge aX8_least_43 (fun c43 => ?_) (fun c43 => ?_)
          · -- 43: taken
            refine e_aload_n aX8_least_69 rfl ?_
            refine e_iconst (v := 3) aX8_least_70 (by decide) ?_
            refine e_invvT aX8_least_71 kX8_62 (zfin X (k := 3) F (by decide)) rfl rfl (fx_is F rfl) (Nat.le_of_ble_eq_true rfl) (Nat.le_of_ble_eq_true rfl) (Nat.le_refl _) (Nat.le_refl _) (Nat.le_of_ble_eq_true rfl) ?_
            refine e_ireturn aX8_least_74 rfl (Nat.le_refl _) (Nat.le_refl _) ?_
            rw [← hR9]
            exact ⟨rfl, rfl⟩
          · -- 43: not taken
            exact absurd (nI_le (by omega) (by omega)) c43
        | succ m ih =>
          intro k hk hR9
          refine e_iload aX8_least_40 rfl ?_
          refine e_iload_n aX8_least_42 rfl ?_
          refine e_icmp_ge aX8_least_43 (fun c43 => ?_) (fun c43 => ?_)
          · -- 43: taken
            exact absurd c43 (nI_ge (by omega) (by omega))
          · -- 43: not taken
            refine e_aload_n aX8_least_46 rfl ?_
            refine e_getRF aX8_least_47 fX8_23 rfl (fx_is F rfl) (fx_r (b := 38) F rfl) ?_
            refine e_iload aX8_least_50 rfl ?_
            refine e_iload_n aX8_least_52 rfl ?_
            refine e_invvT aX8_least_53 kX8_172 (zX2_at X F (s := k) (by omega) hp) rfl rfl (fx_is F rfl) (Nat.le_of_ble_eq_true rfl) (Nat.le_of_ble_eq_true rfl) (Nat.le_refl _) (Nat.le_refl _) (Nat.le_of_ble_eq_true rfl) ?_
            refine e_iload_n aX8_least_56 rfl ?_
            refine e_icmp_ne aX8_least_57 (fun c57 => ?_) (fun c57 => ?_)
            · -- 57: taken
              refine e_iinc aX8_least_63 rfl rfl (Nat.le_of_ble_eq_true rfl) ?_
              refine e_goto aX8_least_66 ?_
              refine e_ls (ls' := [(0, some (vR (some 32))), (1, some (vI (nI pz))), (2, some (vI (nI iz))), (3, some (vI (nI (fo o f + om f)))), (4, some (vI (nI (k + 1))))]) ⟨rfl, rfl, rfl, rfl, congrArg (fun x => some (vI x)) (nI_1 k), trivial⟩ ?_
              exact ih (k + 1) (by omega) (by rw [← hR9, frW_f (fun z => c57 (of_decide_eq_true z))])
            · -- 57: not taken
              refine e_iload aX8_least_60 rfl ?_
              refine e_ireturn aX8_least_62 rfl (Nat.le_refl _) (Nat.le_refl _) ?_
              rw [← hR9, frW_t (decide_eq_true c57)]
              exact ⟨rfl, rfl⟩
      refine e_aload_n aX8_least_23 rfl ?_
      refine e_getRF aX8_least_24 fX8_10 rfl (fx_is F rfl) (fx_r (b := 33) F rfl) ?_
      refine e_invvT aX8_least_27 kX8_181 (zX0_endOpen X F bf) rfl rfl (fx_is F rfl) (Nat.le_of_ble_eq_true rfl) (Nat.le_of_ble_eq_true rfl) (Nat.le_refl _) (Nat.le_refl _) (Nat.le_of_ble_eq_true rfl) ?_
      refine e_istore_n aX8_least_30 (Nat.le_of_ble_eq_true rfl) ?_
      refine e_aload_n aX8_least_31 rfl ?_
      refine e_getRF aX8_least_32 fX8_10 rfl (fx_is F rfl) (fx_r (b := 33) F rfl) ?_
      refine e_invvT aX8_least_35 kX8_84 (zX0_firstOpen X F bf) rfl rfl (fx_is F rfl) (Nat.le_of_ble_eq_true rfl) (Nat.le_of_ble_eq_true rfl) (Nat.le_refl _) (Nat.le_refl _) (Nat.le_of_ble_eq_true rfl) ?_
      refine e_istore aX8_least_38 (Nat.le_of_ble_eq_true rfl) ?_
      refine e_ls (ls' := [(0, some (vR (some 32))), (1, some (vI (nI pz))), (2, some (vI (nI iz))), (3, some (vI (nI (fo o f + om f)))), (4, some (vI (nI (fo o f))))]) ⟨rfl, rfl, rfl, rfl, rfl, trivial⟩ ?_
      exact loop (om f) (fo o f) (by omega) rfl
    · -- 14: not taken
      have q14 := Decidable.of_not_not (fun z => c14 (b2_0.mpr z))
      refine e_aload_n aX8_least_17 rfl ?_
      refine e_iconst (v := 0) aX8_least_18 (by decide) ?_
      refine e_invvT aX8_least_19 kX8_62 (zfin X (k := 0) F (by decide)) rfl rfl (fx_is F rfl) (Nat.le_of_ble_eq_true rfl) (Nat.le_of_ble_eq_true rfl) (Nat.le_refl _) (Nat.le_refl _) (Nat.le_of_ble_eq_true rfl) ?_
      refine e_ireturn aX8_least_22 rfl (Nat.le_refl _) (Nat.le_refl _) ?_
      rw [if_neg q6, if_pos q14]
      exact ⟨rfl, rfl⟩
end
section
/-! contracts: worth, value, best, hope (written by wip/p45/g27.py) -/
theorem zX8_worthUnder (X : EX) {h : HP} (F : Fx h) {s : Nat} (hs : s < 1296) (y : Int32) : Ct X mX8_worthUnder 1 0 0 [vR (some 32), vI (nI s), vI y] h (Rt (vI (wuR h s y 12)) h) := by
  refine ct_of rfl (Nat.le_of_ble_eq_true rfl) ?_
  have loop : ∀ (m : Nat) (k : Nat), k + m = 12 → Ev X mX8_worthUnder 1 0 0 (Rt (vI (wuR h s y 12)) h) 0 0 5 [(0, some (vR (some 32))), (1, some (vI (nI s))), (2, some (vI y)), (3, some (vI (wuR h s y k))), (4, some (vI (nI k)))] [] h := by
    intro m
    induction m with
    | zero =>
      intro k hk
      obtain rfl : k = 12 := by omega
      refine e_iload aX8_worthUnder_5 rfl ?_
      refine e_bipush (v := 12) aX8_worthUnder_7 (by decide) ?_
      refine e_icmp_ge aX8_worthUnder_9 (fun c9 => ?_) (fun c9 => ?_)
      · -- 9: taken
        refine e_iload_n aX8_worthUnder_49 rfl ?_
        refine e_ireturn aX8_worthUnder_50 rfl (Nat.le_refl _) (Nat.le_refl _) ?_
        exact ⟨rfl, rfl⟩
      · -- 9: not taken
        exact absurd (nI_le (a := 12) (b := 12) (by decide) (by decide)) c9
    | succ m ih =>
      intro k hk
      refine e_iload aX8_worthUnder_5 rfl ?_
      refine e_bipush (v := 12) aX8_worthUnder_7 (by decide) ?_
      refine e_icmp_ge aX8_worthUnder_9 (fun c9 => ?_) (fun c9 => ?_)
      · -- 9: taken
        exact absurd c9 (nI_ge (a := k) (b := 12) (by omega) (by decide))
      · -- 9: not taken
        refine e_aload_n aX8_worthUnder_12 rfl ?_
        refine e_getRF aX8_worthUnder_13 fX8_23 rfl (fx_is F rfl) (fx_r (b := 38) F rfl) ?_
        refine e_iload_n aX8_worthUnder_16 rfl ?_
        refine e_iload aX8_worthUnder_17 rfl ?_
        refine e_invvT aX8_worthUnder_19 kX8_172 (zX2_at X F (s := s) (p := k) hs (by omega)) rfl rfl (fx_is F rfl) (Nat.le_of_ble_eq_true rfl) (Nat.le_of_ble_eq_true rfl) (Nat.le_refl _) (Nat.le_refl _) (Nat.le_of_ble_eq_true rfl) ?_
        refine e_iload_n aX8_worthUnder_22 rfl ?_
        refine e_icmp_ne aX8_worthUnder_23 (fun c23 => ?_) (fun c23 => ?_)
        · -- 23: taken
          refine e_iinc aX8_worthUnder_43 rfl rfl (Nat.le_of_ble_eq_true rfl) ?_
          refine e_goto aX8_worthUnder_46 ?_
          refine e_ls (ls' := [(0, some (vR (some 32))), (1, some (vI (nI s))), (2, some (vI y)), (3, some (vI (wuR h s y (k + 1)))), (4, some (vI (nI (k + 1))))]) ⟨rfl, rfl, rfl, congrArg (fun x => some (vI x)) ((wuR_s.trans (if_neg c23)).symm), congrArg (fun x => some (vI x)) (nI_1 k), trivial⟩ ?_
          exact ih (k + 1) (by omega)
        · -- 23: not taken
          refine e_iload_n aX8_worthUnder_26 rfl ?_
          refine e_aload_n aX8_worthUnder_27 rfl ?_
          refine e_getRF aX8_worthUnder_28 fX8_10 rfl (fx_is F rfl) (fx_r (b := 33) F rfl) ?_
          refine e_getRF aX8_worthUnder_31 fX8_184 rfl (fx_is F rfl) (fx_r (b := 36) F rfl) ?_
          refine e_iload_n aX8_worthUnder_34 rfl ?_
          refine e_iload aX8_worthUnder_35 rfl ?_
          refine e_invsT aX8_worthUnder_37 kX8_69 (zX8_placeUnder X hs (p := k) (by omega)) rfl rfl (Nat.le_of_ble_eq_true rfl) (Nat.le_of_ble_eq_true rfl) (Nat.le_refl _) (Nat.le_refl _) (Nat.le_of_ble_eq_true rfl) ?_
          refine e_ialoadF aX8_worthUnder_40 (fx_is F rfl) (fx_n (n := 3) F rfl) (vin (N := 3) (pl_lt s k)) (show hI h 36 (nI (pl s k)).toNatClampNeg = hI h 36 (pl s k) by rw [cl (by have := pl_lt s k; omega)]) ?_
          refine e_iadd aX8_worthUnder_41 ?_
          refine e_istore_n aX8_worthUnder_42 (Nat.le_of_ble_eq_true rfl) ?_
          refine e_iinc aX8_worthUnder_43 rfl rfl (Nat.le_of_ble_eq_true rfl) ?_
          refine e_goto aX8_worthUnder_46 ?_
          refine e_ls (ls' := [(0, some (vR (some 32))), (1, some (vI (nI s))), (2, some (vI y)), (3, some (vI (wuR h s y (k + 1)))), (4, some (vI (nI (k + 1))))]) ⟨rfl, rfl, rfl, congrArg (fun x => some (vI x)) ((wuR_s.trans (if_pos c23)).symm), congrArg (fun x => some (vI x)) (nI_1 k), trivial⟩ ?_
          exact ih (k + 1) (by omega)
  refine e_iconst (v := 0) aX8_worthUnder_0 (by decide) ?_
  refine e_istore_n aX8_worthUnder_1 (Nat.le_of_ble_eq_true rfl) ?_
  refine e_iconst (v := 0) aX8_worthUnder_2 (by decide) ?_
  refine e_istore aX8_worthUnder_3 (Nat.le_of_ble_eq_true rfl) ?_
  refine e_ls (ls' := [(0, some (vR (some 32))), (1, some (vI (nI s))), (2, some (vI y)), (3, some (vI (wuR h s y 0))), (4, some (vI (nI 0)))]) ⟨rfl, rfl, rfl, rfl, rfl, trivial⟩ ?_
  exact loop 12 0 rfl
theorem zX8_worth (X : EX) {h : HP} (F : Fx h) {f : Nat} {o : Nat → Nat} (bf : BkF h f o) (x y : Int32) : Ct X mX8_worth 3 0 0 [vR (some 32), vI x, vI y] h (if nI (fo o f) ≤ x ∧ x < nI (fo o f + om f) then if y < 0 ∨ 3 ≤ y then RF h 0 else Rt (vI (wuR h x.toNatClampNeg y 12)) h else RF h 0) := by
  refine ct_of rfl (Nat.le_of_ble_eq_true rfl) ?_
  have hb6 := om_fo bf.2.1 bf.2.2.2
  refine e_aload_n aX8_worth_0 rfl ?_
  refine e_getRF aX8_worth_1 fX8_10 rfl (fx_is F rfl) (fx_r (b := 33) F rfl) ?_
  refine e_iload_n aX8_worth_4 rfl ?_
  refine e_invvT aX8_worth_5 kX8_169 (zX0_isOpen X F bf _) rfl rfl (fx_is F rfl) (Nat.le_of_ble_eq_true rfl) (Nat.le_of_ble_eq_true rfl) (Nat.le_refl _) (Nat.le_refl _) (Nat.le_of_ble_eq_true rfl) ?_
  refine e_if_eq aX8_worth_8 (fun c8 => ?_) (fun c8 => ?_)
  · -- 8: taken
    have q8 := b2_0.mp c8
    refine e_aload_n aX8_worth_19 rfl ?_
    refine e_iconst (v := 0) aX8_worth_20 (by decide) ?_
    refine e_invvT aX8_worth_21 kX8_62 (zfin X (k := 0) F (by decide)) rfl rfl (fx_is F rfl) (Nat.le_of_ble_eq_true rfl) (Nat.le_of_ble_eq_true rfl) (Nat.le_refl _) (Nat.le_refl _) (Nat.le_of_ble_eq_true rfl) ?_
    refine e_ireturn aX8_worth_24 rfl (Nat.le_refl _) (Nat.le_refl _) ?_
    rw [if_neg q8]
    exact ⟨rfl, rfl⟩
  · -- 8: not taken
    have q8 := Decidable.of_not_not (fun z => c8 (b2_0.mpr z))
    obtain ⟨sz, hs1, hs2, rfl⟩ := opn_of (Nat.le_add_right _ _) hb6 q8
    refine e_iload_n aX8_worth_11 rfl ?_
    refine e_iconst (v := 3) aX8_worth_12 (by decide) ?_
    refine e_invsT aX8_worth_13 kX8_58 (zX8_isOutside X _ _) rfl rfl (Nat.le_of_ble_eq_true rfl) (Nat.le_of_ble_eq_true rfl) (Nat.le_refl _) (Nat.le_refl _) (Nat.le_of_ble_eq_true rfl) ?_
    refine e_if_eq aX8_worth_16 (fun c16 => ?_) (fun c16 => ?_)
    · -- 16: taken
      have q16 := b2_0.mp c16
      refine e_aload_n aX8_worth_25 rfl ?_
      refine e_iload_n aX8_worth_26 rfl ?_
      refine e_iload_n aX8_worth_27 rfl ?_
      refine e_invvT aX8_worth_28 kX8_187 (zX8_worthUnder X F (s := sz) (by omega) y) rfl rfl (fx_is F rfl) (Nat.le_of_ble_eq_true rfl) (Nat.le_of_ble_eq_true rfl) (Nat.le_refl _) (Nat.le_refl _) (Nat.le_of_ble_eq_true rfl) ?_
      refine e_ireturn aX8_worth_31 rfl (Nat.le_refl _) (Nat.le_refl _) ?_
      rw [if_pos q8, if_neg q16, cl (by omega)]
      exact ⟨rfl, rfl⟩
    · -- 16: not taken
      have q16 := Decidable.of_not_not (fun z => c16 (b2_0.mpr z))
      refine e_aload_n aX8_worth_19 rfl ?_
      refine e_iconst (v := 0) aX8_worth_20 (by decide) ?_
      refine e_invvT aX8_worth_21 kX8_62 (zfin X (k := 0) F (by decide)) rfl rfl (fx_is F rfl) (Nat.le_of_ble_eq_true rfl) (Nat.le_of_ble_eq_true rfl) (Nat.le_refl _) (Nat.le_refl _) (Nat.le_of_ble_eq_true rfl) ?_
      refine e_ireturn aX8_worth_24 rfl (Nat.le_refl _) (Nat.le_refl _) ?_
      rw [if_pos q8, if_pos q16]
      exact ⟨rfl, rfl⟩
theorem zX8_worthOver (X : EX) {h : HP} (F : Fx h) {a q : Nat} (ha : a + q ≤ 1296) (y : Int32) : Ct X mX8_worthOver 2 0 0 [vR (some 32), vI (nI a), vI (nI (a + q)), vI y] h (Rt (vL (woR h y a q)) h) := by
  refine ct_of rfl (Nat.le_of_ble_eq_true rfl) ?_
  have loop : ∀ (m : Nat) (k : Nat), k + m = q → Ev X mX8_worthOver 2 0 0 (Rt (vL (woR h y a q)) h) 0 0 6 [(0, some (vR (some 32))), (2, some (vI (nI (a + q)))), (3, some (vI y)), (4, some (vL (woR h y a k))), (6, some (vI (nI (a + k))))] [] h := by
    intro m
    induction m with
    | zero =>
      intro k hk
      obtain rfl : k = q := by omega
      refine e_iload aX8_worthOver_6 rfl ?_
      refine e_iload_n aX8_worthOver_8 rfl ?_
      refine e_icmp_ge aX8_worthOver_9 (fun c9 => ?_) (fun c9 => ?_)
      · -- 9: taken
        refine e_lload aX8_worthOver_31 rfl ?_
        refine e_lreturn aX8_worthOver_33 rfl (Nat.le_refl _) (Nat.le_refl _) ?_
        exact ⟨rfl, rfl⟩
      · -- 9: not taken
        exact absurd (nI_le (by omega) (by omega)) c9
    | succ m ih =>
      intro k hk
      refine e_iload aX8_worthOver_6 rfl ?_
      refine e_iload_n aX8_worthOver_8 rfl ?_
      refine e_icmp_ge aX8_worthOver_9 (fun c9 => ?_) (fun c9 => ?_)
      · -- 9: taken
        exact absurd c9 (nI_ge (by omega) (by omega))
      · -- 9: not taken
        refine e_lload aX8_worthOver_12 rfl ?_
        refine e_aload_n aX8_worthOver_14 rfl ?_
        refine e_iload aX8_worthOver_15 rfl ?_
        refine e_iload_n aX8_worthOver_17 rfl ?_
        refine e_invvT aX8_worthOver_18 kX8_187 (zX8_worthUnder X F (s := a + k) (by omega) y) rfl rfl (fx_is F rfl) (Nat.le_of_ble_eq_true rfl) (Nat.le_of_ble_eq_true rfl) (Nat.le_refl _) (Nat.le_refl _) (Nat.le_of_ble_eq_true rfl) ?_
        refine e_i2l aX8_worthOver_21 ?_
        refine e_ladd aX8_worthOver_22 ?_
        refine e_lstore aX8_worthOver_23 (Nat.le_of_ble_eq_true rfl) ?_
        refine e_iinc aX8_worthOver_25 rfl rfl (Nat.le_of_ble_eq_true rfl) ?_
        refine e_goto aX8_worthOver_28 ?_
        refine e_ls (ls' := [(0, some (vR (some 32))), (2, some (vI (nI (a + q)))), (3, some (vI y)), (4, some (vL (woR h y a (k + 1)))), (6, some (vI (nI (a + (k + 1)))))]) ⟨rfl, rfl, rfl, rfl, congrArg (fun x => some (vI x)) (nI_1 (a + k)), trivial⟩ ?_
        exact ih (k + 1) (by omega)
  refine e_lconst (v := 0) aX8_worthOver_0 rfl ?_
  refine e_lstore aX8_worthOver_1 (Nat.le_of_ble_eq_true rfl) ?_
  refine e_iload_n aX8_worthOver_3 rfl ?_
  refine e_istore aX8_worthOver_4 (Nat.le_of_ble_eq_true rfl) ?_
  refine e_ls (ls' := [(0, some (vR (some 32))), (2, some (vI (nI (a + q)))), (3, some (vI y)), (4, some (vL (woR h y a 0))), (6, some (vI (nI (a + 0))))]) ⟨rfl, rfl, rfl, rfl, rfl, trivial⟩ ?_
  exact loop q 0 (by omega)
theorem zX8_value (X : EX) {h : HP} (F : Fx h) {f : Nat} {o : Nat → Nat} (bf : BkF h f o) (x : Int32) : Ct X mX8_value 3 0 0 [vR (some 32), vI x] h (if x < 0 ∨ 3 ≤ x then RFL h 0 else Rt (vL (woR h x (fo o f) (om f))) h) := by
  refine ct_of rfl (Nat.le_of_ble_eq_true rfl) ?_
  have hb6 := om_fo bf.2.1 bf.2.2.2
  refine e_iload_n aX8_value_0 rfl ?_
  refine e_iconst (v := 3) aX8_value_1 (by decide) ?_
  refine e_invsT aX8_value_2 kX8_58 (zX8_isOutside X _ _) rfl rfl (Nat.le_of_ble_eq_true rfl) (Nat.le_of_ble_eq_true rfl) (Nat.le_refl _) (Nat.le_refl _) (Nat.le_of_ble_eq_true rfl) ?_
  refine e_if_eq aX8_value_5 (fun c5 => ?_) (fun c5 => ?_)
  · -- 5: taken
    have q5 := b2_0.mp c5
    refine e_aload_n aX8_value_14 rfl ?_
    refine e_aload_n aX8_value_15 rfl ?_
    refine e_getRF aX8_value_16 fX8_10 rfl (fx_is F rfl) (fx_r (b := 33) F rfl) ?_
    refine e_invvT aX8_value_19 kX8_84 (zX0_firstOpen X F bf) rfl rfl (fx_is F rfl) (Nat.le_of_ble_eq_true rfl) (Nat.le_of_ble_eq_true rfl) (Nat.le_refl _) (Nat.le_refl _) (Nat.le_of_ble_eq_true rfl) ?_
    refine e_aload_n aX8_value_22 rfl ?_
    refine e_getRF aX8_value_23 fX8_10 rfl (fx_is F rfl) (fx_r (b := 33) F rfl) ?_
    refine e_invvT aX8_value_26 kX8_181 (zX0_endOpen X F bf) rfl rfl (fx_is F rfl) (Nat.le_of_ble_eq_true rfl) (Nat.le_of_ble_eq_true rfl) (Nat.le_refl _) (Nat.le_refl _) (Nat.le_of_ble_eq_true rfl) ?_
    refine e_iload_n aX8_value_29 rfl ?_
    refine e_invvT aX8_value_30 kX8_194 (zX8_worthOver X F hb6 x) rfl rfl (fx_is F rfl) (Nat.le_of_ble_eq_true rfl) (Nat.le_of_ble_eq_true rfl) (Nat.le_refl _) (Nat.le_refl _) (Nat.le_of_ble_eq_true rfl) ?_
    refine e_lreturn aX8_value_33 rfl (Nat.le_refl _) (Nat.le_refl _) ?_
    rw [if_neg q5]
    exact ⟨rfl, rfl⟩
  · -- 5: not taken
    have q5 := Decidable.of_not_not (fun z => c5 (b2_0.mpr z))
    refine e_aload_n aX8_value_8 rfl ?_
    refine e_iconst (v := 0) aX8_value_9 (by decide) ?_
    refine e_invvT aX8_value_10 kX8_190 (zlfin X (k := 0) F (by decide)) rfl rfl (fx_is F rfl) (Nat.le_of_ble_eq_true rfl) (Nat.le_of_ble_eq_true rfl) (Nat.le_refl _) (Nat.le_refl _) (Nat.le_of_ble_eq_true rfl) ?_
    refine e_lreturn aX8_value_13 rfl (Nat.le_refl _) (Nat.le_refl _) ?_
    rw [if_pos q5]
    exact ⟨rfl, rfl⟩
theorem zX8_best (X : EX) {h : HP} (F : Fx h) {f : Nat} {o : Nat → Nat} (bf : BkF h f o) (x y : Int32) : Ct X mX8_best 2 0 0 [vR (some 32), vI x, vI y] h (if x < 0 ∨ 3 ≤ x then RF h 0 else if y < 0 ∨ 2 ≤ y then RF h 0 else (Rt (vI (nI (bsR h x y (fo o f + 1) (om f - 1) (fo o f) (wuR h (fo o f) x 12)))) h)) := by
  refine ct_of rfl (Nat.le_of_ble_eq_true rfl) ?_
  have hb6 := om_fo bf.2.1 bf.2.2.2
  have hom := om_pos bf.2.1
  refine e_iload_n aX8_best_0 rfl ?_
  refine e_iconst (v := 3) aX8_best_1 (by decide) ?_
  refine e_invsT aX8_best_2 kX8_58 (zX8_isOutside X _ _) rfl rfl (Nat.le_of_ble_eq_true rfl) (Nat.le_of_ble_eq_true rfl) (Nat.le_refl _) (Nat.le_refl _) (Nat.le_of_ble_eq_true rfl) ?_
  refine e_if_ne aX8_best_5 (fun c5 => ?_) (fun c5 => ?_)
  · -- 5: taken
    have q5 := Decidable.of_not_not (fun z => c5 (b2_0.mpr z))
    refine e_aload_n aX8_best_16 rfl ?_
    refine e_iconst (v := 0) aX8_best_17 (by decide) ?_
    refine e_invvT aX8_best_18 kX8_62 (zfin X (k := 0) F (by decide)) rfl rfl (fx_is F rfl) (Nat.le_of_ble_eq_true rfl) (Nat.le_of_ble_eq_true rfl) (Nat.le_refl _) (Nat.le_refl _) (Nat.le_of_ble_eq_true rfl) ?_
    refine e_ireturn aX8_best_21 rfl (Nat.le_refl _) (Nat.le_refl _) ?_
    rw [if_pos q5]
    exact ⟨rfl, rfl⟩
  · -- 5: not taken
    have q5 := b2_0.mp c5
    refine e_iload_n aX8_best_8 rfl ?_
    refine e_iconst (v := 2) aX8_best_9 (by decide) ?_
    refine e_invsT aX8_best_10 kX8_58 (zX8_isOutside X _ _) rfl rfl (Nat.le_of_ble_eq_true rfl) (Nat.le_of_ble_eq_true rfl) (Nat.le_refl _) (Nat.le_refl _) (Nat.le_of_ble_eq_true rfl) ?_
    refine e_if_eq aX8_best_13 (fun c13 => ?_) (fun c13 => ?_)
    · -- 13: taken
      have q13 := b2_0.mp c13
      rw [if_neg q5, if_neg q13]
      have loop : ∀ (m : Nat) (k cz : Nat) (vz : Int32), k + m = (fo o f + om f) → bsR h x y k m cz vz = (bsR h x y (fo o f + 1) (om f - 1) (fo o f) (wuR h (fo o f) x 12)) → Ev X mX8_best 2 0 0 (Rt (vI (nI (bsR h x y (fo o f + 1) (om f - 1) (fo o f) (wuR h (fo o f) x 12)))) h) 0 0 52 [(0, some (vR (some 32))), (1, some (vI x)), (2, some (vI y)), (3, some (vI (nI cz))), (4, some (vI vz)), (5, some (vI (nI (fo o f + om f)))), (6, some (vI (nI k)))] [] h := by
        intro m
        induction m with
        | zero =>
          intro k cz vz hk hR9
          obtain rfl : k = (fo o f + om f) := by omega
          refine e_iload aX8_best_52 rfl ?_
          refine e_iload aX8_best_54 rfl ?_
          refine e_icmp_ge aX8_best_56 (fun c56 => ?_) (fun c56 => ?_)
          · -- 56: taken
            refine e_iload_n aX8_best_102 rfl ?_
            refine e_ireturn aX8_best_103 rfl (Nat.le_refl _) (Nat.le_refl _) ?_
            rw [← hR9]
            exact ⟨rfl, rfl⟩
          · -- 56: not taken
            exact absurd (nI_le (by omega) (by omega)) c56
        | succ m ih =>
          intro k cz vz hk hR9
          refine e_iload aX8_best_52 rfl ?_
          refine e_iload aX8_best_54 rfl ?_
          refine e_icmp_ge aX8_best_56 (fun c56 => ?_) (fun c56 => ?_)
          · -- 56: taken
            exact absurd c56 (nI_ge (by omega) (by omega))
          · -- 56: not taken
            refine e_aload_n aX8_best_59 rfl ?_
            refine e_iload aX8_best_60 rfl ?_
            refine e_iload_n aX8_best_62 rfl ?_
            refine e_invvT aX8_best_63 kX8_187 (zX8_worthUnder X F (s := k) (by omega) x) rfl rfl (fx_is F rfl) (Nat.le_of_ble_eq_true rfl) (Nat.le_of_ble_eq_true rfl) (Nat.le_refl _) (Nat.le_refl _) (Nat.le_of_ble_eq_true rfl) ?_
            refine e_istore aX8_best_66 (Nat.le_of_ble_eq_true rfl) ?_
            refine e_iload_n aX8_best_68 rfl ?_
            refine e_if_ne aX8_best_69 (fun c69 => ?_) (fun c69 => ?_)
            · -- 69: taken
              have q69 : ¬ y = 0 := c69
              refine e_iload aX8_best_82 rfl ?_
              refine e_iload aX8_best_84 rfl ?_
              refine e_icmp_ge aX8_best_86 (fun c86 => ?_) (fun c86 => ?_)
              · -- 86: taken
                have q86 : ¬ wuR h k x 12 < vz := Int32.not_lt.mpr c86
                refine e_iinc aX8_best_96 rfl rfl (Nat.le_of_ble_eq_true rfl) ?_
                refine e_goto aX8_best_99 ?_
                refine e_ls (ls' := [(0, some (vR (some 32))), (1, some (vI x)), (2, some (vI y)), (3, some (vI (nI cz))), (4, some (vI vz)), (5, some (vI (nI (fo o f + om f)))), (6, some (vI (nI (k + 1))))]) ⟨rfl, rfl, rfl, rfl, rfl, rfl, congrArg (fun x => some (vI x)) (nI_1 k), trivial⟩ ?_
                exact ih (k + 1) cz vz (by omega) (by rw [← hR9, bsR_s, if_neg (show ¬ (if y = 0 then vz < wuR h k x 12 else wuR h k x 12 < vz) by rw [if_neg q69]; exact q86)])
              · -- 86: not taken
                have q86 : wuR h k x 12 < vz := Int32.not_le.mp c86
                refine e_iload aX8_best_89 rfl ?_
                refine e_istore_n aX8_best_91 (Nat.le_of_ble_eq_true rfl) ?_
                refine e_iload aX8_best_92 rfl ?_
                refine e_istore aX8_best_94 (Nat.le_of_ble_eq_true rfl) ?_
                refine e_iinc aX8_best_96 rfl rfl (Nat.le_of_ble_eq_true rfl) ?_
                refine e_goto aX8_best_99 ?_
                refine e_ls (ls' := [(0, some (vR (some 32))), (1, some (vI x)), (2, some (vI y)), (3, some (vI (nI k))), (4, some (vI (wuR h k x 12))), (5, some (vI (nI (fo o f + om f)))), (6, some (vI (nI (k + 1))))]) ⟨rfl, rfl, rfl, rfl, rfl, rfl, congrArg (fun x => some (vI x)) (nI_1 k), trivial⟩ ?_
                exact ih (k + 1) k (wuR h k x 12) (by omega) (by rw [← hR9, bsR_s, if_pos (show (if y = 0 then vz < wuR h k x 12 else wuR h k x 12 < vz) by rw [if_neg q69]; exact q86)])
            · -- 69: not taken
              have q69 : y = 0 := c69
              refine e_iload aX8_best_72 rfl ?_
              refine e_iload aX8_best_74 rfl ?_
              refine e_icmp_le aX8_best_76 (fun c76 => ?_) (fun c76 => ?_)
              · -- 76: taken
                have q76 : ¬ vz < wuR h k x 12 := Int32.not_lt.mpr c76
                refine e_iinc aX8_best_96 rfl rfl (Nat.le_of_ble_eq_true rfl) ?_
                refine e_goto aX8_best_99 ?_
                refine e_ls (ls' := [(0, some (vR (some 32))), (1, some (vI x)), (2, some (vI y)), (3, some (vI (nI cz))), (4, some (vI vz)), (5, some (vI (nI (fo o f + om f)))), (6, some (vI (nI (k + 1))))]) ⟨rfl, rfl, rfl, rfl, rfl, rfl, congrArg (fun x => some (vI x)) (nI_1 k), trivial⟩ ?_
                exact ih (k + 1) cz vz (by omega) (by rw [← hR9, bsR_s, if_neg (show ¬ (if y = 0 then vz < wuR h k x 12 else wuR h k x 12 < vz) by rw [if_pos q69]; exact q76)])
              · -- 76: not taken
                have q76 : vz < wuR h k x 12 := Int32.not_le.mp c76
                refine e_goto aX8_best_79 ?_
                refine e_iload aX8_best_89 rfl ?_
                refine e_istore_n aX8_best_91 (Nat.le_of_ble_eq_true rfl) ?_
                refine e_iload aX8_best_92 rfl ?_
                refine e_istore aX8_best_94 (Nat.le_of_ble_eq_true rfl) ?_
                refine e_iinc aX8_best_96 rfl rfl (Nat.le_of_ble_eq_true rfl) ?_
                refine e_goto aX8_best_99 ?_
                refine e_ls (ls' := [(0, some (vR (some 32))), (1, some (vI x)), (2, some (vI y)), (3, some (vI (nI k))), (4, some (vI (wuR h k x 12))), (5, some (vI (nI (fo o f + om f)))), (6, some (vI (nI (k + 1))))]) ⟨rfl, rfl, rfl, rfl, rfl, rfl, congrArg (fun x => some (vI x)) (nI_1 k), trivial⟩ ?_
                exact ih (k + 1) k (wuR h k x 12) (by omega) (by rw [← hR9, bsR_s, if_pos (show (if y = 0 then vz < wuR h k x 12 else wuR h k x 12 < vz) by rw [if_pos q69]; exact q76)])
      refine e_aload_n aX8_best_22 rfl ?_
      refine e_getRF aX8_best_23 fX8_10 rfl (fx_is F rfl) (fx_r (b := 33) F rfl) ?_
      refine e_invvT aX8_best_26 kX8_84 (zX0_firstOpen X F bf) rfl rfl (fx_is F rfl) (Nat.le_of_ble_eq_true rfl) (Nat.le_of_ble_eq_true rfl) (Nat.le_refl _) (Nat.le_refl _) (Nat.le_of_ble_eq_true rfl) ?_
      refine e_istore_n aX8_best_29 (Nat.le_of_ble_eq_true rfl) ?_
      refine e_aload_n aX8_best_30 rfl ?_
      refine e_iload_n aX8_best_31 rfl ?_
      refine e_iload_n aX8_best_32 rfl ?_
      refine e_invvT aX8_best_33 kX8_187 (zX8_worthUnder X F (s := fo o f) (by omega) x) rfl rfl (fx_is F rfl) (Nat.le_of_ble_eq_true rfl) (Nat.le_of_ble_eq_true rfl) (Nat.le_refl _) (Nat.le_refl _) (Nat.le_of_ble_eq_true rfl) ?_
      refine e_istore aX8_best_36 (Nat.le_of_ble_eq_true rfl) ?_
      refine e_aload_n aX8_best_38 rfl ?_
      refine e_getRF aX8_best_39 fX8_10 rfl (fx_is F rfl) (fx_r (b := 33) F rfl) ?_
      refine e_invvT aX8_best_42 kX8_181 (zX0_endOpen X F bf) rfl rfl (fx_is F rfl) (Nat.le_of_ble_eq_true rfl) (Nat.le_of_ble_eq_true rfl) (Nat.le_refl _) (Nat.le_refl _) (Nat.le_of_ble_eq_true rfl) ?_
      refine e_istore aX8_best_45 (Nat.le_of_ble_eq_true rfl) ?_
      refine e_iload_n aX8_best_47 rfl ?_
      refine e_iconst (v := 1) aX8_best_48 (by decide) ?_
      refine e_iadd aX8_best_49 ?_
      refine e_top (nI_1 _) ?_
      refine e_istore aX8_best_50 (Nat.le_of_ble_eq_true rfl) ?_
      refine e_ls (ls' := [(0, some (vR (some 32))), (1, some (vI x)), (2, some (vI y)), (3, some (vI (nI (fo o f)))), (4, some (vI (wuR h (fo o f) x 12))), (5, some (vI (nI (fo o f + om f)))), (6, some (vI (nI (fo o f + 1))))]) ⟨rfl, rfl, rfl, rfl, rfl, rfl, rfl, trivial⟩ ?_
      exact loop (om f - 1) (fo o f + 1) (fo o f) (wuR h (fo o f) x 12) (by omega) rfl
    · -- 13: not taken
      have q13 := Decidable.of_not_not (fun z => c13 (b2_0.mpr z))
      refine e_aload_n aX8_best_16 rfl ?_
      refine e_iconst (v := 0) aX8_best_17 (by decide) ?_
      refine e_invvT aX8_best_18 kX8_62 (zfin X (k := 0) F (by decide)) rfl rfl (fx_is F rfl) (Nat.le_of_ble_eq_true rfl) (Nat.le_of_ble_eq_true rfl) (Nat.le_refl _) (Nat.le_refl _) (Nat.le_of_ble_eq_true rfl) ?_
      refine e_ireturn aX8_best_21 rfl (Nat.le_refl _) (Nat.le_refl _) ?_
      rw [if_neg q5, if_pos q13]
      exact ⟨rfl, rfl⟩
theorem zX8_hope (X : EX) {h : HP} (F : Fx h) {f : Nat} {o : Nat → Nat} (bf : BkF h f o) (x : Int32) : Ct X mX8_hope 3 0 0 [vR (some 32), vI x] h (if x < 0 ∨ 3 ≤ x then RF h 0 else if 4 ≤ f then RF h 3 else (Rt (vI (nI (hpR h x (fo o f) (stp f) 0 6 0 (-1)))) h)) := by
  refine ct_of rfl (Nat.le_of_ble_eq_true rfl) ?_
  have hb6 := om_fo bf.2.1 bf.2.2.2
  have hf4 := bf.2.1
  refine e_iload_n aX8_hope_0 rfl ?_
  refine e_iconst (v := 3) aX8_hope_1 (by decide) ?_
  refine e_invsT aX8_hope_2 kX8_58 (zX8_isOutside X _ _) rfl rfl (Nat.le_of_ble_eq_true rfl) (Nat.le_of_ble_eq_true rfl) (Nat.le_refl _) (Nat.le_refl _) (Nat.le_of_ble_eq_true rfl) ?_
  refine e_if_eq aX8_hope_5 (fun c5 => ?_) (fun c5 => ?_)
  · -- 5: taken
    have q5 := b2_0.mp c5
    refine e_aload_n aX8_hope_14 rfl ?_
    refine e_getRF aX8_hope_15 fX8_10 rfl (fx_is F rfl) (fx_r (b := 33) F rfl) ?_
    refine e_getIF aX8_hope_18 fX8_73 rfl (fx_is F rfl) bf.1 ?_
    refine e_iconst (v := 4) aX8_hope_21 (by decide) ?_
    refine e_icmp_lt aX8_hope_22 (fun c22 => ?_) (fun c22 => ?_)
    · -- 22: taken
      have q22 : ¬ 4 ≤ f := Nat.not_le.mpr ((nI_ltI (a := f) (b := 4) (by omega) (by decide)).mp c22)
      rw [if_neg q5, if_neg q22]
      have hst := stp_om (f := f) (by omega)
      have loop : ∀ (m : Nat) (k cz : Nat) (vz : Int64), k + m = 6 → hpR h x (fo o f) (stp f) k m cz vz = (hpR h x (fo o f) (stp f) 0 6 0 (-1)) → Ev X mX8_hope 3 0 0 (Rt (vI (nI (hpR h x (fo o f) (stp f) 0 6 0 (-1)))) h) 0 0 53 [(0, some (vR (some 32))), (1, some (vI x)), (2, some (vI (nI (stp f)))), (3, some (vI (nI cz))), (4, some (vL vz)), (6, some (vI (nI k)))] [] h := by
        intro m
        induction m with
        | zero =>
          intro k cz vz hk hR9
          obtain rfl : k = 6 := by omega
          refine e_iload aX8_hope_53 rfl ?_
          refine e_bipush (v := 6) aX8_hope_55 (by decide) ?_
          refine e_icmp_ge aX8_hope_57 (fun c57 => ?_) (fun c57 => ?_)
          · -- 57: taken
            refine e_iload_n aX8_hope_108 rfl ?_
            refine e_ireturn aX8_hope_109 rfl (Nat.le_refl _) (Nat.le_refl _) ?_
            rw [← hR9]
            exact ⟨rfl, rfl⟩
          · -- 57: not taken
            exact absurd (nI_le (a := 6) (b := 6) (by decide) (by decide)) c57
        | succ m ih =>
          intro k cz vz hk hR9
          have hmul : k * stp f + stp f ≤ 6 * stp f := by
            have h1 := Nat.mul_le_mul_right (stp f) (show k + 1 ≤ 6 by omega)
            rw [Nat.add_mul, Nat.one_mul] at h1
            exact h1
          refine e_iload aX8_hope_53 rfl ?_
          refine e_bipush (v := 6) aX8_hope_55 (by decide) ?_
          refine e_icmp_ge aX8_hope_57 (fun c57 => ?_) (fun c57 => ?_)
          · -- 57: taken
            exact absurd c57 (nI_ge (a := k) (b := 6) (by omega) (by decide))
          · -- 57: not taken
            refine e_aload_n aX8_hope_60 rfl ?_
            refine e_getRF aX8_hope_61 fX8_10 rfl (fx_is F rfl) (fx_r (b := 33) F rfl) ?_
            refine e_invvT aX8_hope_64 kX8_84 (zX0_firstOpen X F bf) rfl rfl (fx_is F rfl) (Nat.le_of_ble_eq_true rfl) (Nat.le_of_ble_eq_true rfl) (Nat.le_refl _) (Nat.le_refl _) (Nat.le_of_ble_eq_true rfl) ?_
            refine e_iload aX8_hope_67 rfl ?_
            refine e_iload_n aX8_hope_69 rfl ?_
            refine e_imul aX8_hope_70 ?_
            refine e_top (nI_mul _ _) ?_
            refine e_iadd aX8_hope_71 ?_
            refine e_top (nI_add _ _) ?_
            refine e_istore aX8_hope_72 (Nat.le_of_ble_eq_true rfl) ?_
            refine e_aload_n aX8_hope_74 rfl ?_
            refine e_iload aX8_hope_75 rfl ?_
            refine e_iload aX8_hope_77 rfl ?_
            refine e_iload_n aX8_hope_79 rfl ?_
            refine e_iadd aX8_hope_80 ?_
            refine e_top (nI_add _ _) ?_
            refine e_iload_n aX8_hope_81 rfl ?_
            refine e_invvT aX8_hope_82 kX8_194 (zX8_worthOver X F (a := fo o f + k * stp f) (q := stp f) (by omega) x) rfl rfl (fx_is F rfl) (Nat.le_of_ble_eq_true rfl) (Nat.le_of_ble_eq_true rfl) (Nat.le_refl _) (Nat.le_refl _) (Nat.le_of_ble_eq_true rfl) ?_
            refine e_lstore aX8_hope_85 (Nat.le_of_ble_eq_true rfl) ?_
            refine e_lload aX8_hope_87 rfl ?_
            refine e_lload aX8_hope_89 rfl ?_
            refine e_lcmp aX8_hope_91 ?_
            refine e_if_le aX8_hope_92 (fun c92 => ?_) (fun c92 => ?_)
            · -- 92: taken
              refine e_iinc aX8_hope_102 rfl rfl (Nat.le_of_ble_eq_true rfl) ?_
              refine e_goto aX8_hope_105 ?_
              refine e_ls (ls' := [(0, some (vR (some 32))), (1, some (vI x)), (2, some (vI (nI (stp f)))), (3, some (vI (nI cz))), (4, some (vL vz)), (6, some (vI (nI (k + 1))))]) ⟨rfl, rfl, rfl, rfl, rfl, congrArg (fun x => some (vI x)) (nI_1 k), trivial⟩ ?_
              exact ih (k + 1) cz vz (by omega) (by rw [← hR9, hpR_s, if_pos c92])
            · -- 92: not taken
              refine e_iload aX8_hope_95 rfl ?_
              refine e_istore_n aX8_hope_97 (Nat.le_of_ble_eq_true rfl) ?_
              refine e_lload aX8_hope_98 rfl ?_
              refine e_lstore aX8_hope_100 (Nat.le_of_ble_eq_true rfl) ?_
              refine e_iinc aX8_hope_102 rfl rfl (Nat.le_of_ble_eq_true rfl) ?_
              refine e_goto aX8_hope_105 ?_
              refine e_ls (ls' := [(0, some (vR (some 32))), (1, some (vI x)), (2, some (vI (nI (stp f)))), (3, some (vI (nI k))), (4, some (vL (woR h x (fo o f + k * stp f) (stp f)))), (6, some (vI (nI (k + 1))))]) ⟨rfl, rfl, rfl, rfl, rfl, congrArg (fun x => some (vI x)) (nI_1 k), trivial⟩ ?_
              exact ih (k + 1) k (woR h x (fo o f + k * stp f) (stp f)) (by omega) (by rw [← hR9, hpR_s, if_neg c92])
      refine e_gets (i := 2) aX8_hope_31 rfl gX8_198 ?_
      refine e_aload_n aX8_hope_34 rfl ?_
      refine e_getRF aX8_hope_35 fX8_10 rfl (fx_is F rfl) (fx_r (b := 33) F rfl) ?_
      refine e_getIF aX8_hope_38 fX8_73 rfl (fx_is F rfl) bf.1 ?_
      refine e_ialoadS aX8_hope_41 rfl (vin (N := 4) (by omega)) ?_
      refine e_top (st_step (by omega)) ?_
      refine e_istore_n aX8_hope_42 (Nat.le_of_ble_eq_true rfl) ?_
      refine e_iconst (v := 0) aX8_hope_43 (by decide) ?_
      refine e_istore_n aX8_hope_44 (Nat.le_of_ble_eq_true rfl) ?_
      refine e_ldc2 aX8_hope_45 lX8_201 ?_
      refine e_lstore aX8_hope_48 (Nat.le_of_ble_eq_true rfl) ?_
      refine e_iconst (v := 0) aX8_hope_50 (by decide) ?_
      refine e_istore aX8_hope_51 (Nat.le_of_ble_eq_true rfl) ?_
      refine e_ls (ls' := [(0, some (vR (some 32))), (1, some (vI x)), (2, some (vI (nI (stp f)))), (3, some (vI (nI 0))), (4, some (vL (-1))), (6, some (vI (nI 0)))]) ⟨rfl, rfl, rfl, rfl, rfl, rfl, trivial⟩ ?_
      exact loop 6 0 0 (-1) rfl rfl
    · -- 22: not taken
      have q22 : 4 ≤ f := Nat.not_lt.mp ((not_congr (nI_ltI (a := f) (b := 4) (by omega) (by decide))).mp c22)
      refine e_aload_n aX8_hope_25 rfl ?_
      refine e_iconst (v := 3) aX8_hope_26 (by decide) ?_
      refine e_invvT aX8_hope_27 kX8_62 (zfin X (k := 3) F (by decide)) rfl rfl (fx_is F rfl) (Nat.le_of_ble_eq_true rfl) (Nat.le_of_ble_eq_true rfl) (Nat.le_refl _) (Nat.le_refl _) (Nat.le_of_ble_eq_true rfl) ?_
      refine e_ireturn aX8_hope_30 rfl (Nat.le_refl _) (Nat.le_refl _) ?_
      rw [if_neg q5, if_pos q22]
      exact ⟨rfl, rfl⟩
  · -- 5: not taken
    have q5 := Decidable.of_not_not (fun z => c5 (b2_0.mpr z))
    refine e_aload_n aX8_hope_8 rfl ?_
    refine e_iconst (v := 0) aX8_hope_9 (by decide) ?_
    refine e_invvT aX8_hope_10 kX8_62 (zfin X (k := 0) F (by decide)) rfl rfl (fx_is F rfl) (Nat.le_of_ble_eq_true rfl) (Nat.le_of_ble_eq_true rfl) (Nat.le_refl _) (Nat.le_refl _) (Nat.le_of_ble_eq_true rfl) ?_
    refine e_ireturn aX8_hope_13 rfl (Nat.le_refl _) (Nat.le_refl _) ?_
    rw [if_pos q5]
    exact ⟨rfl, rfl⟩
end
section
/-! contracts: Sheet, sheet, write, item, copy (written by wip/p45/g28.py) -/
theorem sh1 : ∀ s, s < 4 → (Nat.ble 32 (101 + 2 * s) && Nat.blt (101 + 2 * s) NF && Nat.beq (T0 (101 + 2 * s)) 6) = true := by decide
theorem sh2 : ∀ s, s < 4 → (Nat.ble 32 (102 + 2 * s) && Nat.blt (102 + 2 * s) NF && Nat.beq (T0 (102 + 2 * s)) 14) = true := by decide
theorem sh3 : ∀ s, s < 4 → (Nat.ble 32 (102 + 2 * s) && Nat.blt (102 + 2 * s) NF && Nat.beq (N0 (102 + 2 * s)) 40) = true := by decide
theorem sh4 : ∀ s, s < 4 → (!Nat.beq (102 + 2 * s) 0 && Nat.beq (R0 (101 + 2 * s) 0) (102 + 2 * s)) = true := by decide
theorem sh5 : ∀ s, s < 4 → (!Nat.beq (101 + 2 * s) 0 && Nat.beq (R0 73 s) (101 + 2 * s)) = true := by decide
theorem sh_is {h : HP} (F : Fx h) {s : Nat} (hs : s < 4) : Is h (101 + 2 * s) 6 := fx_is F (sh1 s hs)
theorem sn_is {h : HP} (F : Fx h) {s : Nat} (hs : s < 4) : Is h (102 + 2 * s) 14 := fx_is F (sh2 s hs)
theorem sn_n {h : HP} (F : Fx h) {s : Nat} (hs : s < 4) : hN h (102 + 2 * s) = 40 := fx_n F (sh3 s hs)
theorem sh_r {h : HP} (F : Fx h) {s : Nat} (hs : s < 4) : hR h (101 + 2 * s) 0 = some (102 + 2 * s) := fx_r F (sh4 s hs)
theorem sh_a {h : HP} (F : Fx h) {s : Nat} (hs : s < 4) : hR h 73 (nI s).toNatClampNeg = some (101 + 2 * s) := by
  rw [cl (by omega)]
  exact fx_r F (sh5 s hs)
/-- a sheet: its sort and how many numbers -/
def ShC (h : HP) (s : Nat) (t : Int32) (q : Nat) : Prop := hI h (101 + 2 * s) 1 = t ∧ (t = -1 ∨ t = 0 ∨ t = 1 ∨ t = 2) ∧ hI h (101 + 2 * s) 2 = nI q ∧ q ≤ 40
def zrL (h : HP) (a : Nat) : Nat → HP
  | 0 => h
  | k + 1 => wL (zrL h a k) a k 0
theorem zrL_F {h : HP} (F : Fx h) {a : Nat} : ∀ k, Fx (zrL h a k) := by
  intro k
  induction k with
  | zero => exact F
  | succ k ih => exact ih
def shB (h : HP) (s : Nat) (t : Int32) (q : Nat) : HP := zrL (wI (wI h (101 + 2 * s) 1 t) (101 + 2 * s) 2 (nI q)) (102 + 2 * s) q
/-- what a number becomes on a sheet of a sort -/
def pvR (t : Int32) (v : Int64) : Int64 := if t = 0 then v.toInt32.toInt16.toInt32.toInt64 else if t = 1 then v.toInt32.toInt64 else v
theorem zX5_isMissing (X : EX) {h : HP} (F : Fx h) {s : Nat} (hs : s < 4) : Ct X mX5_isMissing 0 0 0 [vR (some (101 + 2 * s))] h (Rt (vI (b2 (hI h (101 + 2 * s) 1 = -1))) h) := by
  refine ct_of rfl (Nat.le_of_ble_eq_true rfl) ?_
  refine e_aload_n aX5_isMissing_0 rfl ?_
  refine e_getI aX5_isMissing_1 fX5_15 rfl (sh_is F hs) ?_
  refine e_iconst (v := -1) aX5_isMissing_4 (by decide) ?_
  refine e_icmp_ne aX5_isMissing_5 (fun c5 => ?_) (fun c5 => ?_)
  · -- 5: taken
    have q5 : ¬ hI h (101 + 2 * s) 1 = -1 := c5
    refine e_iconst (v := 0) aX5_isMissing_12 (by decide) ?_
    refine e_zreturn aX5_isMissing_13 rfl (by decide) (Nat.le_refl _) (Nat.le_refl _) ?_
    exact ⟨by rw [b2_f q5] <;> rfl, rfl⟩
  · -- 5: not taken
    have q5 : hI h (101 + 2 * s) 1 = -1 := c5
    refine e_iconst (v := 1) aX5_isMissing_8 (by decide) ?_
    refine e_goto aX5_isMissing_9 ?_
    refine e_zreturn aX5_isMissing_13 rfl (by decide) (Nat.le_refl _) (Nat.le_refl _) ?_
    exact ⟨by rw [b2_t q5] <;> rfl, rfl⟩
theorem zX5_become (X : EX) {h : HP} (F : Fx h) {s : Nat} (hs : s < 4) (t : Int32) {q : Nat} (hq : q ≤ 40) : Ct X mX5_become 0 0 0 [vR (some (101 + 2 * s)), vI t, vI (nI q)] h (Rv (shB h s t q)) := by
  refine ct_of rfl (Nat.le_of_ble_eq_true rfl) ?_
  have loop : ∀ (m : Nat) (k : Nat), k + m = q → Ev X mX5_become 0 0 0 (Rv (shB h s t q)) 0 0 12 [(0, some (vR (some (101 + 2 * s)))), (2, some (vI (nI q))), (3, some (vI (nI k)))] [] (zrL (wI (wI h (101 + 2 * s) 1 t) (101 + 2 * s) 2 (nI q)) (102 + 2 * s) k) := by
    intro m
    induction m with
    | zero =>
      intro k hk
      obtain rfl : k = q := by omega
      refine e_iload_n aX5_become_12 rfl ?_
      refine e_iload_n aX5_become_13 rfl ?_
      refine e_icmp_ge aX5_become_14 (fun c14 => ?_) (fun c14 => ?_)
      · -- 14: taken
        refine e_return aX5_become_30 rfl (Nat.le_refl _) (Nat.le_refl _) ?_
        exact ⟨rfl, rfl⟩
      · -- 14: not taken
        exact absurd (nI_le (by omega) (by omega)) c14
    | succ m ih =>
      intro k hk
      have FZ : Fx (zrL (wI (wI h (101 + 2 * s) 1 t) (101 + 2 * s) 2 (nI q)) (102 + 2 * s) k) := zrL_F (h := wI (wI h (101 + 2 * s) 1 t) (101 + 2 * s) 2 (nI q)) F k
      refine e_iload_n aX5_become_12 rfl ?_
      refine e_iload_n aX5_become_13 rfl ?_
      refine e_icmp_ge aX5_become_14 (fun c14 => ?_) (fun c14 => ?_)
      · -- 14: taken
        exact absurd c14 (nI_ge (by omega) (by omega))
      · -- 14: not taken
        refine e_aload_n aX5_become_17 rfl ?_
        refine e_getRF aX5_become_18 fX5_9 rfl (sh_is FZ hs) (sh_r FZ hs) ?_
        refine e_iload_n aX5_become_21 rfl ?_
        refine e_lconst (v := 0) aX5_become_22 rfl ?_
        refine e_lastoreF aX5_become_23 (sn_is FZ hs) (sn_n FZ hs) (vin (N := 40) (by omega)) ?_
        rw [cl (by omega)]
        refine e_iinc aX5_become_24 rfl rfl (Nat.le_of_ble_eq_true rfl) ?_
        refine e_goto aX5_become_27 ?_
        refine e_ls (ls' := [(0, some (vR (some (101 + 2 * s)))), (2, some (vI (nI q))), (3, some (vI (nI (k + 1))))]) ⟨rfl, rfl, congrArg (fun x => some (vI x)) (nI_1 k), trivial⟩ ?_
        exact ih (k + 1) (by omega)
  refine e_aload_n aX5_become_0 rfl ?_
  refine e_iload_n aX5_become_1 rfl ?_
  refine e_putI aX5_become_2 fX5_15 rfl (sh_is F hs) (Or.inl rfl) ?_
  refine e_aload_n aX5_become_5 rfl ?_
  refine e_iload_n aX5_become_6 rfl ?_
  refine e_putI aX5_become_7 fX5_19 rfl (sh_is F hs) (Or.inl rfl) ?_
  refine e_iconst (v := 0) aX5_become_10 (by decide) ?_
  refine e_istore_n aX5_become_11 (Nat.le_of_ble_eq_true rfl) ?_
  refine e_ls (ls' := [(0, some (vR (some (101 + 2 * s)))), (2, some (vI (nI q))), (3, some (vI (nI 0)))]) ⟨rfl, rfl, rfl, trivial⟩ ?_
  exact loop q 0 (by omega)
theorem zX5_put (X : EX) {h : HP} (F : Fx h) {s : Nat} (hs : s < 4) {t : Int32} {q j : Nat} (hsh : ShC h s t q) (ht : t = 0 ∨ t = 1 ∨ t = 2) (hj : j < q) (v : Int64) : Ct X mX5_put 0 0 0 [vR (some (101 + 2 * s)), vI (nI j), vL v] h (Rv (wL h (102 + 2 * s) j (pvR t v))) := by
  refine ct_of rfl (Nat.le_of_ble_eq_true rfl) ?_
  have hq40 := hsh.2.2.2
  refine e_aload_n aX5_put_0 rfl ?_
  refine e_getI aX5_put_1 fX5_15 rfl (sh_is F hs) ?_
  rw [hsh.1]
  rcases ht with rfl | rfl | rfl
  · -- switch
    refine e_lookup (off := 28) (tgt := 32) aX5_put_4 (by decide) (by decide) (by decide) ?_
    refine e_aload_n aX5_put_32 rfl ?_
    refine e_getRF aX5_put_33 fX5_9 rfl (sh_is F hs) (sh_r F hs) ?_
    refine e_iload_n aX5_put_36 rfl ?_
    refine e_lload_n aX5_put_37 rfl ?_
    refine e_l2i aX5_put_38 ?_
    refine e_i2s aX5_put_39 ?_
    refine e_i2l aX5_put_40 ?_
    refine e_lastoreF aX5_put_41 (sn_is F hs) (sn_n F hs) (vin (N := 40) (by omega)) ?_
    rw [cl (by omega)]
    refine e_goto aX5_put_42 ?_
    refine e_return aX5_put_64 rfl (Nat.le_refl _) (Nat.le_refl _) ?_
    exact ⟨rfl, rfl⟩
  · -- switch
    refine e_lookup (off := 41) (tgt := 45) aX5_put_4 (by decide) (by decide) (by decide) ?_
    refine e_aload_n aX5_put_45 rfl ?_
    refine e_getRF aX5_put_46 fX5_9 rfl (sh_is F hs) (sh_r F hs) ?_
    refine e_iload_n aX5_put_49 rfl ?_
    refine e_lload_n aX5_put_50 rfl ?_
    refine e_l2i aX5_put_51 ?_
    refine e_i2l aX5_put_52 ?_
    refine e_lastoreF aX5_put_53 (sn_is F hs) (sn_n F hs) (vin (N := 40) (by omega)) ?_
    rw [cl (by omega)]
    refine e_goto aX5_put_54 ?_
    refine e_return aX5_put_64 rfl (Nat.le_refl _) (Nat.le_refl _) ?_
    exact ⟨rfl, rfl⟩
  · -- switch
    refine e_lookup (off := 53) (tgt := 57) aX5_put_4 (by decide) (by decide) (by decide) ?_
    refine e_aload_n aX5_put_57 rfl ?_
    refine e_getRF aX5_put_58 fX5_9 rfl (sh_is F hs) (sh_r F hs) ?_
    refine e_iload_n aX5_put_61 rfl ?_
    refine e_lload_n aX5_put_62 rfl ?_
    refine e_lastoreF aX5_put_63 (sn_is F hs) (sn_n F hs) (vin (N := 40) (by omega)) ?_
    rw [cl (by omega)]
    refine e_return aX5_put_64 rfl (Nat.le_refl _) (Nat.le_refl _) ?_
    exact ⟨rfl, rfl⟩
end
section
/-! contracts: sheet, write, item, copy, lays, judge (written by wip/p45/g29.py) -/
theorem zmis (X : EX) {h : HP} (F : Fx h) {s : Nat} (hs : s < 4) {t : Int32} {q : Nat} (hsh : ShC h s t q) : Ct X mX5_isMissing 0 0 0 [vR (some (101 + 2 * s))] h (Rt (vI (b2 (t = -1))) h) := by
  have e := zX5_isMissing X F hs
  rw [hsh.1] at e
  exact e
theorem run_of {x y : Int32} {q : Nat} (hq : q ≤ 40) (z : ¬ x < 0 ∧ ¬ y < 0 ∧ x ≤ nI q ∧ y ≤ nI q - x) : ∃ i n, x = nI i ∧ y = nI n ∧ i + n ≤ q := by
  obtain ⟨z1, z2, z3, z4⟩ := z
  rcases pk_ix x (n := q + 1) (by omega) with w | w | ⟨i, hi9, rfl⟩
  · exact absurd w z1
  · exact absurd (Int32.le_trans w z3) (nI_ge (by omega) (by omega))
  · rw [nI_subN (by omega)] at z4
    rcases pk_ix y (n := q - i + 1) (by omega) with w | w | ⟨n, hn9, rfl⟩
    · exact absurd w z2
    · exact absurd (Int32.le_trans w z4) (nI_ge (by omega) (by omega))
    · exact ⟨i, n, rfl, rfl, by omega⟩
theorem min12 {q : Nat} (hq : q ≤ 40) : (if (12 : Int32) < nI q then (12 : Int32) else nI q) = nI (min q 12) := by
  have e : (12 : Int32) < nI q ↔ 12 < q := nI_ltI (a := 12) (b := q) (by decide) (by omega)
  by_cases z : 12 < q
  · rw [if_pos (e.mpr z), Nat.min_eq_right (by omega)]
    rfl
  · rw [if_neg (fun w => z (e.mp w)), Nat.min_eq_left (by omega)]
def layH (h : HP) (a s : Nat) (t : Int32) : Nat → HP
  | 0 => h
  | k + 1 => wL (layH h a s t k) a k (pvR t (dgt (hI h 39 s) k).toInt64)
theorem layH_F {h : HP} (F : Fx h) {a s : Nat} {t : Int32} : ∀ k, Fx (layH h a s t k) := by
  intro k
  induction k with
  | zero => exact F
  | succ k ih => exact ih
theorem layH_I {h : HP} {a s : Nat} {t : Int32} : ∀ k, hI (layH h a s t k) = hI h := by
  intro k
  induction k with
  | zero => rfl
  | succ k ih => exact ih
theorem ShC.tt {h : HP} {s q : Nat} {t : Int32} (hsh : ShC h s t q) (z : ¬ t = -1) : t = 0 ∨ t = 1 ∨ t = 2 := by
  rcases hsh.2.1 with w | w
  · exact absurd w z
  · exact w
/-- all sheets -/
def ShA (h : HP) (tS : Nat → Int32) (qS : Nat → Nat) : Prop := ∀ s, s < 4 → ShC h s (tS s) (qS s)
theorem zX8_sheet (X : EX) {h : HP} (F : Fx h) (x t y : Int32) : Ct X mX8_sheet 1 0 0 [vR (some 32), vI x, vI t, vI y] h (if x < 0 ∨ 4 ≤ x then RF h 0 else if t < -1 then RF h 0 else if t ≤ 2 then (if t = -1 then Rt (vI 0) (shB h x.toNatClampNeg (-1) 0) else if y < 0 then RF h 6 else if y ≤ 40 then Rt (vI y) (shB h x.toNatClampNeg t y.toNatClampNeg) else RF h 0) else RF h 0) := by
  refine ct_of rfl (Nat.le_of_ble_eq_true rfl) ?_
  refine e_iload_n aX8_sheet_0 rfl ?_
  refine e_iconst (v := 4) aX8_sheet_1 (by decide) ?_
  refine e_invsT aX8_sheet_2 kX8_58 (zX8_isOutside X _ _) rfl rfl (Nat.le_of_ble_eq_true rfl) (Nat.le_of_ble_eq_true rfl) (Nat.le_refl _) (Nat.le_refl _) (Nat.le_of_ble_eq_true rfl) ?_
  refine e_if_ne aX8_sheet_5 (fun c5 => ?_) (fun c5 => ?_)
  · -- 5: taken
    have q5 := Decidable.of_not_not (fun z => c5 (b2_0.mpr z))
    refine e_aload_n aX8_sheet_18 rfl ?_
    refine e_iconst (v := 0) aX8_sheet_19 (by decide) ?_
    refine e_invvT aX8_sheet_20 kX8_62 (zfin X (k := 0) F (by decide)) rfl rfl (fx_is F rfl) (Nat.le_of_ble_eq_true rfl) (Nat.le_of_ble_eq_true rfl) (Nat.le_refl _) (Nat.le_refl _) (Nat.le_of_ble_eq_true rfl) ?_
    refine e_ireturn aX8_sheet_23 rfl (Nat.le_refl _) (Nat.le_refl _) ?_
    rw [if_pos q5]
    exact ⟨rfl, rfl⟩
  · -- 5: not taken
    have q5 := b2_0.mp c5
    obtain ⟨sz, hs, rfl⟩ := ou_of 4 (by decide) q5
    refine e_iload_n aX8_sheet_8 rfl ?_
    refine e_iconst (v := -1) aX8_sheet_9 (by decide) ?_
    refine e_icmp_lt aX8_sheet_10 (fun c10 => ?_) (fun c10 => ?_)
    · -- 10: taken
      have q10 : t < -1 := c10
      refine e_aload_n aX8_sheet_18 rfl ?_
      refine e_iconst (v := 0) aX8_sheet_19 (by decide) ?_
      refine e_invvT aX8_sheet_20 kX8_62 (zfin X (k := 0) F (by decide)) rfl rfl (fx_is F rfl) (Nat.le_of_ble_eq_true rfl) (Nat.le_of_ble_eq_true rfl) (Nat.le_refl _) (Nat.le_refl _) (Nat.le_of_ble_eq_true rfl) ?_
      refine e_ireturn aX8_sheet_23 rfl (Nat.le_refl _) (Nat.le_refl _) ?_
      rw [if_neg q5, if_pos q10]
      exact ⟨rfl, rfl⟩
    · -- 10: not taken
      have q10 : ¬ t < -1 := c10
      refine e_iload_n aX8_sheet_13 rfl ?_
      refine e_iconst (v := 2) aX8_sheet_14 (by decide) ?_
      refine e_icmp_le aX8_sheet_15 (fun c15 => ?_) (fun c15 => ?_)
      · -- 15: taken
        have q15 : t ≤ 2 := c15
        refine e_iload_n aX8_sheet_24 rfl ?_
        refine e_iconst (v := -1) aX8_sheet_25 (by decide) ?_
        refine e_icmp_ne aX8_sheet_26 (fun c26 => ?_) (fun c26 => ?_)
        · -- 26: taken
          have q26 : ¬ t = -1 := c26
          refine e_iload_n aX8_sheet_42 rfl ?_
          refine e_if_ge aX8_sheet_43 (fun c43 => ?_) (fun c43 => ?_)
          · -- 43: taken
            have q43 : ¬ y < 0 := Int32.not_lt.mpr c43
            refine e_iload_n aX8_sheet_53 rfl ?_
            refine e_bipush (v := 40) aX8_sheet_54 (by decide) ?_
            refine e_icmp_le aX8_sheet_56 (fun c56 => ?_) (fun c56 => ?_)
            · -- 56: taken
              have q56 : y ≤ 40 := c56
              obtain ⟨q, hq, rfl⟩ := ou_of 41 (by decide) (v := y) (fun z => z.elim q43 (fun z => absurd (Int32.le_trans z q56) (by decide)))
              refine e_aload_n aX8_sheet_65 rfl ?_
              refine e_getRF aX8_sheet_66 fX8_36 rfl (fx_is F rfl) (fx_r (b := 73) F rfl) ?_
              refine e_iload_n aX8_sheet_69 rfl ?_
              refine e_aaloadF (t := 18) aX8_sheet_70 (fx_is F rfl) (by decide) (by decide) (fx_n (n := 4) F rfl) (vin (N := 4) hs) (sh_a F hs) ?_
              refine e_iload_n aX8_sheet_71 rfl ?_
              refine e_iload_n aX8_sheet_72 rfl ?_
              refine e_invvV aX8_sheet_73 kX8_233 (zX5_become X F hs t (q := q) (by omega)) rfl rfl (sh_is F hs) (Nat.le_of_ble_eq_true rfl) (Nat.le_of_ble_eq_true rfl) (Nat.le_refl _) (Nat.le_refl _) (Nat.le_of_ble_eq_true rfl) ?_
              refine e_iload_n aX8_sheet_76 rfl ?_
              refine e_ireturn aX8_sheet_77 rfl (Nat.le_refl _) (Nat.le_refl _) ?_
              rw [if_neg q5, if_neg q10, if_pos q15, if_neg q26, if_neg q43, if_pos q56, cl (by omega), cl (by omega)]
              exact ⟨rfl, rfl⟩
            · -- 56: not taken
              have q56 : ¬ y ≤ 40 := c56
              refine e_aload_n aX8_sheet_59 rfl ?_
              refine e_iconst (v := 0) aX8_sheet_60 (by decide) ?_
              refine e_invvT aX8_sheet_61 kX8_62 (zfin X (k := 0) F (by decide)) rfl rfl (fx_is F rfl) (Nat.le_of_ble_eq_true rfl) (Nat.le_of_ble_eq_true rfl) (Nat.le_refl _) (Nat.le_refl _) (Nat.le_of_ble_eq_true rfl) ?_
              refine e_ireturn aX8_sheet_64 rfl (Nat.le_refl _) (Nat.le_refl _) ?_
              rw [if_neg q5, if_neg q10, if_pos q15, if_neg q26, if_neg q43, if_neg q56]
              exact ⟨rfl, rfl⟩
          · -- 43: not taken
            have q43 : y < 0 := Int32.not_le.mp c43
            refine e_aload_n aX8_sheet_46 rfl ?_
            refine e_bipush (v := 6) aX8_sheet_47 (by decide) ?_
            refine e_invvT aX8_sheet_49 kX8_62 (zfin X (k := 6) F (by decide)) rfl rfl (fx_is F rfl) (Nat.le_of_ble_eq_true rfl) (Nat.le_of_ble_eq_true rfl) (Nat.le_refl _) (Nat.le_refl _) (Nat.le_of_ble_eq_true rfl) ?_
            refine e_ireturn aX8_sheet_52 rfl (Nat.le_refl _) (Nat.le_refl _) ?_
            rw [if_neg q5, if_neg q10, if_pos q15, if_neg q26, if_pos q43]
            exact ⟨rfl, rfl⟩
        · -- 26: not taken
          have q26 : t = -1 := c26
          subst q26
          refine e_aload_n aX8_sheet_29 rfl ?_
          refine e_getRF aX8_sheet_30 fX8_36 rfl (fx_is F rfl) (fx_r (b := 73) F rfl) ?_
          refine e_iload_n aX8_sheet_33 rfl ?_
          refine e_aaloadF (t := 18) aX8_sheet_34 (fx_is F rfl) (by decide) (by decide) (fx_n (n := 4) F rfl) (vin (N := 4) hs) (sh_a F hs) ?_
          refine e_iconst (v := -1) aX8_sheet_35 (by decide) ?_
          refine e_iconst (v := 0) aX8_sheet_36 (by decide) ?_
          refine e_invvV aX8_sheet_37 kX8_233 (zX5_become X F hs (-1) (q := 0) (by decide)) rfl rfl (sh_is F hs) (Nat.le_of_ble_eq_true rfl) (Nat.le_of_ble_eq_true rfl) (Nat.le_refl _) (Nat.le_refl _) (Nat.le_of_ble_eq_true rfl) ?_
          refine e_iconst (v := 0) aX8_sheet_40 (by decide) ?_
          refine e_ireturn aX8_sheet_41 rfl (Nat.le_refl _) (Nat.le_refl _) ?_
          rw [if_neg q5, if_neg q10, if_pos q15, if_pos rfl, cl (by omega)]
          exact ⟨rfl, rfl⟩
      · -- 15: not taken
        have q15 : ¬ t ≤ 2 := c15
        refine e_aload_n aX8_sheet_18 rfl ?_
        refine e_iconst (v := 0) aX8_sheet_19 (by decide) ?_
        refine e_invvT aX8_sheet_20 kX8_62 (zfin X (k := 0) F (by decide)) rfl rfl (fx_is F rfl) (Nat.le_of_ble_eq_true rfl) (Nat.le_of_ble_eq_true rfl) (Nat.le_refl _) (Nat.le_refl _) (Nat.le_of_ble_eq_true rfl) ?_
        refine e_ireturn aX8_sheet_23 rfl (Nat.le_refl _) (Nat.le_refl _) ?_
        rw [if_neg q5, if_neg q10, if_neg q15]
        exact ⟨rfl, rfl⟩
theorem zX8_write (X : EX) {h : HP} (F : Fx h) {tS : Nat → Int32} {qS : Nat → Nat} (hS : ShA h tS qS) (x y : Int32) (v : Int64) : Ct X mX8_write 1 0 0 [vR (some 32), vI x, vI y, vL v] h (if x < 0 ∨ 4 ≤ x then RF h 0 else if tS x.toNatClampNeg = -1 then RF h 5 else if y < 0 ∨ nI (qS x.toNatClampNeg) ≤ y then RF h 0 else Rt (vI 1) (wL h (102 + 2 * x.toNatClampNeg) y.toNatClampNeg (pvR (tS x.toNatClampNeg) v))) := by
  refine ct_of rfl (Nat.le_of_ble_eq_true rfl) ?_
  refine e_iload_n aX8_write_0 rfl ?_
  refine e_iconst (v := 4) aX8_write_1 (by decide) ?_
  refine e_invsT aX8_write_2 kX8_58 (zX8_isOutside X _ _) rfl rfl (Nat.le_of_ble_eq_true rfl) (Nat.le_of_ble_eq_true rfl) (Nat.le_refl _) (Nat.le_refl _) (Nat.le_of_ble_eq_true rfl) ?_
  refine e_if_eq aX8_write_5 (fun c5 => ?_) (fun c5 => ?_)
  · -- 5: taken
    have q5 := b2_0.mp c5
    obtain ⟨sz, hs, rfl⟩ := ou_of 4 (by decide) q5
    have hsh := hS sz hs
    have hq40 := hsh.2.2.2
    refine e_aload_n aX8_write_14 rfl ?_
    refine e_getRF aX8_write_15 fX8_36 rfl (fx_is F rfl) (fx_r (b := 73) F rfl) ?_
    refine e_iload_n aX8_write_18 rfl ?_
    refine e_aaloadF (t := 18) aX8_write_19 (fx_is F rfl) (by decide) (by decide) (fx_n (n := 4) F rfl) (vin (N := 4) hs) (sh_a F hs) ?_
    refine e_astore aX8_write_20 (Nat.le_of_ble_eq_true rfl) ?_
    refine e_aload aX8_write_22 rfl ?_
    refine e_invvT aX8_write_24 kX8_203 (zmis X F hs hsh) rfl rfl (sh_is F hs) (Nat.le_of_ble_eq_true rfl) (Nat.le_of_ble_eq_true rfl) (Nat.le_refl _) (Nat.le_refl _) (Nat.le_of_ble_eq_true rfl) ?_
    refine e_if_eq aX8_write_27 (fun c27 => ?_) (fun c27 => ?_)
    · -- 27: taken
      have q27 := b2_0.mp c27
      refine e_iload_n aX8_write_36 rfl ?_
      refine e_aload aX8_write_37 rfl ?_
      refine e_getIF aX8_write_39 fX8_207 rfl (sh_is F hs) hsh.2.2.1 ?_
      refine e_invsT aX8_write_42 kX8_58 (zX8_isOutside X _ _) rfl rfl (Nat.le_of_ble_eq_true rfl) (Nat.le_of_ble_eq_true rfl) (Nat.le_refl _) (Nat.le_refl _) (Nat.le_of_ble_eq_true rfl) ?_
      refine e_if_eq aX8_write_45 (fun c45 => ?_) (fun c45 => ?_)
      · -- 45: taken
        have q45 := b2_0.mp c45
        obtain ⟨j, hj, rfl⟩ := ou_of (qS sz) (by omega) q45
        refine e_aload aX8_write_54 rfl ?_
        refine e_iload_n aX8_write_56 rfl ?_
        refine e_lload_n aX8_write_57 rfl ?_
        refine e_invvV aX8_write_58 kX8_221 (zX5_put X F hs hsh (hsh.tt q27) hj v) rfl rfl (sh_is F hs) (Nat.le_of_ble_eq_true rfl) (Nat.le_of_ble_eq_true rfl) (Nat.le_refl _) (Nat.le_refl _) (Nat.le_of_ble_eq_true rfl) ?_
        refine e_iconst (v := 1) aX8_write_61 (by decide) ?_
        refine e_ireturn aX8_write_62 rfl (Nat.le_refl _) (Nat.le_refl _) ?_
        rw [if_neg q5, cl (n := sz) (by omega), if_neg q27, if_neg q45, cl (by omega)]
        exact ⟨rfl, rfl⟩
      · -- 45: not taken
        have q45 := Decidable.of_not_not (fun z => c45 (b2_0.mpr z))
        refine e_aload_n aX8_write_48 rfl ?_
        refine e_iconst (v := 0) aX8_write_49 (by decide) ?_
        refine e_invvT aX8_write_50 kX8_62 (zfin X (k := 0) F (by decide)) rfl rfl (fx_is F rfl) (Nat.le_of_ble_eq_true rfl) (Nat.le_of_ble_eq_true rfl) (Nat.le_refl _) (Nat.le_refl _) (Nat.le_of_ble_eq_true rfl) ?_
        refine e_ireturn aX8_write_53 rfl (Nat.le_refl _) (Nat.le_refl _) ?_
        rw [if_neg q5, cl (by omega), if_neg q27, if_pos q45]
        exact ⟨rfl, rfl⟩
    · -- 27: not taken
      have q27 := Decidable.of_not_not (fun z => c27 (b2_0.mpr z))
      refine e_aload_n aX8_write_30 rfl ?_
      refine e_iconst (v := 5) aX8_write_31 (by decide) ?_
      refine e_invvT aX8_write_32 kX8_62 (zfin X (k := 5) F (by decide)) rfl rfl (fx_is F rfl) (Nat.le_of_ble_eq_true rfl) (Nat.le_of_ble_eq_true rfl) (Nat.le_refl _) (Nat.le_refl _) (Nat.le_of_ble_eq_true rfl) ?_
      refine e_ireturn aX8_write_35 rfl (Nat.le_refl _) (Nat.le_refl _) ?_
      rw [if_neg q5, cl (by omega), if_pos q27]
      exact ⟨rfl, rfl⟩
  · -- 5: not taken
    have q5 := Decidable.of_not_not (fun z => c5 (b2_0.mpr z))
    refine e_aload_n aX8_write_8 rfl ?_
    refine e_iconst (v := 0) aX8_write_9 (by decide) ?_
    refine e_invvT aX8_write_10 kX8_62 (zfin X (k := 0) F (by decide)) rfl rfl (fx_is F rfl) (Nat.le_of_ble_eq_true rfl) (Nat.le_of_ble_eq_true rfl) (Nat.le_refl _) (Nat.le_refl _) (Nat.le_of_ble_eq_true rfl) ?_
    refine e_ireturn aX8_write_13 rfl (Nat.le_refl _) (Nat.le_refl _) ?_
    rw [if_pos q5]
    exact ⟨rfl, rfl⟩
end
section
/-! contracts: lays, judge, hold, taken (written by wip/p45/g30.py) -/
theorem zX8_lays (X : EX) {h : HP} (F : Fx h) {f : Nat} {o : Nat → Nat} (bf : BkF h f o) {tS : Nat → Int32} {qS : Nat → Nat} (hS : ShA h tS qS) (x y : Int32) : Ct X mX8_lays 3 0 0 [vR (some 32), vI x, vI y] h (if x < 0 ∨ 4 ≤ x then RF h 0 else if nI (fo o f) ≤ y ∧ y < nI (fo o f + om f) then (if tS x.toNatClampNeg = -1 then RF h 5 else Rt (vI (nI (min (qS x.toNatClampNeg) 12))) (layH h (102 + 2 * x.toNatClampNeg) y.toNatClampNeg (tS x.toNatClampNeg) (min (qS x.toNatClampNeg) 12))) else RF h 0) := by
  refine ct_of rfl (Nat.le_of_ble_eq_true rfl) ?_
  have hb6 := om_fo bf.2.1 bf.2.2.2
  refine e_iload_n aX8_lays_0 rfl ?_
  refine e_iconst (v := 4) aX8_lays_1 (by decide) ?_
  refine e_invsT aX8_lays_2 kX8_58 (zX8_isOutside X _ _) rfl rfl (Nat.le_of_ble_eq_true rfl) (Nat.le_of_ble_eq_true rfl) (Nat.le_refl _) (Nat.le_refl _) (Nat.le_of_ble_eq_true rfl) ?_
  refine e_if_ne aX8_lays_5 (fun c5 => ?_) (fun c5 => ?_)
  · -- 5: taken
    have q5 := Decidable.of_not_not (fun z => c5 (b2_0.mpr z))
    refine e_aload_n aX8_lays_19 rfl ?_
    refine e_iconst (v := 0) aX8_lays_20 (by decide) ?_
    refine e_invvT aX8_lays_21 kX8_62 (zfin X (k := 0) F (by decide)) rfl rfl (fx_is F rfl) (Nat.le_of_ble_eq_true rfl) (Nat.le_of_ble_eq_true rfl) (Nat.le_refl _) (Nat.le_refl _) (Nat.le_of_ble_eq_true rfl) ?_
    refine e_ireturn aX8_lays_24 rfl (Nat.le_refl _) (Nat.le_refl _) ?_
    rw [if_pos q5]
    exact ⟨rfl, rfl⟩
  · -- 5: not taken
    have q5 := b2_0.mp c5
    obtain ⟨sz, hs, rfl⟩ := ou_of 4 (by decide) q5
    have hsh := hS sz hs
    have hq40 := hsh.2.2.2
    refine e_aload_n aX8_lays_8 rfl ?_
    refine e_getRF aX8_lays_9 fX8_10 rfl (fx_is F rfl) (fx_r (b := 33) F rfl) ?_
    refine e_iload_n aX8_lays_12 rfl ?_
    refine e_invvT aX8_lays_13 kX8_169 (zX0_isOpen X F bf _) rfl rfl (fx_is F rfl) (Nat.le_of_ble_eq_true rfl) (Nat.le_of_ble_eq_true rfl) (Nat.le_refl _) (Nat.le_refl _) (Nat.le_of_ble_eq_true rfl) ?_
    refine e_if_ne aX8_lays_16 (fun c16 => ?_) (fun c16 => ?_)
    · -- 16: taken
      have q16 := Decidable.of_not_not (fun z => c16 (b2_0.mpr z))
      obtain ⟨uz, hs1, hs2, rfl⟩ := opn_of (Nat.le_add_right _ _) hb6 q16
      refine e_aload_n aX8_lays_25 rfl ?_
      refine e_getRF aX8_lays_26 fX8_36 rfl (fx_is F rfl) (fx_r (b := 73) F rfl) ?_
      refine e_iload_n aX8_lays_29 rfl ?_
      refine e_aaloadF (t := 18) aX8_lays_30 (fx_is F rfl) (by decide) (by decide) (fx_n (n := 4) F rfl) (vin (N := 4) hs) (sh_a F hs) ?_
      refine e_astore_n aX8_lays_31 (Nat.le_of_ble_eq_true rfl) ?_
      refine e_aload_n aX8_lays_32 rfl ?_
      refine e_invvT aX8_lays_33 kX8_203 (zmis X F hs hsh) rfl rfl (sh_is F hs) (Nat.le_of_ble_eq_true rfl) (Nat.le_of_ble_eq_true rfl) (Nat.le_refl _) (Nat.le_refl _) (Nat.le_of_ble_eq_true rfl) ?_
      refine e_if_eq aX8_lays_36 (fun c36 => ?_) (fun c36 => ?_)
      · -- 36: taken
        have q36 := b2_0.mp c36
        rw [if_neg q5, if_pos q16, cl (n := sz) (by omega), if_neg q36, cl (by omega)]
        have hmn : (min (qS sz) 12) ≤ qS sz ∧ (min (qS sz) 12) ≤ 12 := ⟨Nat.min_le_left _ _, Nat.min_le_right _ _⟩
        have loop : ∀ (m : Nat) (k : Nat), k + m = (min (qS sz) 12) → Ev X mX8_lays 3 0 0 (Rt (vI (nI (min (qS sz) 12))) (layH h (102 + 2 * sz) uz (tS sz) (min (qS sz) 12))) 0 0 59 [(0, some (vR (some 32))), (2, some (vI (nI uz))), (3, some (vR (some (101 + 2 * sz)))), (4, some (vI (nI (min (qS sz) 12)))), (5, some (vI (nI k)))] [] (layH h (102 + 2 * sz) uz (tS sz) k) := by
          intro m
          induction m with
          | zero =>
            intro k hk
            obtain rfl : k = (min (qS sz) 12) := by omega
            refine e_iload aX8_lays_59 rfl ?_
            refine e_iload aX8_lays_61 rfl ?_
            refine e_icmp_ge aX8_lays_63 (fun c63 => ?_) (fun c63 => ?_)
            · -- 63: taken
              refine e_iload aX8_lays_89 rfl ?_
              refine e_ireturn aX8_lays_91 rfl (Nat.le_refl _) (Nat.le_refl _) ?_
              exact ⟨rfl, rfl⟩
            · -- 63: not taken
              exact absurd (nI_le (by omega) (by omega)) c63
          | succ m ih =>
            intro k hk
            have FZ : Fx (layH h (102 + 2 * sz) uz (tS sz) k) := layH_F F k
            have hshZ : ShC (layH h (102 + 2 * sz) uz (tS sz) k) sz (tS sz) (qS sz) := ⟨by rw [layH_I]; exact hsh.1, hsh.2.1, by rw [layH_I]; exact hsh.2.2.1, hq40⟩
            refine e_iload aX8_lays_59 rfl ?_
            refine e_iload aX8_lays_61 rfl ?_
            refine e_icmp_ge aX8_lays_63 (fun c63 => ?_) (fun c63 => ?_)
            · -- 63: taken
              exact absurd c63 (nI_ge (by omega) (by omega))
            · -- 63: not taken
              refine e_aload_n aX8_lays_66 rfl ?_
              refine e_iload aX8_lays_67 rfl ?_
              refine e_aload_n aX8_lays_69 rfl ?_
              refine e_getRF aX8_lays_70 fX8_23 rfl (fx_is FZ rfl) (fx_r (b := 38) FZ rfl) ?_
              refine e_iload_n aX8_lays_73 rfl ?_
              refine e_iload aX8_lays_74 rfl ?_
              refine e_invvT aX8_lays_76 kX8_172 (zX2_at X FZ (s := uz) (p := k) (by omega) (by omega)) rfl rfl (fx_is FZ rfl) (Nat.le_of_ble_eq_true rfl) (Nat.le_of_ble_eq_true rfl) (Nat.le_refl _) (Nat.le_refl _) (Nat.le_of_ble_eq_true rfl) ?_
              rw [layH_I k]
              refine e_i2l aX8_lays_79 ?_
              refine e_invvV aX8_lays_80 kX8_221 (zX5_put X (h := (layH h (102 + 2 * sz) uz (tS sz) k)) FZ hs hshZ (hsh.tt q36) (by omega) _) rfl rfl (sh_is FZ hs) (Nat.le_of_ble_eq_true rfl) (Nat.le_of_ble_eq_true rfl) (Nat.le_refl _) (Nat.le_refl _) (Nat.le_of_ble_eq_true rfl) ?_
              refine e_iinc aX8_lays_83 rfl rfl (Nat.le_of_ble_eq_true rfl) ?_
              refine e_goto aX8_lays_86 ?_
              refine e_ls (ls' := [(0, some (vR (some 32))), (2, some (vI (nI uz))), (3, some (vR (some (101 + 2 * sz)))), (4, some (vI (nI (min (qS sz) 12)))), (5, some (vI (nI (k + 1))))]) ⟨rfl, rfl, rfl, rfl, congrArg (fun x => some (vI x)) (nI_1 k), trivial⟩ ?_
              exact ih (k + 1) (by omega)
        refine e_aload_n aX8_lays_45 rfl ?_
        refine e_getIF aX8_lays_46 fX8_207 rfl (sh_is F hs) hsh.2.2.1 ?_
        refine e_bipush (v := 12) aX8_lays_49 (by decide) ?_
        refine e_min aX8_lays_51 kX8_216.2.2.1 w_minS w_minI w_minC (Nat.le_of_ble_eq_true rfl) (Nat.le_refl _) (Nat.le_refl _) (Nat.le_of_ble_eq_true rfl) ?_
        refine e_top (min12 hq40) ?_
        refine e_istore aX8_lays_54 (Nat.le_of_ble_eq_true rfl) ?_
        refine e_iconst (v := 0) aX8_lays_56 (by decide) ?_
        refine e_istore aX8_lays_57 (Nat.le_of_ble_eq_true rfl) ?_
        refine e_ls (ls' := [(0, some (vR (some 32))), (2, some (vI (nI uz))), (3, some (vR (some (101 + 2 * sz)))), (4, some (vI (nI (min (qS sz) 12)))), (5, some (vI (nI 0)))]) ⟨rfl, rfl, rfl, rfl, rfl, trivial⟩ ?_
        exact loop (min (qS sz) 12) 0 (by omega)
      · -- 36: not taken
        have q36 := Decidable.of_not_not (fun z => c36 (b2_0.mpr z))
        refine e_aload_n aX8_lays_39 rfl ?_
        refine e_iconst (v := 5) aX8_lays_40 (by decide) ?_
        refine e_invvT aX8_lays_41 kX8_62 (zfin X (k := 5) F (by decide)) rfl rfl (fx_is F rfl) (Nat.le_of_ble_eq_true rfl) (Nat.le_of_ble_eq_true rfl) (Nat.le_refl _) (Nat.le_refl _) (Nat.le_of_ble_eq_true rfl) ?_
        refine e_ireturn aX8_lays_44 rfl (Nat.le_refl _) (Nat.le_refl _) ?_
        rw [if_neg q5, if_pos q16, cl (n := sz) (by omega), if_pos q36]
        exact ⟨rfl, rfl⟩
    · -- 16: not taken
      have q16 := b2_0.mp c16
      refine e_aload_n aX8_lays_19 rfl ?_
      refine e_iconst (v := 0) aX8_lays_20 (by decide) ?_
      refine e_invvT aX8_lays_21 kX8_62 (zfin X (k := 0) F (by decide)) rfl rfl (fx_is F rfl) (Nat.le_of_ble_eq_true rfl) (Nat.le_of_ble_eq_true rfl) (Nat.le_refl _) (Nat.le_refl _) (Nat.le_of_ble_eq_true rfl) ?_
      refine e_ireturn aX8_lays_24 rfl (Nat.le_refl _) (Nat.le_refl _) ?_
      rw [if_neg q5, if_neg q16]
      exact ⟨rfl, rfl⟩
/-- a number on a sheet is the OWNER's -/
def jdB (h : HP) (a s p : Nat) : Bool := decide (¬ lg_cmp (hL h a p) (dgt (hI h 39 s) p).toInt64 = 0)
def jdR (h : HP) (a s q : Nat) : Int32 := match frW (jdB h a s) 0 (min q 12) with
  | some p => nI (1 + p)
  | none => if q = 12 then 0 else nI (1 + min q 12)
theorem zX8_judge (X : EX) {h : HP} (F : Fx h) {f : Nat} {o : Nat → Nat} (bf : BkF h f o) {tS : Nat → Int32} {qS : Nat → Nat} (hS : ShA h tS qS) (x y : Int32) : Ct X mX8_judge 3 0 0 [vR (some 32), vI x, vI y] h (if x < 0 ∨ 4 ≤ x then RF h 0 else if nI (fo o f) ≤ y ∧ y < nI (fo o f + om f) then (if tS x.toNatClampNeg = -1 then RF h 5 else Rt (vI (jdR h (102 + 2 * x.toNatClampNeg) y.toNatClampNeg (qS x.toNatClampNeg))) h) else RF h 0) := by
  refine ct_of rfl (Nat.le_of_ble_eq_true rfl) ?_
  have hb6 := om_fo bf.2.1 bf.2.2.2
  refine e_iload_n aX8_judge_0 rfl ?_
  refine e_iconst (v := 4) aX8_judge_1 (by decide) ?_
  refine e_invsT aX8_judge_2 kX8_58 (zX8_isOutside X _ _) rfl rfl (Nat.le_of_ble_eq_true rfl) (Nat.le_of_ble_eq_true rfl) (Nat.le_refl _) (Nat.le_refl _) (Nat.le_of_ble_eq_true rfl) ?_
  refine e_if_ne aX8_judge_5 (fun c5 => ?_) (fun c5 => ?_)
  · -- 5: taken
    have q5 := Decidable.of_not_not (fun z => c5 (b2_0.mpr z))
    refine e_aload_n aX8_judge_19 rfl ?_
    refine e_iconst (v := 0) aX8_judge_20 (by decide) ?_
    refine e_invvT aX8_judge_21 kX8_62 (zfin X (k := 0) F (by decide)) rfl rfl (fx_is F rfl) (Nat.le_of_ble_eq_true rfl) (Nat.le_of_ble_eq_true rfl) (Nat.le_refl _) (Nat.le_refl _) (Nat.le_of_ble_eq_true rfl) ?_
    refine e_ireturn aX8_judge_24 rfl (Nat.le_refl _) (Nat.le_refl _) ?_
    rw [if_pos q5]
    exact ⟨rfl, rfl⟩
  · -- 5: not taken
    have q5 := b2_0.mp c5
    obtain ⟨sz, hs, rfl⟩ := ou_of 4 (by decide) q5
    have hsh := hS sz hs
    have hq40 := hsh.2.2.2
    refine e_aload_n aX8_judge_8 rfl ?_
    refine e_getRF aX8_judge_9 fX8_10 rfl (fx_is F rfl) (fx_r (b := 33) F rfl) ?_
    refine e_iload_n aX8_judge_12 rfl ?_
    refine e_invvT aX8_judge_13 kX8_169 (zX0_isOpen X F bf _) rfl rfl (fx_is F rfl) (Nat.le_of_ble_eq_true rfl) (Nat.le_of_ble_eq_true rfl) (Nat.le_refl _) (Nat.le_refl _) (Nat.le_of_ble_eq_true rfl) ?_
    refine e_if_ne aX8_judge_16 (fun c16 => ?_) (fun c16 => ?_)
    · -- 16: taken
      have q16 := Decidable.of_not_not (fun z => c16 (b2_0.mpr z))
      obtain ⟨uz, hs1, hs2, rfl⟩ := opn_of (Nat.le_add_right _ _) hb6 q16
      refine e_aload_n aX8_judge_25 rfl ?_
      refine e_getRF aX8_judge_26 fX8_36 rfl (fx_is F rfl) (fx_r (b := 73) F rfl) ?_
      refine e_iload_n aX8_judge_29 rfl ?_
      refine e_aaloadF (t := 18) aX8_judge_30 (fx_is F rfl) (by decide) (by decide) (fx_n (n := 4) F rfl) (vin (N := 4) hs) (sh_a F hs) ?_
      refine e_astore_n aX8_judge_31 (Nat.le_of_ble_eq_true rfl) ?_
      refine e_aload_n aX8_judge_32 rfl ?_
      refine e_invvT aX8_judge_33 kX8_203 (zmis X F hs hsh) rfl rfl (sh_is F hs) (Nat.le_of_ble_eq_true rfl) (Nat.le_of_ble_eq_true rfl) (Nat.le_refl _) (Nat.le_refl _) (Nat.le_of_ble_eq_true rfl) ?_
      refine e_if_eq aX8_judge_36 (fun c36 => ?_) (fun c36 => ?_)
      · -- 36: taken
        have q36 := b2_0.mp c36
        rw [if_neg q5, if_pos q16, cl (n := sz) (by omega), if_neg q36, cl (by omega)]
        have hmn : (min (qS sz) 12) ≤ qS sz ∧ (min (qS sz) 12) ≤ 12 := ⟨Nat.min_le_left _ _, Nat.min_le_right _ _⟩
        have loop : ∀ (m : Nat) (k : Nat), k + m = (min (qS sz) 12) → frW (jdB h (102 + 2 * sz) uz) k m = (frW (jdB h (102 + 2 * sz) uz) 0 (min (qS sz) 12)) → Ev X mX8_judge 3 0 0 (Rt (vI (jdR h (102 + 2 * sz) uz (qS sz))) h) 0 0 59 [(0, some (vR (some 32))), (2, some (vI (nI uz))), (3, some (vR (some (101 + 2 * sz)))), (4, some (vI (nI (min (qS sz) 12)))), (5, some (vI (nI k)))] [] h := by
          intro m
          induction m with
          | zero =>
            intro k hk hR9
            obtain rfl : k = (min (qS sz) 12) := by omega
            refine e_iload aX8_judge_59 rfl ?_
            refine e_iload aX8_judge_61 rfl ?_
            refine e_icmp_ge aX8_judge_63 (fun c63 => ?_) (fun c63 => ?_)
            · -- 63: taken
              refine e_aload_n aX8_judge_99 rfl ?_
              refine e_getIF aX8_judge_100 fX8_207 rfl (sh_is F hs) hsh.2.2.1 ?_
              refine e_bipush (v := 12) aX8_judge_103 (by decide) ?_
              refine e_icmp_ne aX8_judge_105 (fun c105 => ?_) (fun c105 => ?_)
              · -- 105: taken
                have q105 : ¬ qS sz = 12 := fun z => c105 (by rw [z]; rfl)
                refine e_iconst (v := 1) aX8_judge_112 (by decide) ?_
                refine e_iload aX8_judge_113 rfl ?_
                refine e_iadd aX8_judge_115 ?_
                refine e_top (nI_add 1 (min (qS sz) 12)) ?_
                refine e_ireturn aX8_judge_116 rfl (Nat.le_refl _) (Nat.le_refl _) ?_
                exact ⟨by unfold jdR; rw [← hR9]; show some (vI _) = some (vI (if qS sz = 12 then _ else _)); rw [if_neg q105], rfl⟩
              · -- 105: not taken
                have q105 : qS sz = 12 := by
                  have e : nI (qS sz) = nI 12 := c105
                  exact (nI_eq (by omega) (by decide)).mp e
                refine e_iconst (v := 0) aX8_judge_108 (by decide) ?_
                refine e_goto aX8_judge_109 ?_
                refine e_ireturn aX8_judge_116 rfl (Nat.le_refl _) (Nat.le_refl _) ?_
                exact ⟨by unfold jdR; rw [← hR9]; show some (vI _) = some (vI (if qS sz = 12 then _ else _)); rw [if_pos q105], rfl⟩
            · -- 63: not taken
              exact absurd (nI_le (by omega) (by omega)) c63
          | succ m ih =>
            intro k hk hR9
            refine e_iload aX8_judge_59 rfl ?_
            refine e_iload aX8_judge_61 rfl ?_
            refine e_icmp_ge aX8_judge_63 (fun c63 => ?_) (fun c63 => ?_)
            · -- 63: taken
              exact absurd c63 (nI_ge (by omega) (by omega))
            · -- 63: not taken
              refine e_aload_n aX8_judge_66 rfl ?_
              refine e_getRF aX8_judge_67 fX8_225 rfl (sh_is F hs) (sh_r F hs) ?_
              refine e_iload aX8_judge_70 rfl ?_
              refine e_laloadF aX8_judge_72 (sn_is F hs) (sn_n F hs) (vin (N := 40) (by omega)) (show hL h (102 + 2 * sz) (nI k).toNatClampNeg = hL h (102 + 2 * sz) k by rw [cl (by omega)]) ?_
              refine e_aload_n aX8_judge_73 rfl ?_
              refine e_getRF aX8_judge_74 fX8_23 rfl (fx_is F rfl) (fx_r (b := 38) F rfl) ?_
              refine e_iload_n aX8_judge_77 rfl ?_
              refine e_iload aX8_judge_78 rfl ?_
              refine e_invvT aX8_judge_80 kX8_172 (zX2_at X F (s := uz) (p := k) (by omega) (by omega)) rfl rfl (fx_is F rfl) (Nat.le_of_ble_eq_true rfl) (Nat.le_of_ble_eq_true rfl) (Nat.le_refl _) (Nat.le_refl _) (Nat.le_of_ble_eq_true rfl) ?_
              refine e_i2l aX8_judge_83 ?_
              refine e_lcmp aX8_judge_84 ?_
              refine e_if_eq aX8_judge_85 (fun c85 => ?_) (fun c85 => ?_)
              · -- 85: taken
                refine e_iinc aX8_judge_93 rfl rfl (Nat.le_of_ble_eq_true rfl) ?_
                refine e_goto aX8_judge_96 ?_
                refine e_ls (ls' := [(0, some (vR (some 32))), (2, some (vI (nI uz))), (3, some (vR (some (101 + 2 * sz)))), (4, some (vI (nI (min (qS sz) 12)))), (5, some (vI (nI (k + 1))))]) ⟨rfl, rfl, rfl, rfl, congrArg (fun x => some (vI x)) (nI_1 k), trivial⟩ ?_
                exact ih (k + 1) (by omega) (by rw [← hR9, frW_f (fun z => (of_decide_eq_true z) c85)])
              · -- 85: not taken
                refine e_iconst (v := 1) aX8_judge_88 (by decide) ?_
                refine e_iload aX8_judge_89 rfl ?_
                refine e_iadd aX8_judge_91 ?_
                refine e_top (nI_add 1 k) ?_
                refine e_ireturn aX8_judge_92 rfl (Nat.le_refl _) (Nat.le_refl _) ?_
                exact ⟨by unfold jdR; rw [← hR9, frW_t (decide_eq_true c85)] <;> rfl, rfl⟩
        refine e_aload_n aX8_judge_45 rfl ?_
        refine e_getIF aX8_judge_46 fX8_207 rfl (sh_is F hs) hsh.2.2.1 ?_
        refine e_bipush (v := 12) aX8_judge_49 (by decide) ?_
        refine e_min aX8_judge_51 kX8_216.2.2.1 w_minS w_minI w_minC (Nat.le_of_ble_eq_true rfl) (Nat.le_refl _) (Nat.le_refl _) (Nat.le_of_ble_eq_true rfl) ?_
        refine e_top (min12 hq40) ?_
        refine e_istore aX8_judge_54 (Nat.le_of_ble_eq_true rfl) ?_
        refine e_iconst (v := 0) aX8_judge_56 (by decide) ?_
        refine e_istore aX8_judge_57 (Nat.le_of_ble_eq_true rfl) ?_
        refine e_ls (ls' := [(0, some (vR (some 32))), (2, some (vI (nI uz))), (3, some (vR (some (101 + 2 * sz)))), (4, some (vI (nI (min (qS sz) 12)))), (5, some (vI (nI 0)))]) ⟨rfl, rfl, rfl, rfl, rfl, trivial⟩ ?_
        exact loop (min (qS sz) 12) 0 (by omega) rfl
      · -- 36: not taken
        have q36 := Decidable.of_not_not (fun z => c36 (b2_0.mpr z))
        refine e_aload_n aX8_judge_39 rfl ?_
        refine e_iconst (v := 5) aX8_judge_40 (by decide) ?_
        refine e_invvT aX8_judge_41 kX8_62 (zfin X (k := 5) F (by decide)) rfl rfl (fx_is F rfl) (Nat.le_of_ble_eq_true rfl) (Nat.le_of_ble_eq_true rfl) (Nat.le_refl _) (Nat.le_refl _) (Nat.le_of_ble_eq_true rfl) ?_
        refine e_ireturn aX8_judge_44 rfl (Nat.le_refl _) (Nat.le_refl _) ?_
        rw [if_neg q5, if_pos q16, cl (n := sz) (by omega), if_pos q36]
        exact ⟨rfl, rfl⟩
    · -- 16: not taken
      have q16 := b2_0.mp c16
      refine e_aload_n aX8_judge_19 rfl ?_
      refine e_iconst (v := 0) aX8_judge_20 (by decide) ?_
      refine e_invvT aX8_judge_21 kX8_62 (zfin X (k := 0) F (by decide)) rfl rfl (fx_is F rfl) (Nat.le_of_ble_eq_true rfl) (Nat.le_of_ble_eq_true rfl) (Nat.le_refl _) (Nat.le_refl _) (Nat.le_of_ble_eq_true rfl) ?_
      refine e_ireturn aX8_judge_24 rfl (Nat.le_refl _) (Nat.le_refl _) ?_
      rw [if_neg q5, if_neg q16]
      exact ⟨rfl, rfl⟩
/-- KIND under KIND -/
def kab (k : Nat) : Option Nat := [none, some 0, some 0, some 1, some 1, some 2].getD k none
def unR (c : Nat) : Nat → Option Nat → Bool
  | 0, q => decide (q = some c)
  | m + 1, q => if q = none then false else if q = some c then true else unR c m (kab (q.getD 0))
theorem kab_lt {k q : Nat} (z : kab k = some q) : q < 6 := by
  have h1 : k < 6 ∨ 6 ≤ k := by omega
  rcases h1 with w | w
  · rcases (show k = 0 ∨ k = 1 ∨ k = 2 ∨ k = 3 ∨ k = 4 ∨ k = 5 by omega) with rfl | rfl | rfl | rfl | rfl | rfl <;> cases z <;> decide
  · unfold kab at z
    rw [List.getD_eq_getElem?_getD, List.getElem?_eq_none (by show 6 ≤ k; exact w)] at z
    cases z
theorem st_kab {k : Nat} (h : k < 6) : ([-1, 0, 0, 1, 1, 2] : List Int32).getD (nI k).toNatClampNeg 0 = oI (kab k) := by
  rw [cl (by omega)]
  rcases (show k = 0 ∨ k = 1 ∨ k = 2 ∨ k = 3 ∨ k = 4 ∨ k = 5 by omega) with rfl | rfl | rfl | rfl | rfl | rfl <;> rfl
theorem unR_s {c0 m : Nat} {q : Option Nat} : unR c0 (m + 1) q = if q = none then false else if q = some c0 then true else unR c0 m (kab (q.getD 0)) := rfl
/-- spots -/
def SpC (h : HP) (S : Nat → Option Nat) (E : Nat → DD) : Prop := ∀ i, i < 4 → hR h 74 i = S i ∧ ∀ a, S i = some a → DealC h a (E i)
end
section
/-! contracts: Book.become, image, back (written by wip/p45/g31.py) -/
def bkL : List Nat := [33, 77, 81, 85, 89, 93, 97]
theorem bk1 : ∀ a, a ∈ bkL → (Nat.ble 32 a && Nat.blt a NF && Nat.beq (T0 a) 1) = true := by decide
theorem bk2 : ∀ a, a ∈ bkL → (Nat.ble 32 (a + 1) && Nat.blt (a + 1) NF && Nat.beq (T0 (a + 1)) 17) = true := by decide
theorem bk3 : ∀ a, a ∈ bkL → (Nat.ble 32 (a + 1) && Nat.blt (a + 1) NF && Nat.beq (N0 (a + 1)) 12) = true := by decide
theorem bk4 : ∀ a, a ∈ bkL → (!Nat.beq (a + 1) 0 && Nat.beq (R0 a 0) (a + 1)) = true := by decide
theorem bk5 : ∀ a, a ∈ bkL → (Nat.ble 32 (a + 2) && Nat.blt (a + 2) NF && Nat.beq (T0 (a + 2)) 13) = true := by decide
theorem bk6 : ∀ a, a ∈ bkL → (Nat.ble 32 (a + 2) && Nat.blt (a + 2) NF && Nat.beq (N0 (a + 2)) 4) = true := by decide
theorem bk7 : ∀ a, a ∈ bkL → (!Nat.beq (a + 2) 0 && Nat.beq (R0 a 2) (a + 2)) = true := by decide
theorem bk8 : ∀ a, a ∈ bkL → (Nat.ble 32 (a + 3) && Nat.blt (a + 3) NF && Nat.beq (T0 (a + 3)) 13) = true := by decide
theorem bk9 : ∀ a, a ∈ bkL → (Nat.ble 32 (a + 3) && Nat.blt (a + 3) NF && Nat.beq (N0 (a + 3)) 3) = true := by decide
theorem bk10 : ∀ a, a ∈ bkL → (!Nat.beq (a + 3) 0 && Nat.beq (R0 a 4) (a + 3)) = true := by decide
theorem bk11 : ∀ a, a ∈ bkL → R0l.getD (a + 1 - 32) [] = [] := by decide
theorem bk12 : ∀ a, a ∈ bkL → ∀ b, b ∈ bkL → b ≠ a + 1 ∧ b ≠ a + 2 ∧ b ≠ a + 3 ∧ (a ≠ b → a + 4 ≤ b ∨ b + 4 ≤ a) ∧ a + 3 < 116 ∧ 33 ≤ a := by decide
theorem bk13 : ∀ i, i < 6 → 77 + 4 * i ∈ bkL := by decide
theorem bk14 : ∀ i, i < 6 → (!Nat.beq (77 + 4 * i) 0 && Nat.beq (R0 37 i) (77 + 4 * i)) = true := by decide
/-- a book of the pile, or the book -/
def BkFg (h : HP) (a f : Nat) (o : Nat → Nat) : Prop := hI h a 3 = nI f ∧ f ≤ 4 ∧ (∀ y, y < f → hI h (a + 2) y = nI (o y)) ∧ (∀ y, y < f → o y < 6)
def BkDg (h : HP) (a n : Nat) (A : Nat → Nat) (D : Nat → DD) : Prop := hI h a 1 = nI n ∧ n ≤ 12 ∧ (∀ k, k < n → hR h (a + 1) k = some (A k) ∧ DealC h (A k) (D k))
def rcp (h : HP) (a : Nat) (A : Nat → Nat) : Nat → HP
  | 0 => h
  | k + 1 => wR (rcp h a A k) a k (some (A k))
theorem rcp_F {h : HP} (F : Fx h) {a : Nat} {A : Nat → Nat} (z : R0l.getD (a - 32) [] = []) : ∀ k, Fx (rcp h a A k) := by
  intro k
  induction k with
  | zero => exact F
  | succ k ih => exact ih.wR z
theorem rcp_I {h : HP} {a : Nat} {A : Nat → Nat} : ∀ k, hI (rcp h a A k) = hI h ∧ hL (rcp h a A k) = hL h ∧ hT (rcp h a A k) = hT h ∧ hN (rcp h a A k) = hN h ∧ hZ (rcp h a A k) = hZ h := by
  intro k
  induction k with
  | zero => exact ⟨rfl, rfl, rfl, rfl, rfl⟩
  | succ k ih => exact ih
theorem rcp_o {h : HP} {a b : Nat} {A : Nat → Nat} (q : b ≠ a) : ∀ k, hR (rcp h a A k) b = hR h b := by
  intro k
  induction k with
  | zero => rfl
  | succ k ih => exact (funext fun i => up2_a q).trans ih
theorem rcp_s {h : HP} {a : Nat} {A : Nat → Nat} : ∀ k j, j < k → hR (rcp h a A k) a j = some (A j) := by
  intro k
  induction k with
  | zero => intro j hj; omega
  | succ k ih =>
    intro j hj
    by_cases q : j = k
    · subst q
      exact up2_s
    · exact (up2_i q).trans (ih j (by omega))
theorem cpI_o {h : HP} {a b sp dp m x : Nat} (q : x ≠ b) : hI (cpI h a b sp dp m) x = hI h x := funext fun j => if_neg q
theorem cpI_s {h : HP} {a b m j : Nat} (q : j < m) : hI (cpI h a b 0 0 m) b j = hI h a j := by
  show (if b = b then va_cpy (hI h a) (hI h b) 0 0 m j else _) = _
  rw [if_pos rfl]
  unfold va_cpy
  rw [if_pos ⟨Nat.zero_le _, by omega⟩]
  congr 1
  omega
def bm1 (h : HP) (a b n : Nat) (A : Nat → Nat) : HP := cpI (rcp (wI h a 1 (nI n)) (a + 1) A n) (b + 2) (a + 2) 0 0 4
def bm2 (h : HP) (a b n : Nat) (A : Nat → Nat) : HP := wI (bm1 h a b n A) a 3 (hI (bm1 h a b n A) b 3)
def bm3 (h : HP) (a b n : Nat) (A : Nat → Nat) : HP := cpI (bm2 h a b n A) (b + 3) (a + 3) 0 0 3
/-- a book becomes another -/
def bmH (h : HP) (a b n : Nat) (A : Nat → Nat) : HP := wI (bm3 h a b n A) a 5 (hI (bm3 h a b n A) b 5)
theorem zX0_become (X : EX) {h : HP} (F : Fx h) {a b : Nat} (ha : a ∈ bkL) (hb : b ∈ bkL) (hab : a ≠ b) {n : Nat} {A : Nat → Nat} {D : Nat → DD} (hB : BkDg h b n A D) : Ct X mX0_become 1 0 0 [vR (some a), vR (some b)] h (Rv (bmH h a b n A)) := by
  refine ct_of rfl (Nat.le_of_ble_eq_true rfl) ?_
  have hn12 := hB.2.1
  have hx := bk12 a ha b hb
  have hy := bk12 b hb a ha
  have hd4 := hx.2.2.2.1 hab
  have loop : ∀ (m : Nat) (k : Nat), k + m = n → Ev X mX0_become 1 0 0 (Rv (bmH h a b n A)) 0 0 10 [(0, some (vR (some a))), (1, some (vR (some b))), (2, some (vI (nI k)))] [] (rcp (wI h a 1 (nI n)) (a + 1) A k) := by
    intro m
    induction m with
    | zero =>
      intro k hk
      obtain rfl : n = k := by omega
      have FZ : Fx (rcp (wI h a 1 (nI n)) (a + 1) A n) := rcp_F (h := wI h a 1 (nI n)) F (bk11 a ha) n
      refine e_iload_n aX0_become_10 rfl ?_
      refine e_aload_n aX0_become_11 rfl ?_
      refine e_getIF aX0_become_12 fX0_28 rfl (fx_is FZ (bk1 a ha)) (show hI (rcp (wI h a 1 (nI n)) (a + 1) A n) a 1 = nI n by rw [(rcp_I n).1]; exact wI_s) ?_
      refine e_icmp_ge aX0_become_15 (fun c15 => ?_) (fun c15 => ?_)
      · -- 15: taken
        refine e_aload_n aX0_become_36 rfl ?_
        refine e_getRF aX0_become_37 fX0_17 rfl (fx_is FZ (bk1 b hb)) (fx_r FZ (bk7 b hb)) ?_
        refine e_iconst (v := 0) aX0_become_40 (by decide) ?_
        refine e_aload_n aX0_become_41 rfl ?_
        refine e_getRF aX0_become_42 fX0_17 rfl (fx_is FZ (bk1 a ha)) (fx_r FZ (bk7 a ha)) ?_
        refine e_iconst (v := 0) aX0_become_45 (by decide) ?_
        refine e_iconst (v := 4) aX0_become_46 (by decide) ?_
        refine e_copyI aX0_become_47 kX0_31 w_acpN w_acpS w_acpI (fx_is FZ (bk5 b hb)) (fx_is FZ (bk5 a ha)) (by decide) (by decide) (by decide) (by rw [fx_n FZ (bk6 b hb)]; decide) (by rw [fx_n FZ (bk6 a ha)]; decide) (Nat.le_of_ble_eq_true rfl) (Nat.le_of_ble_eq_true rfl) ?_
        refine e_hp (h2 := bm1 h a b n A) rfl ?_
        have FZ : Fx (bm1 h a b n A) := FZ
        refine e_aload_n aX0_become_50 rfl ?_
        refine e_aload_n aX0_become_51 rfl ?_
        refine e_getI aX0_become_52 fX0_37 rfl (fx_is FZ (bk1 b hb)) ?_
        refine e_putI aX0_become_55 fX0_37 rfl (fx_is FZ (bk1 a ha)) (Or.inl rfl) ?_
        refine e_hp (h2 := bm2 h a b n A) rfl ?_
        have FZ : Fx (bm2 h a b n A) := FZ
        refine e_aload_n aX0_become_58 rfl ?_
        refine e_getRF aX0_become_59 fX0_21 rfl (fx_is FZ (bk1 b hb)) (fx_r FZ (bk10 b hb)) ?_
        refine e_iconst (v := 0) aX0_become_62 (by decide) ?_
        refine e_aload_n aX0_become_63 rfl ?_
        refine e_getRF aX0_become_64 fX0_21 rfl (fx_is FZ (bk1 a ha)) (fx_r FZ (bk10 a ha)) ?_
        refine e_iconst (v := 0) aX0_become_67 (by decide) ?_
        refine e_iconst (v := 3) aX0_become_68 (by decide) ?_
        refine e_copyI aX0_become_69 kX0_31 w_acpN w_acpS w_acpI (fx_is FZ (bk8 b hb)) (fx_is FZ (bk8 a ha)) (by decide) (by decide) (by decide) (by rw [fx_n FZ (bk9 b hb)]; decide) (by rw [fx_n FZ (bk9 a ha)]; decide) (Nat.le_of_ble_eq_true rfl) (Nat.le_of_ble_eq_true rfl) ?_
        refine e_hp (h2 := bm3 h a b n A) rfl ?_
        have FZ : Fx (bm3 h a b n A) := FZ
        refine e_aload_n aX0_become_72 rfl ?_
        refine e_aload_n aX0_become_73 rfl ?_
        refine e_getI aX0_become_74 fX0_24 rfl (fx_is FZ (bk1 b hb)) ?_
        refine e_putI aX0_become_77 fX0_24 rfl (fx_is FZ (bk1 a ha)) (Or.inl rfl) ?_
        refine e_return aX0_become_80 rfl (Nat.le_refl _) (Nat.le_refl _) ?_
        exact ⟨rfl, rfl⟩
      · -- 15: not taken
        exact absurd (nI_le (by omega) (by omega)) c15
    | succ m ih =>
      intro k hk
      have FZ : Fx (rcp (wI h a 1 (nI n)) (a + 1) A k) := rcp_F (h := wI h a 1 (nI n)) F (bk11 a ha) k
      refine e_iload_n aX0_become_10 rfl ?_
      refine e_aload_n aX0_become_11 rfl ?_
      refine e_getIF aX0_become_12 fX0_28 rfl (fx_is FZ (bk1 a ha)) (show hI (rcp (wI h a 1 (nI n)) (a + 1) A k) a 1 = nI n by rw [(rcp_I k).1]; exact wI_s) ?_
      refine e_icmp_ge aX0_become_15 (fun c15 => ?_) (fun c15 => ?_)
      · -- 15: taken
        exact absurd c15 (nI_ge (by omega) (by omega))
      · -- 15: not taken
        refine e_aload_n aX0_become_18 rfl ?_
        refine e_getRF aX0_become_19 fX0_11 rfl (fx_is FZ (bk1 a ha)) (fx_r FZ (bk4 a ha)) ?_
        refine e_iload_n aX0_become_22 rfl ?_
        refine e_aload_n aX0_become_23 rfl ?_
        refine e_getRF aX0_become_24 fX0_11 rfl (fx_is FZ (bk1 b hb)) (fx_r FZ (bk4 b hb)) ?_
        refine e_iload_n aX0_become_27 rfl ?_
        refine e_aaloadF (t := 17) aX0_become_28 (fx_is FZ (bk2 b hb)) (by decide) (by decide) (fx_n FZ (bk3 b hb)) (vin (N := 12) (by omega)) (show hR (rcp (wI h a 1 (nI n)) (a + 1) A k) (b + 1) (nI k).toNatClampNeg = some (A k) by rw [cl (by omega), rcp_o (by omega)]; exact (hB.2.2 k (by omega)).1) ?_
        have hkd := (hB.2.2 k (by omega)).2
        refine e_aastoreF (t := 17) aX0_become_29 (fx_is FZ (bk2 a ha)) (by decide) (by decide) (show Is (rcp (wI h a 1 (nI n)) (a + 1) A k) (A k) 2 from ⟨hkd.2.1.1, by rw [(rcp_I k).2.2.2.2]; exact hkd.2.1.2.1, by rw [(rcp_I k).2.2.1]; exact hkd.2.1.2.2⟩) (fx_n FZ (bk3 a ha)) (vin (N := 12) (by omega)) ?_
        rw [cl (by omega)]
        refine e_iinc aX0_become_30 rfl rfl (Nat.le_of_ble_eq_true rfl) ?_
        refine e_goto aX0_become_33 ?_
        refine e_ls (ls' := [(0, some (vR (some a))), (1, some (vR (some b))), (2, some (vI (nI (k + 1))))]) ⟨rfl, rfl, congrArg (fun x => some (vI x)) (nI_1 k), trivial⟩ ?_
        exact ih (k + 1) (by omega)
  refine e_aload_n aX0_become_0 rfl ?_
  refine e_aload_n aX0_become_1 rfl ?_
  refine e_getIF aX0_become_2 fX0_28 rfl (fx_is F (bk1 b hb)) hB.1 ?_
  refine e_putI aX0_become_5 fX0_28 rfl (fx_is F (bk1 a ha)) (Or.inl rfl) ?_
  refine e_iconst (v := 0) aX0_become_8 (by decide) ?_
  refine e_istore_n aX0_become_9 (Nat.le_of_ble_eq_true rfl) ?_
  refine e_ls (ls' := [(0, some (vR (some a))), (1, some (vR (some b))), (2, some (vI (nI 0)))]) ⟨rfl, rfl, rfl, trivial⟩ ?_
  exact loop n 0 (by omega)
end
section
/-! contracts: image, back, feed (written by wip/p45/g32.py) -/
theorem bmH_F {h : HP} (F : Fx h) {a b n : Nat} {A : Nat → Nat} (ha : a ∈ bkL) : Fx (bmH h a b n A) := rcp_F (h := wI h a 1 (nI n)) F (bk11 a ha) n
theorem bmH_I {h : HP} {a b n x : Nat} {A : Nat → Nat} (h1 : x ≠ a) (h2 : x ≠ a + 2) (h3 : x ≠ a + 3) : hI (bmH h a b n A) x = hI h x := by
  have e1 : hI (bm1 h a b n A) x = hI h x := (cpI_o h2).trans ((congrFun (rcp_I (h := wI h a 1 (nI n)) (a := a + 1) (A := A) n).1 x).trans (funext fun j => wI_a h1))
  have e2 : hI (bm2 h a b n A) x = hI h x := (funext fun j => wI_a h1).trans e1
  have e3 : hI (bm3 h a b n A) x = hI h x := (cpI_o h3).trans e2
  exact (funext fun j => wI_a h1).trans e3
theorem bm1_a {h : HP} {a b n : Nat} {A : Nat → Nat} : hI (bm1 h a b n A) a 1 = nI n := (congrFun (cpI_o (by omega)) 1).trans ((congrFun (congrFun (rcp_I (h := wI h a 1 (nI n)) (a := a + 1) (A := A) n).1 a) 1).trans wI_s)
theorem bmH_1 {h : HP} {a b n : Nat} {A : Nat → Nat} : hI (bmH h a b n A) a 1 = nI n := by
  refine (wI_i (by decide)).trans ?_
  refine (congrFun (cpI_o (by omega)) 1).trans ?_
  refine (wI_i (by decide)).trans ?_
  exact bm1_a
theorem bm1_o {h : HP} {a b n x : Nat} {A : Nat → Nat} (h1 : x ≠ a) (h2 : x ≠ a + 2) : hI (bm1 h a b n A) x = hI h x := (cpI_o h2).trans ((congrFun (rcp_I (h := wI h a 1 (nI n)) (a := a + 1) (A := A) n).1 x).trans (funext fun j => wI_a h1))
theorem bmH_3 {h : HP} {a b n : Nat} {A : Nat → Nat} (h1 : b ≠ a) (h2 : b ≠ a + 2) : hI (bmH h a b n A) a 3 = hI h b 3 := by
  refine (wI_i (by decide)).trans ?_
  refine (congrFun (cpI_o (by omega)) 3).trans ?_
  refine wI_s.trans ?_
  exact congrFun (bm1_o h1 h2) 3
theorem bmH_5 {h : HP} {a b n : Nat} {A : Nat → Nat} (h1 : b ≠ a) (h2 : b ≠ a + 2) (h3 : b ≠ a + 3) : hI (bmH h a b n A) a 5 = hI h b 5 := by
  refine wI_s.trans ?_
  refine (congrFun (cpI_o h3) 5).trans ?_
  refine (wI_a h1).trans ?_
  exact congrFun (bm1_o h1 h2) 5
theorem bmH_o {h : HP} {a b n : Nat} {A : Nat → Nat} (h1 : b + 2 ≠ a) {j : Nat} (hj : j < 4) : hI (bmH h a b n A) (a + 2) j = hI h (b + 2) j := by
  refine (wI_a (by omega)).trans ?_
  refine (congrFun (cpI_o (by omega)) j).trans ?_
  refine (wI_a (by omega)).trans ?_
  refine (cpI_s hj).trans ?_
  exact (congrFun (congrFun (rcp_I (h := wI h a 1 (nI n)) (a := a + 1) (A := A) n).1 (b + 2)) j).trans (wI_a h1)
theorem bmH_w {h : HP} {a b n : Nat} {A : Nat → Nat} (h1 : b + 3 ≠ a) (h2 : b + 3 ≠ a + 2) {j : Nat} (hj : j < 3) : hI (bmH h a b n A) (a + 3) j = hI h (b + 3) j := by
  refine (wI_a (by omega)).trans ?_
  refine (cpI_s hj).trans ?_
  refine (wI_a h1).trans ?_
  exact congrFun (bm1_o h1 h2) j
theorem bmH_R {h : HP} {a b n x : Nat} {A : Nat → Nat} (h1 : x ≠ a + 1) : hR (bmH h a b n A) x = hR h x := rcp_o h1 n
theorem bmH_d {h : HP} {a b n j : Nat} {A : Nat → Nat} (hj : j < n) : hR (bmH h a b n A) (a + 1) j = some (A j) := rcp_s n j hj
theorem bmH_r {h : HP} {a b n : Nat} {A : Nat → Nat} : hL (bmH h a b n A) = hL h ∧ hT (bmH h a b n A) = hT h ∧ hN (bmH h a b n A) = hN h ∧ hZ (bmH h a b n A) = hZ h := (rcp_I (h := wI h a 1 (nI n)) (a := a + 1) (A := A) n).2
theorem bmH_U {h : HP} {a b n : Nat} {A : Nat → Nat} (ha : a + 3 < 116) : Up h (bmH h a b n A) := by
  have r := bmH_r (h := h) (a := a) (b := b) (n := n) (A := A)
  refine ⟨by rw [r.2.2.2]; exact Nat.le_refl _, fun x hx _ => ⟨fun i => ⟨congrFun (bmH_I (by omega) (by omega) (by omega)) i, by rw [r.1], congrFun (bmH_R (by omega)) i⟩, by rw [r.2.1], by rw [r.2.2.1]⟩⟩
theorem bmH_B {h : HP} {a b n : Nat} {A : Nat → Nat} {D : Nat → DD} (ha : a + 3 < 116) (hB : BkDg h b n A D) : BkDg (bmH h a b n A) a n A D := ⟨bmH_1, hB.2.1, fun k hk => ⟨bmH_d hk, (hB.2.2 k hk).2.up (bmH_U ha)⟩⟩
theorem bmH_C {h : HP} {a b n f : Nat} {A o : Nat → Nat} (h1 : b ≠ a) (h2 : b ≠ a + 2) (h3 : b + 2 ≠ a) (hB : BkFg h b f o) : BkFg (bmH h a b n A) a f o := ⟨(bmH_3 h1 h2).trans hB.1, hB.2.1, fun y hy => (bmH_o h3 (by have := hB.2.1; omega)).trans (hB.2.2.1 y hy), hB.2.2.2⟩
theorem zX8_image (X : EX) {h : HP} (F : Fx h) {g n : Nat} {A : Nat → Nat} {D : Nat → DD} (hg : hI h 32 2 = nI g) (hg6 : g ≤ 6) (b : BkDg h 33 n A D) : Ct X mX8_image 2 0 0 [vR (some 32)] h (if 6 ≤ g then RF h 1 else Rt (vI (nI (g + 1))) (wI (bmH h (77 + 4 * g) 33 n A) 32 2 (nI (g + 1)))) := by
  refine ct_of rfl (Nat.le_of_ble_eq_true rfl) ?_
  refine e_aload_n aX8_image_0 rfl ?_
  refine e_getIF aX8_image_1 fX8_254 rfl (fx_is F rfl) hg ?_
  refine e_bipush (v := 6) aX8_image_4 (by decide) ?_
  refine e_icmp_lt aX8_image_6 (fun c6 => ?_) (fun c6 => ?_)
  · -- 6: taken
    have q6 : ¬ 6 ≤ g := Nat.not_le.mpr ((nI_ltI (a := g) (b := 6) (by omega) (by decide)).mp c6)
    refine e_aload_n aX8_image_15 rfl ?_
    refine e_getRF aX8_image_16 fX8_16 rfl (fx_is F rfl) (fx_r (b := 37) F rfl) ?_
    refine e_aload_n aX8_image_19 rfl ?_
    refine e_getIF aX8_image_20 fX8_254 rfl (fx_is F rfl) hg ?_
    refine e_aaloadF (t := 16) aX8_image_23 (fx_is F rfl) (by decide) (by decide) (fx_n (n := 6) F rfl) (vin (N := 6) (by omega)) (show hR h 37 (nI g).toNatClampNeg = some (77 + 4 * g) by rw [cl (by omega)]; exact fx_r F (bk14 g (by omega))) ?_
    refine e_aload_n aX8_image_24 rfl ?_
    refine e_getRF aX8_image_25 fX8_10 rfl (fx_is F rfl) (fx_r (b := 33) F rfl) ?_
    refine e_invvV aX8_image_28 kX8_257 (zX0_become X F (bk13 g (by omega)) (by decide) (by omega) b) rfl rfl (fx_is F (bk1 _ (bk13 g (by omega)))) (Nat.le_of_ble_eq_true rfl) (Nat.le_of_ble_eq_true rfl) (Nat.le_refl _) (Nat.le_refl _) (Nat.le_of_ble_eq_true rfl) ?_
    have F : Fx (bmH h (77 + 4 * g) 33 n A) := bmH_F F (bk13 g (by omega))
    refine e_aload_n aX8_image_31 rfl ?_
    refine e_dup aX8_image_32 rfl ?_
    refine e_getIF aX8_image_33 fX8_254 rfl (fx_is F rfl) ((congrFun (bmH_I (by omega) (by omega) (by omega)) 2).trans hg) ?_
    refine e_iconst (v := 1) aX8_image_36 (by decide) ?_
    refine e_iadd aX8_image_37 ?_
    refine e_top (nI_1 g) ?_
    refine e_putI aX8_image_38 fX8_254 rfl (fx_is F rfl) (Or.inl rfl) ?_
    refine e_aload_n aX8_image_41 rfl ?_
    refine e_getIF aX8_image_42 fX8_254 rfl (fx_is F rfl) wI_s ?_
    refine e_ireturn aX8_image_45 rfl (Nat.le_refl _) (Nat.le_refl _) ?_
    rw [if_neg q6]
    exact ⟨rfl, rfl⟩
  · -- 6: not taken
    have q6 : 6 ≤ g := Nat.not_lt.mp ((not_congr (nI_ltI (a := g) (b := 6) (by omega) (by decide))).mp c6)
    refine e_aload_n aX8_image_9 rfl ?_
    refine e_iconst (v := 1) aX8_image_10 (by decide) ?_
    refine e_invvT aX8_image_11 kX8_62 (zfin X (k := 1) F (by decide)) rfl rfl (fx_is F rfl) (Nat.le_of_ble_eq_true rfl) (Nat.le_of_ble_eq_true rfl) (Nat.le_refl _) (Nat.le_refl _) (Nat.le_of_ble_eq_true rfl) ?_
    refine e_ireturn aX8_image_14 rfl (Nat.le_refl _) (Nat.le_refl _) ?_
    rw [if_pos q6]
    exact ⟨rfl, rfl⟩
theorem zX8_back (X : EX) {h : HP} (F : Fx h) {g n f : Nat} {A o : Nat → Nat} {D : Nat → DD} (hg : hI h 32 2 = nI g) (hg6 : g ≤ 6) (b : BkDg h (77 + 4 * (g - 1)) n A D) (bf : BkFg h (77 + 4 * (g - 1)) f o) : Ct X mX8_back 4 0 0 [vR (some 32)] h (if g = 0 then RF h 3 else fun v h' => v = some (vI (nI n)) ∧ setH (bmH (wI h 32 2 (nI (g - 1))) 33 (77 + 4 * (g - 1)) n A) f n o D h') := by
  refine ct_of rfl (Nat.le_of_ble_eq_true rfl) ?_
  refine e_aload_n aX8_back_0 rfl ?_
  refine e_getIF aX8_back_1 fX8_254 rfl (fx_is F rfl) hg ?_
  refine e_if_gt aX8_back_4 (fun c4 => ?_) (fun c4 => ?_)
  · -- 4: taken
    have q4 : ¬ g = 0 := fun z => by subst z; exact absurd c4 (by decide)
    refine e_aload_n aX8_back_13 rfl ?_
    refine e_dup aX8_back_14 rfl ?_
    refine e_getIF aX8_back_15 fX8_254 rfl (fx_is F rfl) hg ?_
    refine e_iconst (v := 1) aX8_back_18 (by decide) ?_
    refine e_isub aX8_back_19 ?_
    refine e_top (nI_pred9 (by omega)) ?_
    refine e_putI aX8_back_20 fX8_254 rfl (fx_is F rfl) (Or.inl rfl) ?_
    refine e_aload_n aX8_back_23 rfl ?_
    refine e_getRF aX8_back_24 fX8_10 rfl (fx_is F rfl) (fx_r (b := 33) F rfl) ?_
    refine e_aload_n aX8_back_27 rfl ?_
    refine e_getRF aX8_back_28 fX8_16 rfl (fx_is F rfl) (fx_r (b := 37) F rfl) ?_
    refine e_aload_n aX8_back_31 rfl ?_
    refine e_getIF aX8_back_32 fX8_254 rfl (fx_is F rfl) wI_s ?_
    refine e_aaloadF (t := 16) aX8_back_35 (fx_is F rfl) (by decide) (by decide) (fx_n (n := 6) F rfl) (vin (N := 6) (by omega)) (show hR (wI h 32 2 (nI (g - 1))) 37 (nI (g - 1)).toNatClampNeg = some (77 + 4 * (g - 1)) by rw [cl (by omega)]; exact fx_r F (bk14 (g - 1) (by omega))) ?_
    have hb : BkDg (wI h 32 2 (nI (g - 1))) (77 + 4 * (g - 1)) n A D := ⟨(wI_a (by omega)).trans b.1, b.2.1, fun k q => ⟨(b.2.2 k q).1, (b.2.2 k q).2.up (Up.wI (by decide))⟩⟩
    have hc : BkFg (wI h 32 2 (nI (g - 1))) (77 + 4 * (g - 1)) f o := ⟨(wI_a (by omega)).trans bf.1, bf.2.1, fun y q => (wI_a (by omega)).trans (bf.2.2.1 y q), bf.2.2.2⟩
    refine e_invvV aX8_back_36 kX8_257 (zX0_become X (h := (wI h 32 2 (nI (g - 1)))) F (by decide) (bk13 (g - 1) (by omega)) (by omega) hb) rfl rfl (fx_is F rfl) (Nat.le_of_ble_eq_true rfl) (Nat.le_of_ble_eq_true rfl) (Nat.le_refl _) (Nat.le_refl _) (Nat.le_of_ble_eq_true rfl) ?_
    have F : Fx (bmH (wI h 32 2 (nI (g - 1))) 33 (77 + 4 * (g - 1)) n A) := bmH_F (h := (wI h 32 2 (nI (g - 1)))) F (by decide)
    refine e_aload_n aX8_back_39 rfl ?_
    have hbD : BkDg (bmH (wI h 32 2 (nI (g - 1))) 33 (77 + 4 * (g - 1)) n A) 33 n A D := bmH_B (by decide) hb
    have hbF : BkFg (bmH (wI h 32 2 (nI (g - 1))) 33 (77 + 4 * (g - 1)) n A) 33 f o := bmH_C (by omega) (by omega) (by omega) hc
    refine e_invv aX8_back_40 kX8_125 (zX8_settleAll X F hbF hbD) rfl rfl (fx_is F rfl) (Nat.le_of_ble_eq_true rfl) (Nat.le_of_ble_eq_true rfl) (Nat.le_refl _) (Nat.le_refl _) (Nat.le_of_ble_eq_true rfl) ?_
    rintro v h2 ⟨rfl, r, rfl, hr⟩
    have F := F
    refine e_aload_n aX8_back_43 rfl ?_
    refine e_getRF aX8_back_44 fX8_10 rfl (fx_is F rfl) (fx_r (b := 33) F rfl) ?_
    refine e_getIF aX8_back_47 fX8_101 rfl (fx_is F rfl) ((rwR_I (by decide)).trans bmH_1) ?_
    refine e_ireturn aX8_back_50 rfl (Nat.le_refl _) (Nat.le_refl _) ?_
    rw [if_neg q4]
    exact ⟨rfl, r, rfl, hr⟩
  · -- 4: not taken
    have q4 : g = 0 := by
      rcases Nat.eq_zero_or_pos g with z | z
      · exact z
      · exact absurd (nI_lt (a := 0) z (by omega)) c4
    refine e_aload_n aX8_back_7 rfl ?_
    refine e_iconst (v := 3) aX8_back_8 (by decide) ?_
    refine e_invvT aX8_back_9 kX8_62 (zfin X (k := 3) F (by decide)) rfl rfl (fx_is F rfl) (Nat.le_of_ble_eq_true rfl) (Nat.le_of_ble_eq_true rfl) (Nat.le_refl _) (Nat.le_refl _) (Nat.le_of_ble_eq_true rfl) ?_
    refine e_ireturn aX8_back_12 rfl (Nat.le_refl _) (Nat.le_refl _) ?_
    rw [if_pos q4]
    exact ⟨rfl, rfl⟩
/-- the bytes of a number, from the last -/
def byI (x : Int32) (i : Nat) : Int32 := (x.toUInt32 >>> ((8 * nI i).toUInt32 &&& Int32.toUInt32 31)).toInt32.toInt8.toInt32
def fdH (h : HP) (l : Nat) (x : Int32) (n : Nat) : Nat → HP
  | 0 => h
  | k + 1 => wI (wI (fdH h l x n k) 42 (l + k) (vp_nar .byte (byI x (n - 1 - k)))) 41 1 (nI (l + k + 1))
theorem fdH_F {h : HP} (F : Fx h) {l : Nat} {x : Int32} {n : Nat} : ∀ k, Fx (fdH h l x n k) := by
  intro k
  induction k with
  | zero => exact F
  | succ k ih => exact ih
theorem fdH_1 {h : HP} {l : Nat} {x : Int32} {n : Nat} (hl : hI h 41 1 = nI l) : ∀ k, hI (fdH h l x n k) 41 1 = nI (l + k) := by
  intro k
  cases k with
  | zero => exact hl
  | succ k => exact wI_s
theorem nI_m1 (m : Nat) : nI m + Int32.ofInt (-1) = nI m - 1 := by rw [Int32.sub_eq_add_neg]; rfl
end
section
/-! contracts: Rounds (written by wip/p45/g33.py) -/
/-- all that lay in h lies in h' -/
def Gb (h h' : HP) : Prop := hZ h ≤ hZ h' ∧ ∀ a, a < hZ h → (∀ i, hI h' a i = hI h a i ∧ hL h' a i = hL h a i ∧ hR h' a i = hR h a i) ∧ hT h' a = hT h a ∧ hN h' a = hN h a
theorem Gb.rf (h : HP) : Gb h h := ⟨Nat.le_refl _, fun _ _ => ⟨fun _ => ⟨rfl, rfl, rfl⟩, rfl, rfl⟩⟩
theorem Gb.wI {h0 h : HP} (g : Gb h0 h) {b i : Nat} {v : Int32} (hb : hZ h0 ≤ b) : Gb h0 (wI h b i v) := ⟨g.1, fun a ha => ⟨fun j => ⟨(up2_a (by omega)).trans ((g.2 a ha).1 j).1, ((g.2 a ha).1 j).2⟩, (g.2 a ha).2⟩⟩
theorem Gb.wL {h0 h : HP} (g : Gb h0 h) {b i : Nat} {v : Int64} (hb : hZ h0 ≤ b) : Gb h0 (wL h b i v) := ⟨g.1, fun a ha => ⟨fun j => ⟨((g.2 a ha).1 j).1, (up2_a (by omega)).trans ((g.2 a ha).1 j).2.1, ((g.2 a ha).1 j).2.2⟩, (g.2 a ha).2⟩⟩
theorem Gb.wR {h0 h : HP} (g : Gb h0 h) {b i : Nat} {v : Option Nat} (hb : hZ h0 ≤ b) : Gb h0 (wR h b i v) := ⟨g.1, fun a ha => ⟨fun j => ⟨((g.2 a ha).1 j).1, ((g.2 a ha).1 j).2.1, (up2_a (by omega)).trans ((g.2 a ha).1 j).2.2⟩, (g.2 a ha).2⟩⟩
theorem Gb.nw {h0 h : HP} (g : Gb h0 h) {t n : Nat} : Gb h0 (nw h t n) := by
  have g1 := g.1
  refine ⟨Nat.le_succ_of_le g1, fun a ha => ⟨fun j => ⟨(if_neg (by omega)).trans ((g.2 a ha).1 j).1, (if_neg (by omega)).trans ((g.2 a ha).1 j).2.1, (if_neg (by omega)).trans ((g.2 a ha).1 j).2.2⟩, (if_neg (by omega)).trans (g.2 a ha).2.1, (if_neg (by omega)).trans (g.2 a ha).2.2⟩⟩
theorem Gb.tr {h1 h2 h3 : HP} (a : Gb h1 h2) (b : Gb h2 h3) : Gb h1 h3 := ⟨Nat.le_trans a.1 b.1, fun x hx => by
  have z1 := a.2 x hx
  have z2 := b.2 x (Nat.lt_of_lt_of_le hx a.1)
  exact ⟨fun i => ⟨(z2.1 i).1.trans (z1.1 i).1, (z2.1 i).2.1.trans (z1.1 i).2.1, (z2.1 i).2.2.trans (z1.1 i).2.2⟩, z2.2.1.trans z1.2.1, z2.2.2.trans z1.2.2⟩⟩
theorem Gb.F {h h' : HP} (g : Gb h h') (F : Fx h) : Fx h' := by
  have h1 := F.1
  refine ⟨Nat.le_trans F.1 g.1, fun a ha hb => ?_, fun a i hr => ?_⟩
  · have z := g.2 a (Nat.lt_of_lt_of_le hb h1)
    exact ⟨z.2.1.trans (F.2.1 a ha hb).1, z.2.2.trans (F.2.1 a ha hb).2⟩
  · have ha : a < NF := by
      rcases Nat.lt_or_ge a NF with q | q
      · exact q
      · exact absurd (by
          unfold R0
          rw [List.getD_eq_getElem?_getD (l := R0l), List.getElem?_eq_none (by have e : R0l.length = NF - 32 := rfl; omega)]
          rfl) hr
    exact ((g.2 a (Nat.lt_of_lt_of_le ha h1)).1 i).2.2.trans (F.2.2 a i hr)
theorem Gb.up {h h' : HP} (g : Gb h h') : Up h h' := ⟨g.1, fun a _ ha => g.2 a ha⟩
theorem Gb.is {h h' : HP} (g : Gb h h') {a t : Nat} (k : Is h a t) : Is h' a t := ⟨k.1, Nat.lt_of_lt_of_le k.2.1 g.1, (g.2 a k.2.1).2.1.trans k.2.2⟩
theorem Gb.bd {h h' : HP} (g : Gb h h') (F : Fx h) {n : Nat} {A : Nat → Nat} {D : Nat → DD} (b : BkD h n A D) : BkD h' n A D := by
  have h1 : 116 ≤ hZ h := F.1
  exact b.up g.up ((g.2 33 (by omega)).1 1).1 (fun i => ((g.2 34 (by omega)).1 i).2.2)
theorem Gb.bf {h h' : HP} (g : Gb h h') (F : Fx h) {f : Nat} {o : Nat → Nat} (b : BkF h f o) : BkF h' f o := by
  have h1 : 116 ≤ hZ h := F.1
  exact b.up (fun i => ((g.2 33 (by omega)).1 i).1) (fun i => ((g.2 35 (by omega)).1 i).1)
theorem is_nw {h : HP} {a t u n : Nat} (k : Is h a t) : Is (nw h u n) a t := ⟨k.1, Nat.lt_succ_of_lt k.2.1, (if_neg (by have := k.2.1; omega)).trans k.2.2⟩
theorem is_ns {h : HP} {t n : Nat} (z : 32 ≤ hZ h) : Is (nw h t n) (hZ h) t := ⟨z, Nat.lt_succ_self _, if_pos rfl⟩
/-- who has each PICK, and which DEALs have gone over -/
abbrev RS : Type := (Nat → Nat) × Int32 × Int32
def RdC (h : HP) (r s : Nat) (t : RS) : Prop := 116 ≤ r ∧ Is h r 5 ∧ hI h r 0 = nI s ∧ hR h r 1 = some (r + 1) ∧ Is h (r + 1) 13 ∧ hN h (r + 1) = 12 ∧ (∀ p, p < 12 → hI h (r + 1) p = nI (t.1 p) ∧ t.1 p < 3) ∧ hI h r 2 = t.2.1 ∧ hI h r 3 = t.2.2
def updN (W : Nat → Nat) (p c : Nat) : Nat → Nat := fun x => if x = p then c else W x
theorem RdC.w1 {h : HP} {r s p k : Nat} {t : RS} (z : RdC h r s t) (hk : k < 3) : RdC (wI h (r + 1) p (nI k)) r s (updN t.1 p k, t.2) := by
  obtain ⟨z1, z2, z3, z4, z5, z6, z7, z8, z9⟩ := z
  refine ⟨z1, z2, (up2_a (by omega)).trans z3, z4, z5, z6, fun x hx => ?_, (up2_a (by omega)).trans z8, (up2_a (by omega)).trans z9⟩
  by_cases q : x = p
  · subst q
    exact ⟨up2_s.trans (by show nI k = nI (if x = x then k else _); rw [if_pos rfl]), by show (if x = x then k else _) < 3; rw [if_pos rfl]; exact hk⟩
  · exact ⟨(up2_i q).trans ((z7 x hx).1.trans (by show nI _ = nI (if x = p then k else _); rw [if_neg q])), by show (if x = p then k else _) < 3; rw [if_neg q]; exact (z7 x hx).2⟩
theorem RdC.w2 {h : HP} {r s : Nat} {t : RS} {g : Int32} (z : RdC h r s t) : RdC (wI h r 2 g) r s (t.1, g, t.2.2) := by
  obtain ⟨z1, z2, z3, z4, z5, z6, z7, z8, z9⟩ := z
  exact ⟨z1, z2, (up2_i (by decide)).trans z3, z4, z5, z6, fun x hx => ⟨(up2_a (by omega)).trans (z7 x hx).1, (z7 x hx).2⟩, up2_s, (up2_i (by decide)).trans z9⟩
theorem RdC.w3 {h : HP} {r s : Nat} {t : RS} {g : Int32} (z : RdC h r s t) : RdC (wI h r 3 g) r s (t.1, t.2.1, g) := by
  obtain ⟨z1, z2, z3, z4, z5, z6, z7, z8, z9⟩ := z
  exact ⟨z1, z2, (up2_i (by decide)).trans z3, z4, z5, z6, fun x hx => ⟨(up2_a (by omega)).trans (z7 x hx).1, (z7 x hx).2⟩, (up2_i (by decide)).trans z8, up2_s⟩
def mvA (d : DD) (s k : Nat) (t : RS) : Option RS := match gv d s with
  | none => none
  | some p => if t.1 p = dF d then (if (t.2.1 >>> (nI k &&& 31)) &&& 1 = 0 then some (updN t.1 p (dT d), t.2.1 ||| ((1 : Int32) <<< (nI k &&& 31)), t.2.2) else none) else none
def mvB (d : DD) (s k : Nat) (t : RS) : Option RS := match gb d s with
  | none => none
  | some p => if t.1 p = dT d then (if (t.2.2 >>> (nI k &&& 31)) &&& 1 = 0 then some (updN t.1 p (dF d), t.2.1, t.2.2 ||| ((1 : Int32) <<< (nI k &&& 31))) else none) else none
/-- one DEAL goes over -/
def mvR (d : DD) (s k : Nat) (t : RS) : RS × Bool := ((mvB d s k ((mvA d s k t).getD t)).getD ((mvA d s k t).getD t), (mvA d s k t).isSome || (mvB d s k ((mvA d s k t).getD t)).isSome)
theorem zX4_move (X : EX) {h0 h : HP} (G1 : Gb h0 h) {a s k : Nat} {d : DD} (kd : DealC h0 a d) (hs : s < 1296) {t : RS} (R1 : RdC h (hZ h0) s t) : Ct X mX4_move 3 0 0 [vR (some (hZ h0)), vR (some a), vI (nI k)] h (fun v h' => v = some (vI (b2 ((mvR d s k t).2 = true))) ∧ Gb h0 h' ∧ RdC h' (hZ h0) s (mvR d s k t).1) := by
  refine ct_of rfl (Nat.le_of_ble_eq_true rfl) ?_
  have kd1 := kd.up G1.up
  have wf := kd.2.2.1
  have hdF := wf.2.1
  have hdT := wf.2.2.1
  have hgv : ∀ p, gv d s = some p → p < 1073741824 := fun p q => by have := (gv_ok wf q).1; omega
  have hgb : ∀ p, gb d s = some p → p < 1073741824 := fun p q => by have := (gb_ok wf q).1; omega
  have tail : ∀ (h1 : HP) (t1 : RS) (w1 : Bool), Gb h0 h1 → RdC h1 (hZ h0) s t1 → Ev X mX4_move 3 0 0 (fun v h' => v = some (vI (b2 ((w1 || (mvB d s k t1).isSome) = true))) ∧ Gb h0 h' ∧ RdC h' (hZ h0) s ((mvB d s k t1).getD t1)) 0 0 67 [(0, some (vR (some (hZ h0)))), (1, some (vR (some a))), (2, some (vI (nI k))), (3, some (vI (b2 (w1 = true))))] [] h1 := by
    intro h1 t1 w1 G1 R1
    have kd1 := kd.up G1.up
    refine e_aload_n aX4_move_67 rfl ?_
    refine e_aload_n aX4_move_68 rfl ?_
    refine e_getIF aX4_move_69 fX4_15 rfl R1.2.1 R1.2.2.1 ?_
    refine e_invvT aX4_move_72 kX4_34 (zX1_getsBack X kd1 hs) rfl rfl kd1.2.1 (Nat.le_of_ble_eq_true rfl) (Nat.le_of_ble_eq_true rfl) (Nat.le_refl _) (Nat.le_refl _) (Nat.le_of_ble_eq_true rfl) ?_
    refine e_istore aX4_move_75 (Nat.le_of_ble_eq_true rfl) ?_
    refine e_iload aX4_move_77 rfl ?_
    refine e_if_lt aX4_move_79 (fun c79 => ?_) (fun c79 => ?_)
    · -- 79: taken
      have q79 := (oI_neg hgb).mp c79
      refine e_iload_n aX4_move_132 rfl ?_
      refine e_zreturn aX4_move_133 rfl (by first | exact b2_b | decide) (Nat.le_refl _) (Nat.le_refl _) ?_
      have e9 : mvB d s k t1 = none := by unfold mvB; rw [q79]
      rw [e9]
      exact ⟨by show _ = some (vI (b2 ((w1 || false) = true))); rw [Bool.or_false], G1, R1⟩
    · -- 79: not taken
      obtain ⟨p, q80⟩ := Option.ne_none_iff_exists'.mp ((not_congr (oI_neg hgb)).mp c79)
      have hp := (gb_ok wf q80).1
      rw [q80, show oI (some p) = nI p from rfl]
      refine e_aload_n aX4_move_82 rfl ?_
      refine e_getRF aX4_move_83 fX4_9 rfl R1.2.1 R1.2.2.2.1 ?_
      refine e_iload aX4_move_86 rfl ?_
      refine e_ialoadF aX4_move_88 R1.2.2.2.2.1 R1.2.2.2.2.2.1 (vin (N := 12) hp) (show hI h1 (hZ h0 + 1) (nI p).toNatClampNeg = nI (t1.1 p) by rw [cl (by omega)]; exact (R1.2.2.2.2.2.2.1 p hp).1) ?_
      refine e_aload_n aX4_move_89 rfl ?_
      refine e_getIF aX4_move_90 fX4_31 rfl kd1.2.1 kd1.2.2.2.2.2.1 ?_
      refine e_icmp_ne aX4_move_93 (fun c93 => ?_) (fun c93 => ?_)
      · -- 93: taken
        have q93 : ¬ t1.1 p = dT d := fun z => c93 (by rw [z])
        refine e_iload_n aX4_move_132 rfl ?_
        refine e_zreturn aX4_move_133 rfl (by first | exact b2_b | decide) (Nat.le_refl _) (Nat.le_refl _) ?_
        have e9 : mvB d s k t1 = none := by unfold mvB; rw [q80]; exact if_neg q93
        rw [e9]
        exact ⟨by show _ = some (vI (b2 ((w1 || false) = true))); rw [Bool.or_false], G1, R1⟩
      · -- 93: not taken
        have q93 : t1.1 p = dT d := (nI_eq (by have := (R1.2.2.2.2.2.2.1 p hp).2; omega) (by omega)).mp c93
        refine e_aload_n aX4_move_96 rfl ?_
        refine e_getIF aX4_move_97 fX4_37 rfl R1.2.1 R1.2.2.2.2.2.2.2.2 ?_
        refine e_iload_n aX4_move_100 rfl ?_
        refine e_ishr aX4_move_101 ?_
        refine e_iconst (v := 1) aX4_move_102 (by decide) ?_
        refine e_iand aX4_move_103 ?_
        refine e_if_ne aX4_move_104 (fun c104 => ?_) (fun c104 => ?_)
        · -- 104: taken
          refine e_iload_n aX4_move_132 rfl ?_
          refine e_zreturn aX4_move_133 rfl (by first | exact b2_b | decide) (Nat.le_refl _) (Nat.le_refl _) ?_
          have e9 : mvB d s k t1 = none := by unfold mvB; rw [q80]; exact (if_pos q93).trans (if_neg c104)
          rw [e9]
          exact ⟨by show _ = some (vI (b2 ((w1 || false) = true))); rw [Bool.or_false], G1, R1⟩
        · -- 104: not taken
          refine e_aload_n aX4_move_107 rfl ?_
          refine e_getRF aX4_move_108 fX4_9 rfl R1.2.1 R1.2.2.2.1 ?_
          refine e_iload aX4_move_111 rfl ?_
          refine e_aload_n aX4_move_113 rfl ?_
          refine e_getIF aX4_move_114 fX4_25 rfl kd1.2.1 kd1.2.2.2.2.1 ?_
          refine e_iastoreF aX4_move_117 R1.2.2.2.2.1 R1.2.2.2.2.2.1 (vin (N := 12) hp) ?_
          rw [cl (by omega)]
          have R2 := R1.w1 (p := p) hdF
          refine e_aload_n aX4_move_118 rfl ?_
          refine e_dup aX4_move_119 rfl ?_
          refine e_getIF aX4_move_120 fX4_37 rfl R2.2.1 R2.2.2.2.2.2.2.2.2 ?_
          refine e_iconst (v := 1) aX4_move_123 (by decide) ?_
          refine e_iload_n aX4_move_124 rfl ?_
          refine e_ishl aX4_move_125 ?_
          refine e_ior aX4_move_126 ?_
          refine e_putI aX4_move_127 fX4_37 rfl R2.2.1 (Or.inl rfl) ?_
          refine e_iconst (v := 1) aX4_move_130 (by decide) ?_
          refine e_istore_n aX4_move_131 (Nat.le_of_ble_eq_true rfl) ?_
          refine e_iload_n aX4_move_132 rfl ?_
          refine e_zreturn aX4_move_133 rfl (by first | exact b2_b | decide) (Nat.le_refl _) (Nat.le_refl _) ?_
          have e9 : mvB d s k t1 = some (updN t1.1 p (dF d), t1.2.1, t1.2.2 ||| ((1 : Int32) <<< (nI k &&& 31))) := by unfold mvB; rw [q80]; exact (if_pos q93).trans (if_pos c104)
          rw [e9]
          exact ⟨by show _ = some (vI (b2 ((w1 || true) = true))); rw [Bool.or_true]; rfl, (G1.wI (by omega)).wI (Nat.le_refl _), (R1.w1 hdF).w3⟩
  refine e_iconst (v := 0) aX4_move_0 (by decide) ?_
  refine e_istore_n aX4_move_1 (Nat.le_of_ble_eq_true rfl) ?_
  refine e_aload_n aX4_move_2 rfl ?_
  refine e_aload_n aX4_move_3 rfl ?_
  refine e_getIF aX4_move_4 fX4_15 rfl R1.2.1 R1.2.2.1 ?_
  refine e_invvT aX4_move_7 kX4_19 (zX1_gives X kd1 hs) rfl rfl kd1.2.1 (Nat.le_of_ble_eq_true rfl) (Nat.le_of_ble_eq_true rfl) (Nat.le_refl _) (Nat.le_refl _) (Nat.le_of_ble_eq_true rfl) ?_
  refine e_istore aX4_move_10 (Nat.le_of_ble_eq_true rfl) ?_
  refine e_iload aX4_move_12 rfl ?_
  refine e_if_lt aX4_move_14 (fun c14 => ?_) (fun c14 => ?_)
  · -- 14: taken
    have q14 := (oI_neg hgv).mp c14
    have e9 : mvA d s k t = none := by unfold mvA; rw [q14]
    refine e_ls (ls' := [(0, some (vR (some (hZ h0)))), (1, some (vR (some a))), (2, some (vI (nI k))), (3, some (vI (b2 (false = true))))]) ⟨rfl, rfl, rfl, rfl, trivial⟩ ?_
    unfold mvR
    rw [e9]
    exact tail h t false G1 R1
  · -- 14: not taken
    obtain ⟨p, q15⟩ := Option.ne_none_iff_exists'.mp ((not_congr (oI_neg hgv)).mp c14)
    have hp := (gv_ok wf q15).1
    rw [q15, show oI (some p) = nI p from rfl]
    refine e_aload_n aX4_move_17 rfl ?_
    refine e_getRF aX4_move_18 fX4_9 rfl R1.2.1 R1.2.2.2.1 ?_
    refine e_iload aX4_move_21 rfl ?_
    refine e_ialoadF aX4_move_23 R1.2.2.2.2.1 R1.2.2.2.2.2.1 (vin (N := 12) hp) (show hI h (hZ h0 + 1) (nI p).toNatClampNeg = nI (t.1 p) by rw [cl (by omega)]; exact (R1.2.2.2.2.2.2.1 p hp).1) ?_
    refine e_aload_n aX4_move_24 rfl ?_
    refine e_getIF aX4_move_25 fX4_25 rfl kd1.2.1 kd1.2.2.2.2.1 ?_
    refine e_icmp_ne aX4_move_28 (fun c28 => ?_) (fun c28 => ?_)
    · -- 28: taken
      have q28 : ¬ t.1 p = dF d := fun z => c28 (by rw [z])
      have e9 : mvA d s k t = none := by unfold mvA; rw [q15]; exact if_neg q28
      refine e_ls (ls' := [(0, some (vR (some (hZ h0)))), (1, some (vR (some a))), (2, some (vI (nI k))), (3, some (vI (b2 (false = true))))]) ⟨rfl, rfl, rfl, rfl, trivial⟩ ?_
      unfold mvR
      rw [e9]
      exact tail h t false G1 R1
    · -- 28: not taken
      have q28 : t.1 p = dF d := (nI_eq (by have := (R1.2.2.2.2.2.2.1 p hp).2; omega) (by omega)).mp c28
      refine e_aload_n aX4_move_31 rfl ?_
      refine e_getIF aX4_move_32 fX4_28 rfl R1.2.1 R1.2.2.2.2.2.2.2.1 ?_
      refine e_iload_n aX4_move_35 rfl ?_
      refine e_ishr aX4_move_36 ?_
      refine e_iconst (v := 1) aX4_move_37 (by decide) ?_
      refine e_iand aX4_move_38 ?_
      refine e_if_ne aX4_move_39 (fun c39 => ?_) (fun c39 => ?_)
      · -- 39: taken
        have e9 : mvA d s k t = none := by unfold mvA; rw [q15]; exact (if_pos q28).trans (if_neg c39)
        refine e_ls (ls' := [(0, some (vR (some (hZ h0)))), (1, some (vR (some a))), (2, some (vI (nI k))), (3, some (vI (b2 (false = true))))]) ⟨rfl, rfl, rfl, rfl, trivial⟩ ?_
        unfold mvR
        rw [e9]
        exact tail h t false G1 R1
      · -- 39: not taken
        refine e_aload_n aX4_move_42 rfl ?_
        refine e_getRF aX4_move_43 fX4_9 rfl R1.2.1 R1.2.2.2.1 ?_
        refine e_iload aX4_move_46 rfl ?_
        refine e_aload_n aX4_move_48 rfl ?_
        refine e_getIF aX4_move_49 fX4_31 rfl kd1.2.1 kd1.2.2.2.2.2.1 ?_
        refine e_iastoreF aX4_move_52 R1.2.2.2.2.1 R1.2.2.2.2.2.1 (vin (N := 12) hp) ?_
        rw [cl (by omega)]
        have R2 := R1.w1 (p := p) hdT
        refine e_aload_n aX4_move_53 rfl ?_
        refine e_dup aX4_move_54 rfl ?_
        refine e_getIF aX4_move_55 fX4_28 rfl R2.2.1 R2.2.2.2.2.2.2.2.1 ?_
        refine e_iconst (v := 1) aX4_move_58 (by decide) ?_
        refine e_iload_n aX4_move_59 rfl ?_
        refine e_ishl aX4_move_60 ?_
        refine e_ior aX4_move_61 ?_
        refine e_putI aX4_move_62 fX4_28 rfl R2.2.1 (Or.inl rfl) ?_
        refine e_iconst (v := 1) aX4_move_65 (by decide) ?_
        refine e_istore_n aX4_move_66 (Nat.le_of_ble_eq_true rfl) ?_
        have e9 : mvA d s k t = some (updN t.1 p (dT d), t.2.1 ||| ((1 : Int32) <<< (nI k &&& 31)), t.2.2) := by unfold mvA; rw [q15]; exact (if_pos q28).trans (if_pos c39)
        refine e_ls (ls' := [(0, some (vR (some (hZ h0)))), (1, some (vR (some a))), (2, some (vI (nI k))), (3, some (vI (b2 (true = true))))]) ⟨rfl, rfl, rfl, rfl, trivial⟩ ?_
        unfold mvR
        rw [e9]
        exact tail _ _ true ((G1.wI (by omega)).wI (Nat.le_refl _)) ((R1.w1 hdT).w2)
end
section
/-! contracts: rounds (written by wip/p45/g34.py) -/
def rd0 : RS := (fun p => p % 3, 0, 0)
def rdB (h : HP) (r s : Nat) : HP := wI (wR (nw h 13 12) r 1 (some (r + 1))) r 0 (nI s)
def rdH (h : HP) (r s : Nat) : Nat → HP
  | 0 => rdB h r s
  | k + 1 => wI (rdH h r s k) (r + 1) k (nI (k % 3))
theorem rdH_T {h : HP} {r s : Nat} : ∀ k, (rdH h r s k).2 = (rdB h r s).2 := by
  intro k
  induction k with
  | zero => rfl
  | succ k ih => exact ih
theorem rdH_a {h : HP} {r s x i : Nat} (q : x ≠ r + 1) : ∀ k, hI (rdH h r s k) x i = hI (rdB h r s) x i := by
  intro k
  induction k with
  | zero => rfl
  | succ k ih => exact (up2_a q).trans ih
theorem rdH_s {h : HP} {r s : Nat} : ∀ k j, j < k → hI (rdH h r s k) (r + 1) j = nI (j % 3) := by
  intro k
  induction k with
  | zero => intro j hj; omega
  | succ k ih =>
    intro j hj
    by_cases q : j = k
    · subst q
      exact up2_s
    · exact (up2_i q).trans (ih j (by omega))
theorem zX4_init (X : EX) {h : HP} {r s : Nat} (hr : 116 ≤ r) (kr : Is h r 5) (hz : hZ h = r + 1) : Ct X mX4_init 1 1 12 [vR (some r), vI (nI s)] h (Rv (rdH h r s 12)) := by
  refine ct_of rfl (Nat.le_of_ble_eq_true rfl) ?_
  have kB : Is (rdB h r s) r 5 := is_nw kr
  have kC : Is (rdB h r s) (r + 1) 13 := by
    have e := is_ns (h := h) (t := 13) (n := 12) (by omega)
    rw [hz] at e
    exact e
  have loop : ∀ (m : Nat) (k : Nat), k + m = 12 → Ev X mX4_init 1 1 12 (Rv (rdH h r s 12)) 1 12 19 [(0, some (vR (some r))), (2, some (vI (nI k)))] [] (rdH h r s k) := by
    intro m
    induction m with
    | zero =>
      intro k hk
      obtain rfl : k = 12 := by omega
      refine e_iload_n aX4_init_19 rfl ?_
      refine e_bipush (v := 12) aX4_init_20 (by decide) ?_
      refine e_icmp_ge aX4_init_22 (fun c22 => ?_) (fun c22 => ?_)
      · -- 22: taken
        refine e_return aX4_init_40 rfl (Nat.le_refl _) (Nat.le_refl _) ?_
        exact ⟨rfl, rfl⟩
      · -- 22: not taken
        exact absurd (nI_le (a := 12) (b := 12) (by decide) (by decide)) c22
    | succ m ih =>
      intro k hk
      refine e_iload_n aX4_init_19 rfl ?_
      refine e_bipush (v := 12) aX4_init_20 (by decide) ?_
      refine e_icmp_ge aX4_init_22 (fun c22 => ?_) (fun c22 => ?_)
      · -- 22: taken
        exact absurd c22 (nI_ge (a := k) (b := 12) (by omega) (by decide))
      · -- 22: not taken
        refine e_aload_n aX4_init_25 rfl ?_
        refine e_getRF aX4_init_26 fX4_9 rfl (show Is (rdH h r s k) r 5 from ⟨kB.1, by rw [hZ, rdH_T]; exact kB.2.1, by rw [hT, rdH_T]; exact kB.2.2⟩) (show hR (rdH h r s k) r 1 = some (r + 1) by rw [hR, rdH_T]; exact up2_s) ?_
        refine e_iload_n aX4_init_29 rfl ?_
        refine e_iload_n aX4_init_30 rfl ?_
        refine e_iconst (v := 3) aX4_init_31 (by decide) ?_
        refine e_irem aX4_init_32 (by decide) ?_
        refine e_top (nI_rem (a := k) (b := 3) (by omega) (by decide) (by decide)) ?_
        refine e_iastoreF aX4_init_33 (show Is (rdH h r s k) (r + 1) 13 from ⟨kC.1, by rw [hZ, rdH_T]; exact kC.2.1, by rw [hT, rdH_T]; exact kC.2.2⟩) (show hN (rdH h r s k) (r + 1) = 12 by rw [hN, rdH_T]; exact if_pos hz.symm) (vin (N := 12) (by omega)) ?_
        rw [cl (by omega)]
        refine e_iinc aX4_init_34 rfl rfl (Nat.le_of_ble_eq_true rfl) ?_
        refine e_goto aX4_init_37 ?_
        refine e_ls (ls' := [(0, some (vR (some r))), (2, some (vI (nI (k + 1))))]) ⟨rfl, congrArg (fun x => some (vI x)) (nI_1 k), trivial⟩ ?_
        exact ih (k + 1) (by omega)
  refine e_aload_n aX4_init_0 rfl ?_
  refine e_objInit aX4_init_1 kX4_3 w_objI w_objC (Nat.le_of_ble_eq_true rfl) (Nat.le_of_ble_eq_true rfl) ?_
  refine e_aload_n aX4_init_4 rfl ?_
  refine e_bipush (v := 12) aX4_init_5 (by decide) ?_
  refine e_newI aX4_init_7 wa_int (by decide) rfl (Nat.le_of_ble_eq_true rfl) (Nat.le_of_ble_eq_true rfl) (Nat.le_of_ble_eq_true rfl) ?_
  refine e_topR (v := some (r + 1)) (by rw [hz]) ?_
  refine e_putR aX4_init_9 fX4_9 rfl (is_nw kr) (Or.inr ⟨rfl, fun r q => by cases q; rfl⟩) ?_
  refine e_aload_n aX4_init_12 rfl ?_
  refine e_iload_n aX4_init_13 rfl ?_
  refine e_putI aX4_init_14 fX4_15 rfl (is_nw kr) (Or.inr ⟨rfl, fun r q => by cases q; rfl⟩) ?_
  refine e_iconst (v := 0) aX4_init_17 (by decide) ?_
  refine e_istore_n aX4_init_18 (Nat.le_of_ble_eq_true rfl) ?_
  refine e_ls (ls' := [(0, some (vR (some r))), (2, some (vI (nI 0)))]) ⟨rfl, rfl, trivial⟩ ?_
  exact loop 12 0 rfl
theorem rdH_R {h : HP} {r s : Nat} (hr : 116 ≤ r) (kr : Is h r 5) (hz : hZ h = r + 1) (i2 : hI h r 2 = 0) (i3 : hI h r 3 = 0) : RdC (rdH h r s 12) r s rd0 := by
  have kB : Is (rdB h r s) r 5 := is_nw kr
  have kC : Is (rdB h r s) (r + 1) 13 := by
    have e := is_ns (h := h) (t := 13) (n := 12) (by omega)
    rw [hz] at e
    exact e
  have e2 : (rdH h r s 12).2 = (rdB h r s).2 := rdH_T 12
  refine ⟨hr, ⟨kB.1, by rw [hZ, e2]; exact kB.2.1, by rw [hT, e2]; exact kB.2.2⟩, (rdH_a (by omega) 12).trans up2_s, by rw [hR, e2]; exact up2_s, ⟨kC.1, by rw [hZ, e2]; exact kC.2.1, by rw [hT, e2]; exact kC.2.2⟩, by rw [hN, e2]; exact if_pos hz.symm, fun p hp => ⟨rdH_s 12 p hp, Nat.mod_lt _ (by decide)⟩, ?_, ?_⟩
  · exact ((rdH_a (by omega) 12).trans (up2_i (by decide))).trans ((if_neg (by omega)).trans i2)
  · exact ((rdH_a (by omega) 12).trans (up2_i (by decide))).trans ((if_neg (by omega)).trans i3)
theorem rdH_G {h0 h : HP} {r s : Nat} (g : Gb h0 h) (hr : hZ h0 ≤ r) : ∀ k, Gb h0 (rdH h r s k) := by
  intro k
  induction k with
  | zero => exact (g.nw.wR hr).wI hr
  | succ k ih => exact ih.wI (by omega)
/-- a sheet tells each DEAL once -/
def tedB (h : HP) (a n i : Nat) (g : Int32) : Bool := decide (¬ lg_cmp (hL h a i) 0 < 0 ∧ lg_cmp (hL h a i) (nI n).toInt64 < 0 ∧ (g >>> ((hL h a i).toInt32 &&& 31)) &&& 1 = 0)
def tedR (h : HP) (a n : Nat) : Nat → Nat → Int32 → Bool
  | _, 0, _ => true
  | i, m + 1, g => if tedB h a n i g = true then tedR h a n (i + 1) m (g ||| ((1 : Int32) <<< ((hL h a i).toInt32 &&& 31))) else false
theorem tedR_s {h : HP} {a n i m : Nat} {g : Int32} : tedR h a n i (m + 1) g = if tedB h a n i g = true then tedR h a n (i + 1) m (g ||| ((1 : Int32) <<< ((hL h a i).toInt32 &&& 31))) else false := rfl
theorem lgx {v : Int64} {n : Nat} (hn : n ≤ 12) (h1 : ¬ lg_cmp v 0 < 0) (h2 : lg_cmp v (nI n).toInt64 < 0) : ∃ k, k < n ∧ v = lN k := by
  rw [nI_l (by omega)] at h2
  unfold lg_cmp at h1 h2
  have a1 : ¬ v < 0 := by
    intro z
    have z1 := Int64.lt_iff_toInt_lt.mp z
    rw [if_neg (fun w => by have := Int64.lt_iff_toInt_lt.mp w; omega), if_neg (fun w => by subst w; exact absurd z1 (by decide))] at h1
    exact h1 (by decide)
  have a2 : v < lN n := by
    by_cases z : v > lN n
    · rw [if_pos z] at h2
      exact absurd h2 (by decide)
    · rw [if_neg z] at h2
      by_cases w : v = lN n
      · rw [if_pos w] at h2
        exact absurd h2 (by decide)
      · have z1 : ¬ (lN n).toInt < v.toInt := fun q => z (Int64.lt_iff_toInt_lt.mpr q)
        have w1 : ¬ v.toInt = (lN n).toInt := fun q => w (Int64.toInt_inj.mp q)
        exact Int64.lt_iff_toInt_lt.mpr (by omega)
  have b1 : ¬ v.toInt < (0 : Int64).toInt := fun q => a1 (Int64.lt_iff_toInt_lt.mpr q)
  have b2 := Int64.lt_iff_toInt_lt.mp a2
  rw [lN_toInt (by omega)] at b2
  have b3 : (0 : Int64).toInt = 0 := rfl
  rw [b3] at b1
  refine ⟨v.toInt.toNat, by omega, Int64.toInt_inj.mp ?_⟩
  rw [lN_toInt (by omega)]
  omega
def sgR (h : HP) (a i : Nat) : Nat := (hL h a i).toInt32.toNatClampNeg
theorem tedR_k {h : HP} {a n : Nat} (hn : n ≤ 12) : ∀ {m i : Nat} {g : Int32}, tedR h a n i m g = true → ∀ j, i ≤ j → j < i + m → sgR h a j < n ∧ hL h a j = lN (sgR h a j) := by
  intro m
  induction m with
  | zero => intro i g _ j h1 h2; omega
  | succ m ih =>
    intro i g z j h1 h2
    rw [tedR_s] at z
    by_cases w : tedB h a n i g = true
    · rw [if_pos w] at z
      by_cases e : j = i
      · subst e
        have w1 := of_decide_eq_true w
        obtain ⟨k, hk, hv⟩ := lgx hn w1.1 w1.2.1
        have e2 : sgR h a j = k := by
          unfold sgR
          rw [hv, lN_i, cl (by omega)]
        exact ⟨by omega, by rw [e2]; exact hv⟩
      · exact ih z j (by omega) (by omega)
    · rw [if_neg w] at z
      exact absurd z (by decide)
theorem zX8_tellsEachDeal (X : EX) {h : HP} (F : Fx h) {n : Nat} {A : Nat → Nat} {D : Nat → DD} (b : BkD h n A D) {sz q : Nat} {ty : Int32} (hs : sz < 4) (hsh : ShC h sz ty q) : Ct X mX8_tellsEachDeal 0 0 0 [vR (some 32), vR (some (101 + 2 * sz))] h (Rt (vI (b2 ((tedR h (102 + 2 * sz) n 0 q 0) = true))) h) := by
  refine ct_of rfl (Nat.le_of_ble_eq_true rfl) ?_
  have hq40 := hsh.2.2.2
  have hn12 := b.2.1
  have loop : ∀ (m : Nat) (k : Nat) (g : Int32), k + m = q → tedR h (102 + 2 * sz) n k m g = (tedR h (102 + 2 * sz) n 0 q 0) → Ev X mX8_tellsEachDeal 0 0 0 (Rt (vI (b2 ((tedR h (102 + 2 * sz) n 0 q 0) = true))) h) 0 0 4 [(0, some (vR (some 32))), (1, some (vR (some (101 + 2 * sz)))), (2, some (vI g)), (3, some (vI (nI k)))] [] h := by
    intro m
    induction m with
    | zero =>
      intro k g hk hR9
      obtain rfl : q = k := by omega
      refine e_iload_n aX8_tellsEachDeal_4 rfl ?_
      refine e_aload_n aX8_tellsEachDeal_5 rfl ?_
      refine e_getIF aX8_tellsEachDeal_6 fX8_207 rfl (sh_is F hs) hsh.2.2.1 ?_
      refine e_icmp_ge aX8_tellsEachDeal_9 (fun c9 => ?_) (fun c9 => ?_)
      · -- 9: taken
        refine e_iconst (v := 1) aX8_tellsEachDeal_67 (by decide) ?_
        refine e_zreturn aX8_tellsEachDeal_68 rfl (by decide) (Nat.le_refl _) (Nat.le_refl _) ?_
        exact ⟨by rw [← hR9]; rfl, rfl⟩
      · -- 9: not taken
        exact absurd (nI_le (by omega) (by omega)) c9
    | succ m ih =>
      intro k g hk hR9
      refine e_iload_n aX8_tellsEachDeal_4 rfl ?_
      refine e_aload_n aX8_tellsEachDeal_5 rfl ?_
      refine e_getIF aX8_tellsEachDeal_6 fX8_207 rfl (sh_is F hs) hsh.2.2.1 ?_
      refine e_icmp_ge aX8_tellsEachDeal_9 (fun c9 => ?_) (fun c9 => ?_)
      · -- 9: taken
        exact absurd c9 (nI_ge (by omega) (by omega))
      · -- 9: not taken
        refine e_aload_n aX8_tellsEachDeal_12 rfl ?_
        refine e_getRF aX8_tellsEachDeal_13 fX8_225 rfl (sh_is F hs) (sh_r F hs) ?_
        refine e_iload_n aX8_tellsEachDeal_16 rfl ?_
        refine e_laloadF aX8_tellsEachDeal_17 (sn_is F hs) (sn_n F hs) (vin (N := 40) (by omega)) (show hL h (102 + 2 * sz) (nI k).toNatClampNeg = hL h (102 + 2 * sz) k by rw [cl (by omega)]) ?_
        refine e_lstore aX8_tellsEachDeal_18 (Nat.le_of_ble_eq_true rfl) ?_
        refine e_lload aX8_tellsEachDeal_20 rfl ?_
        refine e_lconst (v := 0) aX8_tellsEachDeal_22 rfl ?_
        refine e_lcmp aX8_tellsEachDeal_23 ?_
        refine e_if_lt aX8_tellsEachDeal_24 (fun c24 => ?_) (fun c24 => ?_)
        · -- 24: taken
          refine e_iconst (v := 0) aX8_tellsEachDeal_51 (by decide) ?_
          refine e_zreturn aX8_tellsEachDeal_52 rfl (by decide) (Nat.le_refl _) (Nat.le_refl _) ?_
          have e9 : ¬ tedB h (102 + 2 * sz) n k g = true := fun z => by
            have w := of_decide_eq_true z
            exact w.1 c24
          exact ⟨by rw [← hR9, tedR_s, if_neg e9, b2_f (by decide)], rfl⟩
        · -- 24: not taken
          refine e_lload aX8_tellsEachDeal_27 rfl ?_
          refine e_aload_n aX8_tellsEachDeal_29 rfl ?_
          refine e_getRF aX8_tellsEachDeal_30 fX8_10 rfl (fx_is F rfl) (fx_r (b := 33) F rfl) ?_
          refine e_getIF aX8_tellsEachDeal_33 fX8_101 rfl (fx_is F rfl) b.1 ?_
          refine e_i2l aX8_tellsEachDeal_36 ?_
          refine e_lcmp aX8_tellsEachDeal_37 ?_
          refine e_if_ge aX8_tellsEachDeal_38 (fun c38 => ?_) (fun c38 => ?_)
          · -- 38: taken
            refine e_iconst (v := 0) aX8_tellsEachDeal_51 (by decide) ?_
            refine e_zreturn aX8_tellsEachDeal_52 rfl (by decide) (Nat.le_refl _) (Nat.le_refl _) ?_
            have e9 : ¬ tedB h (102 + 2 * sz) n k g = true := fun z => by
              have w := of_decide_eq_true z
              exact absurd (Int32.lt_of_lt_of_le w.2.1 c38) Int32.lt_irrefl
            exact ⟨by rw [← hR9, tedR_s, if_neg e9, b2_f (by decide)], rfl⟩
          · -- 38: not taken
            refine e_iload_n aX8_tellsEachDeal_41 rfl ?_
            refine e_lload aX8_tellsEachDeal_42 rfl ?_
            refine e_l2i aX8_tellsEachDeal_44 ?_
            refine e_ishr aX8_tellsEachDeal_45 ?_
            refine e_iconst (v := 1) aX8_tellsEachDeal_46 (by decide) ?_
            refine e_iand aX8_tellsEachDeal_47 ?_
            refine e_if_eq aX8_tellsEachDeal_48 (fun c48 => ?_) (fun c48 => ?_)
            · -- 48: taken
              refine e_iload_n aX8_tellsEachDeal_53 rfl ?_
              refine e_iconst (v := 1) aX8_tellsEachDeal_54 (by decide) ?_
              refine e_lload aX8_tellsEachDeal_55 rfl ?_
              refine e_l2i aX8_tellsEachDeal_57 ?_
              refine e_ishl aX8_tellsEachDeal_58 ?_
              refine e_ior aX8_tellsEachDeal_59 ?_
              refine e_istore_n aX8_tellsEachDeal_60 (Nat.le_of_ble_eq_true rfl) ?_
              refine e_iinc aX8_tellsEachDeal_61 rfl rfl (Nat.le_of_ble_eq_true rfl) ?_
              refine e_goto aX8_tellsEachDeal_64 ?_
              have e9 : tedB h (102 + 2 * sz) n k g = true := decide_eq_true ⟨c24, Int32.not_le.mp c38, c48⟩
              refine e_ls (ls' := [(0, some (vR (some 32))), (1, some (vR (some (101 + 2 * sz)))), (2, some (vI (g ||| ((1 : Int32) <<< ((hL h (102 + 2 * sz) k).toInt32 &&& 31))))), (3, some (vI (nI (k + 1))))]) ⟨rfl, rfl, rfl, congrArg (fun x => some (vI x)) (nI_1 k), trivial⟩ ?_
              exact ih (k + 1) _ (by omega) (by rw [← hR9, tedR_s, if_pos e9])
            · -- 48: not taken
              refine e_iconst (v := 0) aX8_tellsEachDeal_51 (by decide) ?_
              refine e_zreturn aX8_tellsEachDeal_52 rfl (by decide) (Nat.le_refl _) (Nat.le_refl _) ?_
              have e9 : ¬ tedB h (102 + 2 * sz) n k g = true := fun z => by
                have w := of_decide_eq_true z
                exact c48 w.2.2
              exact ⟨by rw [← hR9, tedR_s, if_neg e9, b2_f (by decide)], rfl⟩
  refine e_iconst (v := 0) aX8_tellsEachDeal_0 (by decide) ?_
  refine e_istore_n aX8_tellsEachDeal_1 (Nat.le_of_ble_eq_true rfl) ?_
  refine e_iconst (v := 0) aX8_tellsEachDeal_2 (by decide) ?_
  refine e_istore_n aX8_tellsEachDeal_3 (Nat.le_of_ble_eq_true rfl) ?_
  refine e_ls (ls' := [(0, some (vR (some 32))), (1, some (vR (some (101 + 2 * sz)))), (2, some (vI 0)), (3, some (vI (nI 0)))]) ⟨rfl, rfl, rfl, rfl, trivial⟩ ?_
  exact loop q 0 0 (by omega) rfl
/-- the DEALs of a sheet go over, one after another -/
def goR (D : Nat → DD) (s : Nat) (σ : Nat → Nat) : Nat → RS → RS × Bool
  | 0, t => (t, false)
  | i + 1, t => ((mvR (D (σ i)) s (σ i) (goR D s σ i t).1).1, (goR D s σ i t).2 || (mvR (D (σ i)) s (σ i) (goR D s σ i t).1).2)
def crR (D : Nat → DD) (s : Nat) (σ : Nat → Nat) (q : Nat) : Nat → Nat → RS → Nat
  | 0, u, _ => u
  | m + 1, u, t => if (goR D s σ q t).2 = true then crR D s σ q m (u + 1) (goR D s σ q t).1 else u
theorem crR_s {D : Nat → DD} {s q m u : Nat} {σ : Nat → Nat} {t : RS} : crR D s σ q (m + 1) u t = if (goR D s σ q t).2 = true then crR D s σ q m (u + 1) (goR D s σ q t).1 else u := rfl
theorem Gb.sh {h h' : HP} (g : Gb h h') (F : Fx h) {sz q : Nat} {ty : Int32} (hs : sz < 4) (k : ShC h sz ty q) : ShC h' sz ty q := by
  have h1 : 116 ≤ hZ h := F.1
  have z := g.2 (101 + 2 * sz) (by omega)
  exact ⟨(z.1 1).1.trans k.1, k.2.1, (z.1 2).1.trans k.2.2.1, k.2.2.2⟩
theorem zX8_goesOver (X : EX) {h0 h : HP} (F0 : Fx h0) (G1 : Gb h0 h) {n : Nat} {A : Nat → Nat} {D : Nat → DD} (b : BkD h0 n A D) {sz q : Nat} {ty : Int32} (hs : sz < 4) (hsh : ShC h0 sz ty q) {σ : Nat → Nat} (hσ : ∀ i, i < q → σ i < n ∧ hL h0 (102 + 2 * sz) i = lN (σ i)) {s : Nat} (h1296 : s < 1296) {t : RS} (R1 : RdC h (hZ h0) s t) : Ct X mX8_goesOver 4 0 0 [vR (some 32), vR (some (101 + 2 * sz)), vR (some (hZ h0))] h (fun v h' => v = some (vI (b2 ((goR D s σ q t).2 = true))) ∧ Gb h0 h' ∧ RdC h' (hZ h0) s (goR D s σ q t).1) := by
  refine ct_of rfl (Nat.le_of_ble_eq_true rfl) ?_
  have hq40 := hsh.2.2.2
  have loop : ∀ (m : Nat) (k : Nat) (hz : HP), k + m = q → Gb h0 hz → RdC hz (hZ h0) s (goR D s σ k t).1 → Ev X mX8_goesOver 4 0 0 (fun v h' => v = some (vI (b2 ((goR D s σ q t).2 = true))) ∧ Gb h0 h' ∧ RdC h' (hZ h0) s (goR D s σ q t).1) 0 0 5 [(0, some (vR (some 32))), (1, some (vR (some (101 + 2 * sz)))), (2, some (vR (some (hZ h0)))), (3, some (vI (b2 ((goR D s σ k t).2 = true)))), (4, some (vI (nI k)))] [] hz := by
    intro m
    induction m with
    | zero =>
      intro k hz hk GZ RZ
      obtain rfl : q = k := by omega
      have F : Fx hz := GZ.F F0
      have hshZ := GZ.sh F0 hs hsh
      refine e_iload aX8_goesOver_5 rfl ?_
      refine e_aload_n aX8_goesOver_7 rfl ?_
      refine e_getIF aX8_goesOver_8 fX8_207 rfl (sh_is F hs) hshZ.2.2.1 ?_
      refine e_icmp_ge aX8_goesOver_11 (fun c11 => ?_) (fun c11 => ?_)
      · -- 11: taken
        refine e_iload_n aX8_goesOver_59 rfl ?_
        refine e_zreturn aX8_goesOver_60 rfl b2_b (Nat.le_refl _) (Nat.le_refl _) ?_
        exact ⟨rfl, GZ, RZ⟩
      · -- 11: not taken
        exact absurd (nI_le (by omega) (by omega)) c11
    | succ m ih =>
      intro k hz hk GZ RZ
      have F : Fx hz := GZ.F F0
      have hshZ := GZ.sh F0 hs hsh
      have h134 : 116 ≤ hZ h0 := F0.1
      refine e_iload aX8_goesOver_5 rfl ?_
      refine e_aload_n aX8_goesOver_7 rfl ?_
      refine e_getIF aX8_goesOver_8 fX8_207 rfl (sh_is F hs) hshZ.2.2.1 ?_
      refine e_icmp_ge aX8_goesOver_11 (fun c11 => ?_) (fun c11 => ?_)
      · -- 11: taken
        exact absurd c11 (nI_ge (by omega) (by omega))
      · -- 11: not taken
        refine e_aload_n aX8_goesOver_14 rfl ?_
        refine e_getRF aX8_goesOver_15 fX8_225 rfl (sh_is F hs) (sh_r F hs) ?_
        refine e_iload aX8_goesOver_18 rfl ?_
        refine e_laloadF aX8_goesOver_20 (sn_is F hs) (sn_n F hs) (vin (N := 40) (by omega)) (show hL hz (102 + 2 * sz) (nI k).toNatClampNeg = lN (σ k) by rw [cl (by omega)]; exact (((GZ.2 (102 + 2 * sz) (by omega)).1 k).2.1).trans (hσ k (by omega)).2) ?_
        refine e_l2i aX8_goesOver_21 ?_
        refine e_top (lN_i _) ?_
        refine e_istore aX8_goesOver_22 (Nat.le_of_ble_eq_true rfl) ?_
        refine e_aload_n aX8_goesOver_24 rfl ?_
        refine e_getRF aX8_goesOver_25 fX8_10 rfl (fx_is F rfl) (fx_r (b := 33) F rfl) ?_
        refine e_iload aX8_goesOver_28 rfl ?_
        refine e_invvT aX8_goesOver_30 kX8_128 (zX0_dealAt_in X F (GZ.bd F0 b) (k := σ k) (hσ k (by omega)).1) rfl rfl (fx_is F rfl) (Nat.le_of_ble_eq_true rfl) (Nat.le_of_ble_eq_true rfl) (Nat.le_refl _) (Nat.le_refl _) (Nat.le_of_ble_eq_true rfl) ?_
        refine e_astore aX8_goesOver_33 (Nat.le_of_ble_eq_true rfl) ?_
        refine e_aload aX8_goesOver_35 rfl ?_
        refine e_ifnull aX8_goesOver_37 (fun c37 => ?_) (fun r37 c37 => ?_)
        · -- 37: taken
          exact absurd c37 (by simp)
        · -- 37: not taken
          refine e_aload_n aX8_goesOver_40 rfl ?_
          refine e_aload aX8_goesOver_41 rfl ?_
          refine e_iload aX8_goesOver_43 rfl ?_
          refine e_invv aX8_goesOver_45 kX8_293 (zX4_move X GZ (b.2.2 (σ k) (hσ k (by omega)).1).2 h1296 RZ) rfl rfl RZ.2.1 (Nat.le_of_ble_eq_true rfl) (Nat.le_of_ble_eq_true rfl) (Nat.le_refl _) (Nat.le_refl _) (Nat.le_of_ble_eq_true rfl) ?_
          rintro v h2 ⟨rfl, G2, R2⟩
          have F : Fx h2 := G2.F F0
          refine e_if_eq aX8_goesOver_48 (fun c48 => ?_) (fun c48 => ?_)
          · -- 48: taken
            have q48 : (mvR (D (σ k)) s (σ k) (goR D s σ k t).1).2 = false := by
              have z := b2_0.mp c48
              cases e : (mvR (D (σ k)) s (σ k) (goR D s σ k t).1).2
              · rfl
              · exact absurd e z
            refine e_iinc aX8_goesOver_53 rfl rfl (Nat.le_of_ble_eq_true rfl) ?_
            refine e_goto aX8_goesOver_56 ?_
            refine e_ls (ls' := [(0, some (vR (some 32))), (1, some (vR (some (101 + 2 * sz)))), (2, some (vR (some (hZ h0)))), (3, some (vI (b2 ((goR D s σ (k + 1) t).2 = true)))), (4, some (vI (nI (k + 1))))]) ⟨rfl, rfl, rfl, (show some (vI (b2 _)) = some (vI (b2 ((_ || _) = true))) by rw [q48, Bool.or_false]), congrArg (fun x => some (vI x)) (nI_1 k), trivial⟩ ?_
            exact ih (k + 1) _ (by omega) G2 R2
          · -- 48: not taken
            have q48 : (mvR (D (σ k)) s (σ k) (goR D s σ k t).1).2 = true := Decidable.of_not_not (fun z => c48 (b2_0.mpr z))
            refine e_iconst (v := 1) aX8_goesOver_51 (by decide) ?_
            refine e_istore_n aX8_goesOver_52 (Nat.le_of_ble_eq_true rfl) ?_
            refine e_iinc aX8_goesOver_53 rfl rfl (Nat.le_of_ble_eq_true rfl) ?_
            refine e_goto aX8_goesOver_56 ?_
            refine e_ls (ls' := [(0, some (vR (some 32))), (1, some (vR (some (101 + 2 * sz)))), (2, some (vR (some (hZ h0)))), (3, some (vI (b2 ((goR D s σ (k + 1) t).2 = true)))), (4, some (vI (nI (k + 1))))]) ⟨rfl, rfl, rfl, (show some (vI 1) = some (vI (b2 ((_ || _) = true))) by rw [q48, Bool.or_true]; rfl), congrArg (fun x => some (vI x)) (nI_1 k), trivial⟩ ?_
            exact ih (k + 1) _ (by omega) G2 R2
  refine e_iconst (v := 0) aX8_goesOver_0 (by decide) ?_
  refine e_istore_n aX8_goesOver_1 (Nat.le_of_ble_eq_true rfl) ?_
  refine e_iconst (v := 0) aX8_goesOver_2 (by decide) ?_
  refine e_istore aX8_goesOver_3 (Nat.le_of_ble_eq_true rfl) ?_
  refine e_ls (ls' := [(0, some (vR (some 32))), (1, some (vR (some (101 + 2 * sz)))), (2, some (vR (some (hZ h0)))), (3, some (vI (b2 ((goR D s σ 0 t).2 = true)))), (4, some (vI (nI 0)))]) ⟨rfl, rfl, rfl, rfl, rfl, trivial⟩ ?_
  exact loop q 0 h (by omega) G1 R1
end
section
/-! contracts: countRounds, rounds (written by wip/p45/g35.py) -/
theorem zX8_countRounds (X : EX) {h0 : HP} (F0 : Fx h0) {n : Nat} {A : Nat → Nat} {D : Nat → DD} (b : BkD h0 n A D) {sz q : Nat} {ty : Int32} (hs : sz < 4) (hsh : ShC h0 sz ty q) {σ : Nat → Nat} (hσ : ∀ i, i < q → σ i < n ∧ hL h0 (102 + 2 * sz) i = lN (σ i)) {s : Nat} (h1296 : s < 1296) : Ct X mX8_countRounds 5 2 16 [vR (some 32), vR (some (101 + 2 * sz)), vI (nI s)] h0 (fun v h' => v = some (vI (nI (crR D s σ q 24 1 rd0))) ∧ Gb h0 h') := by
  refine ct_of rfl (Nat.le_of_ble_eq_true rfl) ?_
  have h134 : 116 ≤ hZ h0 := F0.1
  have h32 : 32 ≤ hZ h0 := by omega
  have loop : ∀ (m : Nat) (u : Nat) (t : RS) (hz : HP), u + m = 25 → Gb h0 hz → RdC hz (hZ h0) s t → crR D s σ q m u t = (crR D s σ q 24 1 rd0) → Ev X mX8_countRounds 5 2 16 (fun v h' => v = some (vI (nI (crR D s σ q 24 1 rd0))) ∧ Gb h0 h') 2 16 12 [(0, some (vR (some 32))), (1, some (vR (some (101 + 2 * sz)))), (3, some (vR (some (hZ h0)))), (4, some (vI (nI u)))] [] hz := by
    intro m
    induction m with
    | zero =>
      intro u t hz hk GZ RZ hR9
      obtain rfl : u = 25 := by omega
      refine e_iload aX8_countRounds_12 rfl ?_
      refine e_bipush (v := 24) aX8_countRounds_14 (by decide) ?_
      refine e_icmp_gt aX8_countRounds_16 (fun c16 => ?_) (fun c16 => ?_)
      · -- 16: taken
        refine e_iload aX8_countRounds_34 rfl ?_
        refine e_ireturn aX8_countRounds_36 rfl (Nat.le_of_ble_eq_true rfl) (Nat.le_of_ble_eq_true rfl) ?_
        exact ⟨by rw [← hR9] <;> rfl, GZ⟩
      · -- 16: not taken
        exact absurd (by show nI 25 > 24; decide) c16
    | succ m ih =>
      intro u t hz hk GZ RZ hR9
      have F : Fx hz := GZ.F F0
      refine e_iload aX8_countRounds_12 rfl ?_
      refine e_bipush (v := 24) aX8_countRounds_14 (by decide) ?_
      refine e_icmp_gt aX8_countRounds_16 (fun c16 => ?_) (fun c16 => ?_)
      · -- 16: taken
        exact absurd c16 (Int32.not_lt.mpr (nI_le (a := u) (b := 24) (by omega) (by decide)))
      · -- 16: not taken
        refine e_aload_n aX8_countRounds_19 rfl ?_
        refine e_aload_n aX8_countRounds_20 rfl ?_
        refine e_aload_n aX8_countRounds_21 rfl ?_
        refine e_invv aX8_countRounds_22 kX8_289 (zX8_goesOver X F0 GZ b hs hsh hσ h1296 RZ) rfl rfl (fx_is F rfl) (Nat.le_of_ble_eq_true rfl) (Nat.le_of_ble_eq_true rfl) (Nat.le_of_ble_eq_true rfl) (Nat.le_of_ble_eq_true rfl) (Nat.le_of_ble_eq_true rfl) ?_
        rintro v h2 ⟨rfl, G2, R2⟩
        refine e_if_eq aX8_countRounds_25 (fun c25 => ?_) (fun c25 => ?_)
        · -- 25: taken
          have q25 := b2_0.mp c25
          refine e_iload aX8_countRounds_34 rfl ?_
          refine e_ireturn aX8_countRounds_36 rfl (Nat.le_of_ble_eq_true rfl) (Nat.le_of_ble_eq_true rfl) ?_
          exact ⟨by rw [← hR9, crR_s, if_neg q25], G2⟩
        · -- 25: not taken
          have q25 : (goR D s σ q t).2 = true := Decidable.of_not_not (fun z => c25 (b2_0.mpr z))
          refine e_iinc aX8_countRounds_28 rfl rfl (Nat.le_of_ble_eq_true rfl) ?_
          refine e_goto aX8_countRounds_31 ?_
          refine e_ls (ls' := [(0, some (vR (some 32))), (1, some (vR (some (101 + 2 * sz)))), (3, some (vR (some (hZ h0)))), (4, some (vI (nI (u + 1))))]) ⟨rfl, rfl, rfl, congrArg (fun x => some (vI x)) (nI_1 u), trivial⟩ ?_
          exact ih (u + 1) _ h2 (by omega) G2 R2 (by rw [← hR9, crR_s, if_pos q25])
  refine e_new aX8_countRounds_0 nX8_284 (Nat.le_of_ble_eq_true rfl) (Nat.le_of_ble_eq_true rfl) ?_
  refine e_dup aX8_countRounds_3 rfl ?_
  refine e_iload_n aX8_countRounds_4 rfl ?_
  refine e_invi aX8_countRounds_5 kX8_286 (zX4_init X (h := nw h0 5 0) (r := hZ h0) (s := s) h134 (is_ns h32) rfl) rfl rfl (Nat.le_of_ble_eq_true rfl) (Nat.le_of_ble_eq_true rfl) (Nat.le_of_ble_eq_true rfl) (Nat.le_of_ble_eq_true rfl) (Nat.le_of_ble_eq_true rfl) ?_
  rintro v h2 ⟨rfl, rfl⟩
  have GZ : Gb h0 (rdH (nw h0 5 0) (hZ h0) s 12) := rdH_G (Gb.rf h0).nw (Nat.le_refl _) 12
  have RZ : RdC (rdH (nw h0 5 0) (hZ h0) s 12) (hZ h0) s rd0 := rdH_R h134 (is_ns h32) rfl (if_pos rfl) (if_pos rfl)
  refine e_astore_n aX8_countRounds_8 (Nat.le_of_ble_eq_true rfl) ?_
  refine e_iconst (v := 1) aX8_countRounds_9 (by decide) ?_
  refine e_istore aX8_countRounds_10 (Nat.le_of_ble_eq_true rfl) ?_
  refine e_ls (ls' := [(0, some (vR (some 32))), (1, some (vR (some (101 + 2 * sz)))), (3, some (vR (some (hZ h0)))), (4, some (vI (nI 1)))]) ⟨rfl, rfl, rfl, rfl, trivial⟩ ?_
  exact loop 24 1 rd0 _ rfl GZ RZ rfl
theorem zX8_rounds (X : EX) {h : HP} (F : Fx h) {f n : Nat} {o : Nat → Nat} {A : Nat → Nat} {D : Nat → DD} (bf : BkF h f o) (b : BkD h n A D) {tS : Nat → Int32} {qS : Nat → Nat} (hS : ShA h tS qS) (x y : Int32) : Ct X mX8_rounds 6 2 16 [vR (some 32), vI x, vI y] h (if x < 0 ∨ 4 ≤ x then RF h 0 else if nI (fo o f) ≤ y ∧ y < nI (fo o f + om f) then (if tS x.toNatClampNeg = -1 then RF h 5 else if qS x.toNatClampNeg = n then (if tedR h (102 + 2 * x.toNatClampNeg) n 0 (qS x.toNatClampNeg) 0 = true then (fun v h' => v = some (vI (nI (crR D y.toNatClampNeg (sgR h (102 + 2 * x.toNatClampNeg)) (qS x.toNatClampNeg) 24 1 rd0))) ∧ Gb h h') else RF h 4) else RF h 6) else RF h 0) := by
  refine ct_of rfl (Nat.le_of_ble_eq_true rfl) ?_
  have hb6 := om_fo bf.2.1 bf.2.2.2
  have hn12 := b.2.1
  refine e_iload_n aX8_rounds_0 rfl ?_
  refine e_iconst (v := 4) aX8_rounds_1 (by decide) ?_
  refine e_invsT aX8_rounds_2 kX8_58 (zX8_isOutside X _ _) rfl rfl (Nat.le_of_ble_eq_true rfl) (Nat.le_of_ble_eq_true rfl) (Nat.le_of_ble_eq_true rfl) (Nat.le_of_ble_eq_true rfl) (Nat.le_of_ble_eq_true rfl) ?_
  refine e_if_ne aX8_rounds_5 (fun c5 => ?_) (fun c5 => ?_)
  · -- 5: taken
    have q5 := Decidable.of_not_not (fun z => c5 (b2_0.mpr z))
    refine e_aload_n aX8_rounds_19 rfl ?_
    refine e_iconst (v := 0) aX8_rounds_20 (by decide) ?_
    refine e_invvT aX8_rounds_21 kX8_62 (zfin X (k := 0) F (by decide)) rfl rfl (fx_is F rfl) (Nat.le_of_ble_eq_true rfl) (Nat.le_of_ble_eq_true rfl) (Nat.le_of_ble_eq_true rfl) (Nat.le_of_ble_eq_true rfl) (Nat.le_of_ble_eq_true rfl) ?_
    refine e_ireturn aX8_rounds_24 rfl (Nat.le_of_ble_eq_true rfl) (Nat.le_of_ble_eq_true rfl) ?_
    rw [if_pos q5]
    exact ⟨rfl, rfl⟩
  · -- 5: not taken
    have q5 := b2_0.mp c5
    obtain ⟨sz, hs, rfl⟩ := ou_of 4 (by decide) q5
    have hsh := hS sz hs
    have hq40 := hsh.2.2.2
    refine e_aload_n aX8_rounds_8 rfl ?_
    refine e_getRF aX8_rounds_9 fX8_10 rfl (fx_is F rfl) (fx_r (b := 33) F rfl) ?_
    refine e_iload_n aX8_rounds_12 rfl ?_
    refine e_invvT aX8_rounds_13 kX8_169 (zX0_isOpen X F bf _) rfl rfl (fx_is F rfl) (Nat.le_of_ble_eq_true rfl) (Nat.le_of_ble_eq_true rfl) (Nat.le_of_ble_eq_true rfl) (Nat.le_of_ble_eq_true rfl) (Nat.le_of_ble_eq_true rfl) ?_
    refine e_if_ne aX8_rounds_16 (fun c16 => ?_) (fun c16 => ?_)
    · -- 16: taken
      have q16 := Decidable.of_not_not (fun z => c16 (b2_0.mpr z))
      obtain ⟨uz, hs1, hs2, rfl⟩ := opn_of (Nat.le_add_right _ _) hb6 q16
      refine e_aload_n aX8_rounds_25 rfl ?_
      refine e_getRF aX8_rounds_26 fX8_36 rfl (fx_is F rfl) (fx_r (b := 73) F rfl) ?_
      refine e_iload_n aX8_rounds_29 rfl ?_
      refine e_aaloadF (t := 18) aX8_rounds_30 (fx_is F rfl) (by decide) (by decide) (fx_n (n := 4) F rfl) (vin (N := 4) hs) (sh_a F hs) ?_
      refine e_astore_n aX8_rounds_31 (Nat.le_of_ble_eq_true rfl) ?_
      refine e_aload_n aX8_rounds_32 rfl ?_
      refine e_invvT aX8_rounds_33 kX8_203 (zmis X F hs hsh) rfl rfl (sh_is F hs) (Nat.le_of_ble_eq_true rfl) (Nat.le_of_ble_eq_true rfl) (Nat.le_of_ble_eq_true rfl) (Nat.le_of_ble_eq_true rfl) (Nat.le_of_ble_eq_true rfl) ?_
      refine e_if_eq aX8_rounds_36 (fun c36 => ?_) (fun c36 => ?_)
      · -- 36: taken
        have q36 := b2_0.mp c36
        refine e_aload_n aX8_rounds_45 rfl ?_
        refine e_getIF aX8_rounds_46 fX8_207 rfl (sh_is F hs) hsh.2.2.1 ?_
        refine e_aload_n aX8_rounds_49 rfl ?_
        refine e_getRF aX8_rounds_50 fX8_10 rfl (fx_is F rfl) (fx_r (b := 33) F rfl) ?_
        refine e_getIF aX8_rounds_53 fX8_101 rfl (fx_is F rfl) b.1 ?_
        refine e_icmp_eq aX8_rounds_56 (fun c56 => ?_) (fun c56 => ?_)
        · -- 56: taken
          have q56 : qS sz = n := (nI_eq (by omega) (by omega)).mp c56
          refine e_aload_n aX8_rounds_66 rfl ?_
          refine e_aload_n aX8_rounds_67 rfl ?_
          refine e_invvT aX8_rounds_68 kX8_208 (zX8_tellsEachDeal X F b hs hsh) rfl rfl (fx_is F rfl) (Nat.le_of_ble_eq_true rfl) (Nat.le_of_ble_eq_true rfl) (Nat.le_of_ble_eq_true rfl) (Nat.le_of_ble_eq_true rfl) (Nat.le_of_ble_eq_true rfl) ?_
          refine e_if_ne aX8_rounds_71 (fun c71 => ?_) (fun c71 => ?_)
          · -- 71: taken
            have q71 := Decidable.of_not_not (fun z => c71 (b2_0.mpr z))
            refine e_aload_n aX8_rounds_80 rfl ?_
            refine e_aload_n aX8_rounds_81 rfl ?_
            refine e_iload_n aX8_rounds_82 rfl ?_
            refine e_invv aX8_rounds_83 kX8_212 (zX8_countRounds X F b hs hsh (σ := sgR h (102 + 2 * sz)) (s := uz) (fun i hi => tedR_k hn12 q71 i (Nat.zero_le _) (by omega)) (by omega)) rfl rfl (fx_is F rfl) (Nat.le_of_ble_eq_true rfl) (Nat.le_of_ble_eq_true rfl) (Nat.le_of_ble_eq_true rfl) (Nat.le_of_ble_eq_true rfl) (Nat.le_of_ble_eq_true rfl) ?_
            rintro v h2 ⟨rfl, G2⟩
            refine e_ireturn aX8_rounds_86 rfl (Nat.le_of_ble_eq_true rfl) (Nat.le_of_ble_eq_true rfl) ?_
            rw [if_neg q5, if_pos q16, cl (n := sz) (by omega), if_neg q36, if_pos q56, if_pos q71, cl (by omega)]
            exact ⟨rfl, G2⟩
          · -- 71: not taken
            have q71 := b2_0.mp c71
            refine e_aload_n aX8_rounds_74 rfl ?_
            refine e_iconst (v := 4) aX8_rounds_75 (by decide) ?_
            refine e_invvT aX8_rounds_76 kX8_62 (zfin X (k := 4) F (by decide)) rfl rfl (fx_is F rfl) (Nat.le_of_ble_eq_true rfl) (Nat.le_of_ble_eq_true rfl) (Nat.le_of_ble_eq_true rfl) (Nat.le_of_ble_eq_true rfl) (Nat.le_of_ble_eq_true rfl) ?_
            refine e_ireturn aX8_rounds_79 rfl (Nat.le_of_ble_eq_true rfl) (Nat.le_of_ble_eq_true rfl) ?_
            rw [if_neg q5, if_pos q16, cl (n := sz) (by omega), if_neg q36, if_pos q56, if_neg q71]
            exact ⟨rfl, rfl⟩
        · -- 56: not taken
          have q56 : ¬ qS sz = n := fun z => c56 (by rw [z])
          refine e_aload_n aX8_rounds_59 rfl ?_
          refine e_bipush (v := 6) aX8_rounds_60 (by decide) ?_
          refine e_invvT aX8_rounds_62 kX8_62 (zfin X (k := 6) F (by decide)) rfl rfl (fx_is F rfl) (Nat.le_of_ble_eq_true rfl) (Nat.le_of_ble_eq_true rfl) (Nat.le_of_ble_eq_true rfl) (Nat.le_of_ble_eq_true rfl) (Nat.le_of_ble_eq_true rfl) ?_
          refine e_ireturn aX8_rounds_65 rfl (Nat.le_of_ble_eq_true rfl) (Nat.le_of_ble_eq_true rfl) ?_
          rw [if_neg q5, if_pos q16, cl (n := sz) (by omega), if_neg q36, if_neg q56]
          exact ⟨rfl, rfl⟩
      · -- 36: not taken
        have q36 := Decidable.of_not_not (fun z => c36 (b2_0.mpr z))
        refine e_aload_n aX8_rounds_39 rfl ?_
        refine e_iconst (v := 5) aX8_rounds_40 (by decide) ?_
        refine e_invvT aX8_rounds_41 kX8_62 (zfin X (k := 5) F (by decide)) rfl rfl (fx_is F rfl) (Nat.le_of_ble_eq_true rfl) (Nat.le_of_ble_eq_true rfl) (Nat.le_of_ble_eq_true rfl) (Nat.le_of_ble_eq_true rfl) (Nat.le_of_ble_eq_true rfl) ?_
        refine e_ireturn aX8_rounds_44 rfl (Nat.le_of_ble_eq_true rfl) (Nat.le_of_ble_eq_true rfl) ?_
        rw [if_neg q5, if_pos q16, cl (n := sz) (by omega), if_pos q36]
        exact ⟨rfl, rfl⟩
    · -- 16: not taken
      have q16 := b2_0.mp c16
      refine e_aload_n aX8_rounds_19 rfl ?_
      refine e_iconst (v := 0) aX8_rounds_20 (by decide) ?_
      refine e_invvT aX8_rounds_21 kX8_62 (zfin X (k := 0) F (by decide)) rfl rfl (fx_is F rfl) (Nat.le_of_ble_eq_true rfl) (Nat.le_of_ble_eq_true rfl) (Nat.le_of_ble_eq_true rfl) (Nat.le_of_ble_eq_true rfl) (Nat.le_of_ble_eq_true rfl) ?_
      refine e_ireturn aX8_rounds_24 rfl (Nat.le_of_ble_eq_true rfl) (Nat.le_of_ble_eq_true rfl) ?_
      rw [if_neg q5, if_neg q16]
      exact ⟨rfl, rfl⟩
end
section
/-! contracts: Deal, sale, swap (written by wip/p45/g36.py) -/
def dlH (h : HP) (z : Nat) (k f t p q m : Int32) (c : Option Nat) : HP := wR (wI (wI (wI (wI (wI (wI h z 0 k) z 1 f) z 2 t) z 3 p) z 4 q) z 5 m) z 6 c
theorem zX1_init (X : EX) {h : HP} {z : Nat} (kz : Is h z 2) (k f t p q m : Int32) (c : Option Nat) : Ct X mX1_init 1 0 0 [vR (some z), vI k, vI f, vI t, vI p, vI q, vI m, vR c] h (Rv (dlH h z k f t p q m c)) := by
  refine ct_of rfl (Nat.le_of_ble_eq_true rfl) ?_
  refine e_aload_n aX1_init_0 rfl ?_
  refine e_objInit aX1_init_1 kX1_3 w_objI w_objC (Nat.le_of_ble_eq_true rfl) (Nat.le_of_ble_eq_true rfl) ?_
  refine e_aload_n aX1_init_4 rfl ?_
  refine e_iload_n aX1_init_5 rfl ?_
  refine e_putI aX1_init_6 fX1_9 rfl kz (Or.inr ⟨rfl, fun r q => by cases q; rfl⟩) ?_
  refine e_aload_n aX1_init_9 rfl ?_
  refine e_iload_n aX1_init_10 rfl ?_
  refine e_putI aX1_init_11 fX1_15 rfl kz (Or.inr ⟨rfl, fun r q => by cases q; rfl⟩) ?_
  refine e_aload_n aX1_init_14 rfl ?_
  refine e_iload_n aX1_init_15 rfl ?_
  refine e_putI aX1_init_16 fX1_18 rfl kz (Or.inr ⟨rfl, fun r q => by cases q; rfl⟩) ?_
  refine e_aload_n aX1_init_19 rfl ?_
  refine e_iload aX1_init_20 rfl ?_
  refine e_putI aX1_init_22 fX1_21 rfl kz (Or.inr ⟨rfl, fun r q => by cases q; rfl⟩) ?_
  refine e_aload_n aX1_init_25 rfl ?_
  refine e_iload aX1_init_26 rfl ?_
  refine e_putI aX1_init_28 fX1_24 rfl kz (Or.inr ⟨rfl, fun r q => by cases q; rfl⟩) ?_
  refine e_aload_n aX1_init_31 rfl ?_
  refine e_iload aX1_init_32 rfl ?_
  refine e_putI aX1_init_34 fX1_27 rfl kz (Or.inr ⟨rfl, fun r q => by cases q; rfl⟩) ?_
  refine e_aload_n aX1_init_37 rfl ?_
  refine e_aload aX1_init_38 rfl ?_
  refine e_putR aX1_init_40 fX1_30 rfl kz (Or.inr ⟨rfl, fun r q => by cases q; rfl⟩) ?_
  refine e_return aX1_init_43 rfl (Nat.le_refl _) (Nat.le_refl _) ?_
  exact ⟨rfl, rfl⟩
theorem dlH_G {h : HP} {k f t p q m : Int32} {c : Option Nat} : Gb h (dlH (nw h 2 0) (hZ h) k f t p q m c) := (((((((Gb.rf h).nw.wI (Nat.le_refl _)).wI (Nat.le_refl _)).wI (Nat.le_refl _)).wI (Nat.le_refl _)).wI (Nat.le_refl _)).wI (Nat.le_refl _)).wR (Nat.le_refl _)
/-- a DEAL without a CONDITION -/
def dNo (k f t p : Nat) (q : Option Nat) (m : Nat) : DD := (k, f, t, p, q, m, false, fun _ => true)
theorem dlH_C {h : HP} (F : Fx h) {k f t p m : Nat} {q : Option Nat} (w : dWf (dNo k f t p q m)) : DealC (dlH (nw h 2 0) (hZ h) (nI k) (nI f) (nI t) (nI p) (oI q) (nI m) none) (hZ h) (dNo k f t p q m) := by
  have h134 : 116 ≤ hZ h := F.1
  refine ⟨h134, is_ns (by omega), w, ?_, ?_, ?_, ?_, ?_, ?_, Or.inl ⟨rfl, up2_s⟩⟩
  · exact (up2_i (by decide)).trans ((up2_i (by decide)).trans ((up2_i (by decide)).trans ((up2_i (by decide)).trans ((up2_i (by decide)).trans up2_s))))
  · exact (up2_i (by decide)).trans ((up2_i (by decide)).trans ((up2_i (by decide)).trans ((up2_i (by decide)).trans up2_s)))
  · exact (up2_i (by decide)).trans ((up2_i (by decide)).trans ((up2_i (by decide)).trans up2_s))
  · exact (up2_i (by decide)).trans ((up2_i (by decide)).trans up2_s)
  · exact (up2_i (by decide)).trans up2_s
  · exact up2_s
theorem np_of {x y : Int32} (z : ¬ ((x < 0 ∨ 3 ≤ x) ∨ (y < 0 ∨ 3 ≤ y) ∨ x = y)) : ∃ a b, a < 3 ∧ b < 3 ∧ a ≠ b ∧ x = nI a ∧ y = nI b := by
  obtain ⟨a, ha, rfl⟩ := ou_of 3 (by decide) (fun w => z (Or.inl w))
  obtain ⟨b, hb, rfl⟩ := ou_of 3 (by decide) (fun w => z (Or.inr (Or.inl w)))
  exact ⟨a, b, ha, hb, fun e => z (Or.inr (Or.inr (by rw [e]))), rfl, rfl⟩
abbrev slK (x : Int32) : Prop := x = 0 ∨ x = 1 ∨ x = 3 ∨ x = 4
theorem slK_of {x : Int32} (z : slK x) : ∃ k, (k = 0 ∨ k = 1 ∨ k = 3 ∨ k = 4) ∧ x = nI k := by
  rcases z with rfl | rfl | rfl | rfl
  · exact ⟨0, Or.inl rfl, rfl⟩
  · exact ⟨1, Or.inr (Or.inl rfl), rfl⟩
  · exact ⟨3, Or.inr (Or.inr (Or.inl rfl)), rfl⟩
  · exact ⟨4, Or.inr (Or.inr (Or.inr rfl)), rfl⟩
theorem dNo_1 {k f t p m : Nat} (hk : k = 0 ∨ k = 1 ∨ k = 3 ∨ k = 4) (hf : f < 3) (ht : t < 3) (e : f ≠ t) (hp : p < 12) (hm : m ≤ 2) (hkm : k = 0 ↔ m = 0) : dWf (dNo k f t p none m) := by
  refine ⟨by show k < 6; omega, hf, ht, e, hp, ⟨fun z => ?_, fun z => by cases z⟩, (fun q z => by cases z), hm, ⟨fun z => ?_, fun z => ?_⟩, fun _ _ => rfl⟩
  · have z : k = 2 ∨ k = 5 := z
    omega
  · have z : k = 0 ∨ k = 2 := z
    show m = 0
    omega
  · have z : m = 0 := z
    show k = 0 ∨ k = 2
    omega
theorem dNo_2 {f t p q m : Nat} (hf : f < 3) (ht : t < 3) (e : f ≠ t) (hp : p < 12) (hq : q < 12) (e2 : p ≠ q) (e3 : p / 3 = q / 3) (hm : m ≤ 2) : dWf (dNo (if m = 0 then 2 else 5) f t p (some q) m) := by
  have hk : (if m = 0 then 2 else 5) = 2 ∧ m = 0 ∨ (if m = 0 then 2 else 5) = 5 ∧ m ≠ 0 := by
    by_cases z : m = 0
    · exact Or.inl ⟨if_pos z, z⟩
    · exact Or.inr ⟨if_neg z, z⟩
  refine ⟨by show (if m = 0 then 2 else 5) < 6; omega, hf, ht, e, hp, ⟨fun _ => rfl, fun _ => by show (if m = 0 then 2 else 5) = 2 ∨ (if m = 0 then 2 else 5) = 5; omega⟩, fun r z => ?_, hm, ⟨fun z => ?_, fun z => ?_⟩, fun _ _ => rfl⟩
  · cases z
    exact ⟨hq, Ne.symm e2, e3.symm⟩
  · have z : (if m = 0 then 2 else 5) = 0 ∨ (if m = 0 then 2 else 5) = 2 := z
    show m = 0
    omega
  · have z : m = 0 := z
    show (if m = 0 then 2 else 5) = 0 ∨ (if m = 0 then 2 else 5) = 2
    omega
/-- what a DEAL entered answers -/
def entR (h : HP) (D : Nat → DD) (n f : Nat) (o : Nat → Nat) (x y t p q m : Int32) (d : DD) : Option VV → HP → Prop := Rt (entV D n d f o) (entH (dlH (nw h 2 0) (hZ h) x y t p q m none) (hZ h) D n d f o)
theorem entV_I (D : Nat → DD) (n : Nat) (d : DD) (f : Nat) (o : Nat → Nat) : ∃ x, entV D n d f o = vI x := by
  unfold entV
  split
  · exact ⟨_, rfl⟩
  · split
    · exact ⟨_, rfl⟩
    · split
      · exact ⟨_, rfl⟩
      · exact ⟨_, rfl⟩
theorem e_retE {X : EX} {y : MD} {d1 mc ms : Nat} {Q : Option VV → HP → Prop} {cells slots pc pc' : Nat} {ls : ZL} {h : HP} {D : Nat → DD} {n : Nat} {d : DD} {f : Nat} {o : Nat → Nat} (hd : At y.2.1 pc .ireturn 1 pc') (hr : y.2.2.2 = some .int) (hc : cells ≤ mc) (hs : slots ≤ ms) (hQ : Q (some (entV D n d f o)) h) : Ev X y d1 mc ms Q cells slots pc ls [entV D n d f o] h := by
  obtain ⟨x, e⟩ := entV_I D n d f o
  rw [e] at hQ ⊢
  exact e_ireturn hd hr hc hs hQ
theorem zX8_sale (X : EX) {h : HP} (F : Fx h) {f n : Nat} {o : Nat → Nat} {A : Nat → Nat} {D : Nat → DD} (bf : BkF h f o) (b : BkD h n A D) (x y t p q : Int32) : Ct X mX8_sale 7 1 7 [vR (some 32), vI x, vI y, vI t, vI p, vI q] h (if slK x then (if (y < 0 ∨ 3 ≤ y) ∨ (t < 0 ∨ 3 ≤ t) ∨ y = t then RF h 0 else if p < 0 ∨ 12 ≤ p then RF h 0 else if x = 0 then entR h D n f o 0 y t p (-1) 0 (dNo 0 y.toNatClampNeg t.toNatClampNeg p.toNatClampNeg none 0) else if q < 1 then RF h 0 else if q ≤ 2 then entR h D n f o x y t p (-1) q (dNo x.toNatClampNeg y.toNatClampNeg t.toNatClampNeg p.toNatClampNeg none q.toNatClampNeg) else RF h 0) else RF h 0) := by
  refine ct_of rfl (Nat.le_of_ble_eq_true rfl) ?_
  have h32 : 32 ≤ hZ h := by have : 116 ≤ hZ h := F.1; omega
  have tail : Ev X mX8_sale 7 1 7 (if slK x then (if (y < 0 ∨ 3 ≤ y) ∨ (t < 0 ∨ 3 ≤ t) ∨ y = t then RF h 0 else if p < 0 ∨ 12 ≤ p then RF h 0 else if x = 0 then entR h D n f o 0 y t p (-1) 0 (dNo 0 y.toNatClampNeg t.toNatClampNeg p.toNatClampNeg none 0) else if q < 1 then RF h 0 else if q ≤ 2 then entR h D n f o x y t p (-1) q (dNo x.toNatClampNeg y.toNatClampNeg t.toNatClampNeg p.toNatClampNeg none q.toNatClampNeg) else RF h 0) else RF h 0) 0 0 26 [(0, some (vR (some 32))), (1, some (vI x)), (2, some (vI y)), (3, some (vI t)), (4, some (vI p)), (5, some (vI q)), (6, some (vI (b2 (slK x))))] [] h := by
    refine e_iload aX8_sale_26 rfl ?_
    refine e_if_eq aX8_sale_28 (fun c28 => ?_) (fun c28 => ?_)
    · -- 28: taken
      have q28 := b2_0.mp c28
      refine e_aload_n aX8_sale_49 rfl ?_
      refine e_iconst (v := 0) aX8_sale_50 (by decide) ?_
      refine e_invvT aX8_sale_51 kX8_62 (zfin X (k := 0) F (by decide)) rfl rfl (fx_is F rfl) (Nat.le_of_ble_eq_true rfl) (Nat.le_of_ble_eq_true rfl) (Nat.le_of_ble_eq_true rfl) (Nat.le_of_ble_eq_true rfl) (Nat.le_of_ble_eq_true rfl) ?_
      refine e_ireturn aX8_sale_54 rfl (Nat.le_of_ble_eq_true rfl) (Nat.le_of_ble_eq_true rfl) ?_
      rw [if_neg q28]
      exact ⟨rfl, rfl⟩
    · -- 28: not taken
      have q28 := Decidable.of_not_not (fun z => c28 (b2_0.mpr z))
      refine e_iload_n aX8_sale_31 rfl ?_
      refine e_iload_n aX8_sale_32 rfl ?_
      refine e_invsT aX8_sale_33 kX8_91 (zX8_areNoPair X _ _) rfl rfl (Nat.le_of_ble_eq_true rfl) (Nat.le_of_ble_eq_true rfl) (Nat.le_of_ble_eq_true rfl) (Nat.le_of_ble_eq_true rfl) (Nat.le_of_ble_eq_true rfl) ?_
      refine e_if_ne aX8_sale_36 (fun c36 => ?_) (fun c36 => ?_)
      · -- 36: taken
        have q36 := Decidable.of_not_not (fun z => c36 (b2_0.mpr z))
        refine e_aload_n aX8_sale_49 rfl ?_
        refine e_iconst (v := 0) aX8_sale_50 (by decide) ?_
        refine e_invvT aX8_sale_51 kX8_62 (zfin X (k := 0) F (by decide)) rfl rfl (fx_is F rfl) (Nat.le_of_ble_eq_true rfl) (Nat.le_of_ble_eq_true rfl) (Nat.le_of_ble_eq_true rfl) (Nat.le_of_ble_eq_true rfl) (Nat.le_of_ble_eq_true rfl) ?_
        refine e_ireturn aX8_sale_54 rfl (Nat.le_of_ble_eq_true rfl) (Nat.le_of_ble_eq_true rfl) ?_
        rw [if_pos q28, if_pos q36]
        exact ⟨rfl, rfl⟩
      · -- 36: not taken
        have q36 := b2_0.mp c36
        obtain ⟨az, bz, haz, hbz, habz, rfl, rfl⟩ := np_of q36
        refine e_iload aX8_sale_39 rfl ?_
        refine e_bipush (v := 12) aX8_sale_41 (by decide) ?_
        refine e_invsT aX8_sale_43 kX8_58 (zX8_isOutside X _ _) rfl rfl (Nat.le_of_ble_eq_true rfl) (Nat.le_of_ble_eq_true rfl) (Nat.le_of_ble_eq_true rfl) (Nat.le_of_ble_eq_true rfl) (Nat.le_of_ble_eq_true rfl) ?_
        refine e_if_eq aX8_sale_46 (fun c46 => ?_) (fun c46 => ?_)
        · -- 46: taken
          have q46 := b2_0.mp c46
          obtain ⟨pz, hpz, rfl⟩ := ou_of 12 (by decide) q46
          refine e_iload_n aX8_sale_55 rfl ?_
          refine e_if_eq aX8_sale_56 (fun c56 => ?_) (fun c56 => ?_)
          · -- 56: taken
            have q56 : x = 0 := c56
            subst q56
            refine e_aload_n aX8_sale_77 rfl ?_
            refine e_new aX8_sale_78 nX8_40 (Nat.le_of_ble_eq_true rfl) (Nat.le_of_ble_eq_true rfl) ?_
            refine e_dup aX8_sale_81 rfl ?_
            refine e_iload_n aX8_sale_82 rfl ?_
            refine e_iload_n aX8_sale_83 rfl ?_
            refine e_iload_n aX8_sale_84 rfl ?_
            refine e_iload aX8_sale_85 rfl ?_
            refine e_iconst (v := -1) aX8_sale_87 (by decide) ?_
            refine e_iload_n aX8_sale_88 rfl ?_
            refine e_if_ne aX8_sale_89 (fun c89 => ?_) (fun c89 => ?_)
            · -- 89: taken
              exact absurd rfl c89
            · -- 89: not taken
              have wf : dWf (dNo 0 az bz pz none 0) := dNo_1 (Or.inl rfl) haz hbz habz hpz (by decide) ⟨fun _ => rfl, fun _ => rfl⟩
              have G1 : Gb h (dlH (nw h 2 0) (hZ h) 0 (nI az) (nI bz) (nI pz) (-1) 0 none) := dlH_G
              have kd : DealC (dlH (nw h 2 0) (hZ h) 0 (nI az) (nI bz) (nI pz) (-1) 0 none) (hZ h) (dNo 0 az bz pz none 0) := dlH_C (k := 0) (m := 0) (q := none) F wf
              refine e_iconst (v := 0) aX8_sale_92 (by decide) ?_
              refine e_goto aX8_sale_93 ?_
              refine e_aconst_null aX8_sale_98 ?_
              skip
              refine e_invi aX8_sale_99 kX8_94 (zX1_init X (h := nw h 2 0) (z := hZ h) (is_ns h32) _ _ _ _ _ _ _) rfl rfl (Nat.le_of_ble_eq_true rfl) (Nat.le_of_ble_eq_true rfl) (Nat.le_of_ble_eq_true rfl) (Nat.le_of_ble_eq_true rfl) (Nat.le_of_ble_eq_true rfl) ?_
              rintro v h2 ⟨rfl, rfl⟩
              have bf1 := G1.bf F bf
              have b1 := G1.bd F b
              have F := G1.F F
              refine e_invvT aX8_sale_102 kX8_97 (zX8_enter X F bf1 b1 kd) rfl rfl (fx_is F rfl) (Nat.le_of_ble_eq_true rfl) (Nat.le_of_ble_eq_true rfl) (Nat.le_of_ble_eq_true rfl) (Nat.le_of_ble_eq_true rfl) (Nat.le_of_ble_eq_true rfl) ?_
              refine e_retE aX8_sale_105 rfl (Nat.le_of_ble_eq_true rfl) (Nat.le_of_ble_eq_true rfl) ?_
              rw [if_pos q28, if_neg q36, if_neg q46, if_pos rfl, cl (n := az) (by omega), cl (n := bz) (by omega), cl (n := pz) (by omega)]
              exact ⟨rfl, rfl⟩
          · -- 56: not taken
            have q56 : ¬ x = 0 := c56
            refine e_iload aX8_sale_59 rfl ?_
            refine e_iconst (v := 1) aX8_sale_61 (by decide) ?_
            refine e_icmp_lt aX8_sale_62 (fun c62 => ?_) (fun c62 => ?_)
            · -- 62: taken
              have q62 : q < 1 := c62
              refine e_aload_n aX8_sale_71 rfl ?_
              refine e_iconst (v := 0) aX8_sale_72 (by decide) ?_
              refine e_invvT aX8_sale_73 kX8_62 (zfin X (k := 0) F (by decide)) rfl rfl (fx_is F rfl) (Nat.le_of_ble_eq_true rfl) (Nat.le_of_ble_eq_true rfl) (Nat.le_of_ble_eq_true rfl) (Nat.le_of_ble_eq_true rfl) (Nat.le_of_ble_eq_true rfl) ?_
              refine e_ireturn aX8_sale_76 rfl (Nat.le_of_ble_eq_true rfl) (Nat.le_of_ble_eq_true rfl) ?_
              rw [if_pos q28, if_neg q36, if_neg q46, if_neg q56, if_pos q62]
              exact ⟨rfl, rfl⟩
            · -- 62: not taken
              have q62 : ¬ q < 1 := c62
              refine e_iload aX8_sale_65 rfl ?_
              refine e_iconst (v := 2) aX8_sale_67 (by decide) ?_
              refine e_icmp_le aX8_sale_68 (fun c68 => ?_) (fun c68 => ?_)
              · -- 68: taken
                have q68 : q ≤ 2 := c68
                obtain ⟨kz, hkz, rfl⟩ := slK_of q28
                obtain ⟨nz, hnz, rfl⟩ := ou_of 3 (by decide) (v := q) (fun z => z.elim (fun z => q62 (Int32.lt_trans z (by decide))) (fun z => absurd (Int32.le_trans z q68) (by decide)))
                have hn1 : 1 ≤ nz := by
                  rcases Nat.eq_zero_or_pos nz with z | z
                  · subst z; exact absurd (by decide) q62
                  · exact z
                refine e_aload_n aX8_sale_77 rfl ?_
                refine e_new aX8_sale_78 nX8_40 (Nat.le_of_ble_eq_true rfl) (Nat.le_of_ble_eq_true rfl) ?_
                refine e_dup aX8_sale_81 rfl ?_
                refine e_iload_n aX8_sale_82 rfl ?_
                refine e_iload_n aX8_sale_83 rfl ?_
                refine e_iload_n aX8_sale_84 rfl ?_
                refine e_iload aX8_sale_85 rfl ?_
                refine e_iconst (v := -1) aX8_sale_87 (by decide) ?_
                refine e_iload_n aX8_sale_88 rfl ?_
                refine e_if_ne aX8_sale_89 (fun c89 => ?_) (fun c89 => ?_)
                · -- 89: taken
                  have wf : dWf (dNo kz az bz pz none nz) := dNo_1 hkz haz hbz habz hpz (by omega) ⟨fun e => absurd (by rw [e]; rfl) q56, fun e => by omega⟩
                  have G1 : Gb h (dlH (nw h 2 0) (hZ h) (nI kz) (nI az) (nI bz) (nI pz) (-1) (nI nz) none) := dlH_G
                  have kd : DealC (dlH (nw h 2 0) (hZ h) (nI kz) (nI az) (nI bz) (nI pz) (-1) (nI nz) none) (hZ h) (dNo kz az bz pz none nz) := dlH_C (q := none) F wf
                  refine e_iload aX8_sale_96 rfl ?_
                  refine e_aconst_null aX8_sale_98 ?_
                  skip
                  refine e_invi aX8_sale_99 kX8_94 (zX1_init X (h := nw h 2 0) (z := hZ h) (is_ns h32) _ _ _ _ _ _ _) rfl rfl (Nat.le_of_ble_eq_true rfl) (Nat.le_of_ble_eq_true rfl) (Nat.le_of_ble_eq_true rfl) (Nat.le_of_ble_eq_true rfl) (Nat.le_of_ble_eq_true rfl) ?_
                  rintro v h2 ⟨rfl, rfl⟩
                  have bf1 := G1.bf F bf
                  have b1 := G1.bd F b
                  have F := G1.F F
                  refine e_invvT aX8_sale_102 kX8_97 (zX8_enter X F bf1 b1 kd) rfl rfl (fx_is F rfl) (Nat.le_of_ble_eq_true rfl) (Nat.le_of_ble_eq_true rfl) (Nat.le_of_ble_eq_true rfl) (Nat.le_of_ble_eq_true rfl) (Nat.le_of_ble_eq_true rfl) ?_
                  refine e_retE aX8_sale_105 rfl (Nat.le_of_ble_eq_true rfl) (Nat.le_of_ble_eq_true rfl) ?_
                  rw [if_pos q28, if_neg q36, if_neg q46, if_neg q56, if_neg q62, if_pos q68, cl (n := kz) (by omega), cl (n := az) (by omega), cl (n := bz) (by omega), cl (n := pz) (by omega), cl (n := nz) (by omega)]
                  exact ⟨rfl, rfl⟩
                · -- 89: not taken
                  exact absurd c89 q56
              · -- 68: not taken
                have q68 : ¬ q ≤ 2 := c68
                refine e_aload_n aX8_sale_71 rfl ?_
                refine e_iconst (v := 0) aX8_sale_72 (by decide) ?_
                refine e_invvT aX8_sale_73 kX8_62 (zfin X (k := 0) F (by decide)) rfl rfl (fx_is F rfl) (Nat.le_of_ble_eq_true rfl) (Nat.le_of_ble_eq_true rfl) (Nat.le_of_ble_eq_true rfl) (Nat.le_of_ble_eq_true rfl) (Nat.le_of_ble_eq_true rfl) ?_
                refine e_ireturn aX8_sale_76 rfl (Nat.le_of_ble_eq_true rfl) (Nat.le_of_ble_eq_true rfl) ?_
                rw [if_pos q28, if_neg q36, if_neg q46, if_neg q56, if_neg q62, if_neg q68]
                exact ⟨rfl, rfl⟩
        · -- 46: not taken
          have q46 := Decidable.of_not_not (fun z => c46 (b2_0.mpr z))
          refine e_aload_n aX8_sale_49 rfl ?_
          refine e_iconst (v := 0) aX8_sale_50 (by decide) ?_
          refine e_invvT aX8_sale_51 kX8_62 (zfin X (k := 0) F (by decide)) rfl rfl (fx_is F rfl) (Nat.le_of_ble_eq_true rfl) (Nat.le_of_ble_eq_true rfl) (Nat.le_of_ble_eq_true rfl) (Nat.le_of_ble_eq_true rfl) (Nat.le_of_ble_eq_true rfl) ?_
          refine e_ireturn aX8_sale_54 rfl (Nat.le_of_ble_eq_true rfl) (Nat.le_of_ble_eq_true rfl) ?_
          rw [if_pos q28, if_neg q36, if_pos q46]
          exact ⟨rfl, rfl⟩
  refine e_iload_n aX8_sale_0 rfl ?_
  refine e_if_eq aX8_sale_1 (fun c1 => ?_) (fun c1 => ?_)
  · -- 1: taken
    refine e_iconst (v := 1) aX8_sale_19 (by decide) ?_
    refine e_goto aX8_sale_20 ?_
    refine e_istore aX8_sale_24 (Nat.le_of_ble_eq_true rfl) ?_
    refine e_ls (ls' := [(0, some (vR (some 32))), (1, some (vI x)), (2, some (vI y)), (3, some (vI t)), (4, some (vI p)), (5, some (vI q)), (6, some (vI (b2 (slK x))))]) ⟨rfl, rfl, rfl, rfl, rfl, rfl, congrArg (fun x => some (vI x)) ((b2_t (Or.inl c1)).symm), trivial⟩ ?_
    exact tail
  · -- 1: not taken
    refine e_iload_n aX8_sale_4 rfl ?_
    refine e_iconst (v := 1) aX8_sale_5 (by decide) ?_
    refine e_icmp_eq aX8_sale_6 (fun c6 => ?_) (fun c6 => ?_)
    · -- 6: taken
      refine e_iconst (v := 1) aX8_sale_19 (by decide) ?_
      refine e_goto aX8_sale_20 ?_
      refine e_istore aX8_sale_24 (Nat.le_of_ble_eq_true rfl) ?_
      refine e_ls (ls' := [(0, some (vR (some 32))), (1, some (vI x)), (2, some (vI y)), (3, some (vI t)), (4, some (vI p)), (5, some (vI q)), (6, some (vI (b2 (slK x))))]) ⟨rfl, rfl, rfl, rfl, rfl, rfl, congrArg (fun x => some (vI x)) ((b2_t (Or.inr (Or.inl c6))).symm), trivial⟩ ?_
      exact tail
    · -- 6: not taken
      refine e_iload_n aX8_sale_9 rfl ?_
      refine e_iconst (v := 3) aX8_sale_10 (by decide) ?_
      refine e_icmp_eq aX8_sale_11 (fun c11 => ?_) (fun c11 => ?_)
      · -- 11: taken
        refine e_iconst (v := 1) aX8_sale_19 (by decide) ?_
        refine e_goto aX8_sale_20 ?_
        refine e_istore aX8_sale_24 (Nat.le_of_ble_eq_true rfl) ?_
        refine e_ls (ls' := [(0, some (vR (some 32))), (1, some (vI x)), (2, some (vI y)), (3, some (vI t)), (4, some (vI p)), (5, some (vI q)), (6, some (vI (b2 (slK x))))]) ⟨rfl, rfl, rfl, rfl, rfl, rfl, congrArg (fun x => some (vI x)) ((b2_t (Or.inr (Or.inr (Or.inl c11)))).symm), trivial⟩ ?_
        exact tail
      · -- 11: not taken
        refine e_iload_n aX8_sale_14 rfl ?_
        refine e_iconst (v := 4) aX8_sale_15 (by decide) ?_
        refine e_icmp_ne aX8_sale_16 (fun c16 => ?_) (fun c16 => ?_)
        · -- 16: taken
          refine e_iconst (v := 0) aX8_sale_23 (by decide) ?_
          refine e_istore aX8_sale_24 (Nat.le_of_ble_eq_true rfl) ?_
          refine e_ls (ls' := [(0, some (vR (some 32))), (1, some (vI x)), (2, some (vI y)), (3, some (vI t)), (4, some (vI p)), (5, some (vI q)), (6, some (vI (b2 (slK x))))]) ⟨rfl, rfl, rfl, rfl, rfl, rfl, congrArg (fun x => some (vI x)) ((b2_f (fun z => z.elim c1 (fun z => z.elim c6 (fun z => z.elim c11 c16)))).symm), trivial⟩ ?_
          exact tail
        · -- 16: not taken
          refine e_iconst (v := 1) aX8_sale_19 (by decide) ?_
          refine e_goto aX8_sale_20 ?_
          refine e_istore aX8_sale_24 (Nat.le_of_ble_eq_true rfl) ?_
          refine e_ls (ls' := [(0, some (vR (some 32))), (1, some (vI x)), (2, some (vI y)), (3, some (vI t)), (4, some (vI p)), (5, some (vI q)), (6, some (vI (b2 (slK x))))]) ⟨rfl, rfl, rfl, rfl, rfl, rfl, congrArg (fun x => some (vI x)) ((b2_t (Or.inr (Or.inr (Or.inr c16)))).symm), trivial⟩ ?_
          exact tail
theorem zX8_swap (X : EX) {h : HP} (F : Fx h) {f n : Nat} {o : Nat → Nat} {A : Nat → Nat} {D : Nat → DD} (bf : BkF h f o) (b : BkD h n A D) (x y p q m : Int32) : Ct X mX8_swap 7 1 7 [vR (some 32), vI x, vI y, vI p, vI q, vI m] h (if (x < 0 ∨ 3 ≤ x) ∨ (y < 0 ∨ 3 ≤ y) ∨ x = y then RF h 0 else if p < 0 ∨ 12 ≤ p then RF h 0 else if q < 0 ∨ 12 ≤ q then RF h 0 else if p.toNatClampNeg = q.toNatClampNeg then RF h 0 else if p.toNatClampNeg / 3 = q.toNatClampNeg / 3 then (if m < 0 then RF h 0 else if m ≤ 2 then entR h D n f o (if m.toNatClampNeg = 0 then 2 else 5) x y p q m (dNo (if m.toNatClampNeg = 0 then 2 else 5) x.toNatClampNeg y.toNatClampNeg p.toNatClampNeg (some q.toNatClampNeg) m.toNatClampNeg) else RF h 0) else RF h 0) := by
  refine ct_of rfl (Nat.le_of_ble_eq_true rfl) ?_
  have h32 : 32 ≤ hZ h := by have : 116 ≤ hZ h := F.1; omega
  refine e_iload_n aX8_swap_0 rfl ?_
  refine e_iload_n aX8_swap_1 rfl ?_
  refine e_invsT aX8_swap_2 kX8_91 (zX8_areNoPair X _ _) rfl rfl (Nat.le_of_ble_eq_true rfl) (Nat.le_of_ble_eq_true rfl) (Nat.le_of_ble_eq_true rfl) (Nat.le_of_ble_eq_true rfl) (Nat.le_of_ble_eq_true rfl) ?_
  refine e_if_ne aX8_swap_5 (fun c5 => ?_) (fun c5 => ?_)
  · -- 5: taken
    have q5 := Decidable.of_not_not (fun z => c5 (b2_0.mpr z))
    refine e_aload_n aX8_swap_27 rfl ?_
    refine e_iconst (v := 0) aX8_swap_28 (by decide) ?_
    refine e_invvT aX8_swap_29 kX8_62 (zfin X (k := 0) F (by decide)) rfl rfl (fx_is F rfl) (Nat.le_of_ble_eq_true rfl) (Nat.le_of_ble_eq_true rfl) (Nat.le_of_ble_eq_true rfl) (Nat.le_of_ble_eq_true rfl) (Nat.le_of_ble_eq_true rfl) ?_
    refine e_ireturn aX8_swap_32 rfl (Nat.le_of_ble_eq_true rfl) (Nat.le_of_ble_eq_true rfl) ?_
    rw [if_pos q5]
    exact ⟨rfl, rfl⟩
  · -- 5: not taken
    have q5 := b2_0.mp c5
    obtain ⟨az, bz, haz, hbz, habz, rfl, rfl⟩ := np_of q5
    refine e_iload_n aX8_swap_8 rfl ?_
    refine e_bipush (v := 12) aX8_swap_9 (by decide) ?_
    refine e_invsT aX8_swap_11 kX8_58 (zX8_isOutside X _ _) rfl rfl (Nat.le_of_ble_eq_true rfl) (Nat.le_of_ble_eq_true rfl) (Nat.le_of_ble_eq_true rfl) (Nat.le_of_ble_eq_true rfl) (Nat.le_of_ble_eq_true rfl) ?_
    refine e_if_ne aX8_swap_14 (fun c14 => ?_) (fun c14 => ?_)
    · -- 14: taken
      have q14 := Decidable.of_not_not (fun z => c14 (b2_0.mpr z))
      refine e_aload_n aX8_swap_27 rfl ?_
      refine e_iconst (v := 0) aX8_swap_28 (by decide) ?_
      refine e_invvT aX8_swap_29 kX8_62 (zfin X (k := 0) F (by decide)) rfl rfl (fx_is F rfl) (Nat.le_of_ble_eq_true rfl) (Nat.le_of_ble_eq_true rfl) (Nat.le_of_ble_eq_true rfl) (Nat.le_of_ble_eq_true rfl) (Nat.le_of_ble_eq_true rfl) ?_
      refine e_ireturn aX8_swap_32 rfl (Nat.le_of_ble_eq_true rfl) (Nat.le_of_ble_eq_true rfl) ?_
      rw [if_neg q5, if_pos q14]
      exact ⟨rfl, rfl⟩
    · -- 14: not taken
      have q14 := b2_0.mp c14
      obtain ⟨pz, hpz, rfl⟩ := ou_of 12 (by decide) q14
      refine e_iload aX8_swap_17 rfl ?_
      refine e_bipush (v := 12) aX8_swap_19 (by decide) ?_
      refine e_invsT aX8_swap_21 kX8_58 (zX8_isOutside X _ _) rfl rfl (Nat.le_of_ble_eq_true rfl) (Nat.le_of_ble_eq_true rfl) (Nat.le_of_ble_eq_true rfl) (Nat.le_of_ble_eq_true rfl) (Nat.le_of_ble_eq_true rfl) ?_
      refine e_if_eq aX8_swap_24 (fun c24 => ?_) (fun c24 => ?_)
      · -- 24: taken
        have q24 := b2_0.mp c24
        obtain ⟨qz, hqz, rfl⟩ := ou_of 12 (by decide) q24
        refine e_iload_n aX8_swap_33 rfl ?_
        refine e_iload aX8_swap_34 rfl ?_
        refine e_icmp_eq aX8_swap_36 (fun c36 => ?_) (fun c36 => ?_)
        · -- 36: taken
          have q36 : pz = qz := (nI_eq (by omega) (by omega)).mp c36
          refine e_aload_n aX8_swap_60 rfl ?_
          refine e_iconst (v := 0) aX8_swap_61 (by decide) ?_
          refine e_invvT aX8_swap_62 kX8_62 (zfin X (k := 0) F (by decide)) rfl rfl (fx_is F rfl) (Nat.le_of_ble_eq_true rfl) (Nat.le_of_ble_eq_true rfl) (Nat.le_of_ble_eq_true rfl) (Nat.le_of_ble_eq_true rfl) (Nat.le_of_ble_eq_true rfl) ?_
          refine e_ireturn aX8_swap_65 rfl (Nat.le_of_ble_eq_true rfl) (Nat.le_of_ble_eq_true rfl) ?_
          rw [if_neg q5, if_neg q14, if_neg q24, cl (n := pz) (by omega), cl (n := qz) (by omega), if_pos q36]
          exact ⟨rfl, rfl⟩
        · -- 36: not taken
          have q36 : ¬ pz = qz := fun z => c36 (by rw [z])
          refine e_iload_n aX8_swap_39 rfl ?_
          refine e_iconst (v := 3) aX8_swap_40 (by decide) ?_
          refine e_idiv aX8_swap_41 (by decide) ?_
          refine e_top (nI_div (a := pz) (b := 3) (by omega) (by decide) (by decide)) ?_
          refine e_iload aX8_swap_42 rfl ?_
          refine e_iconst (v := 3) aX8_swap_44 (by decide) ?_
          refine e_idiv aX8_swap_45 (by decide) ?_
          refine e_top (nI_div (a := qz) (b := 3) (by omega) (by decide) (by decide)) ?_
          refine e_icmp_ne aX8_swap_46 (fun c46 => ?_) (fun c46 => ?_)
          · -- 46: taken
            have q46 : ¬ pz / 3 = qz / 3 := fun z => c46 (by rw [z])
            refine e_aload_n aX8_swap_60 rfl ?_
            refine e_iconst (v := 0) aX8_swap_61 (by decide) ?_
            refine e_invvT aX8_swap_62 kX8_62 (zfin X (k := 0) F (by decide)) rfl rfl (fx_is F rfl) (Nat.le_of_ble_eq_true rfl) (Nat.le_of_ble_eq_true rfl) (Nat.le_of_ble_eq_true rfl) (Nat.le_of_ble_eq_true rfl) (Nat.le_of_ble_eq_true rfl) ?_
            refine e_ireturn aX8_swap_65 rfl (Nat.le_of_ble_eq_true rfl) (Nat.le_of_ble_eq_true rfl) ?_
            rw [if_neg q5, if_neg q14, if_neg q24, cl (n := pz) (by omega), cl (n := qz) (by omega), if_neg q36, if_neg q46]
            exact ⟨rfl, rfl⟩
          · -- 46: not taken
            have q46 : pz / 3 = qz / 3 := (nI_eq (by omega) (by omega)).mp c46
            refine e_iload aX8_swap_49 rfl ?_
            refine e_if_lt aX8_swap_51 (fun c51 => ?_) (fun c51 => ?_)
            · -- 51: taken
              have q51 : m < 0 := c51
              refine e_aload_n aX8_swap_60 rfl ?_
              refine e_iconst (v := 0) aX8_swap_61 (by decide) ?_
              refine e_invvT aX8_swap_62 kX8_62 (zfin X (k := 0) F (by decide)) rfl rfl (fx_is F rfl) (Nat.le_of_ble_eq_true rfl) (Nat.le_of_ble_eq_true rfl) (Nat.le_of_ble_eq_true rfl) (Nat.le_of_ble_eq_true rfl) (Nat.le_of_ble_eq_true rfl) ?_
              refine e_ireturn aX8_swap_65 rfl (Nat.le_of_ble_eq_true rfl) (Nat.le_of_ble_eq_true rfl) ?_
              rw [if_neg q5, if_neg q14, if_neg q24, cl (n := pz) (by omega), cl (n := qz) (by omega), if_neg q36, if_pos q46, if_pos q51]
              exact ⟨rfl, rfl⟩
            · -- 51: not taken
              have q51 : ¬ m < 0 := c51
              refine e_iload aX8_swap_54 rfl ?_
              refine e_iconst (v := 2) aX8_swap_56 (by decide) ?_
              refine e_icmp_le aX8_swap_57 (fun c57 => ?_) (fun c57 => ?_)
              · -- 57: taken
                have q57 : m ≤ 2 := c57
                obtain ⟨mz, hmz, rfl⟩ := ou_of 3 (by decide) (v := m) (fun z => z.elim q51 (fun z => absurd (Int32.le_trans z q57) (by decide)))
                have wf : dWf (dNo (if mz = 0 then 2 else 5) az bz pz (some qz) mz) := dNo_2 haz hbz habz hpz hqz q36 q46 (by omega)
                have hkk : nI (if mz = 0 then 2 else 5) = if mz = 0 then 2 else 5 := by split <;> rfl
                have G1 : Gb h (dlH (nw h 2 0) (hZ h) (nI (if mz = 0 then 2 else 5)) (nI az) (nI bz) (nI pz) (nI qz) (nI mz) none) := dlH_G
                have kd : DealC (dlH (nw h 2 0) (hZ h) (nI (if mz = 0 then 2 else 5)) (nI az) (nI bz) (nI pz) (nI qz) (nI mz) none) (hZ h) (dNo (if mz = 0 then 2 else 5) az bz pz (some qz) mz) := dlH_C (q := some qz) F wf
                rw [hkk] at G1 kd
                refine e_aload_n aX8_swap_66 rfl ?_
                refine e_new aX8_swap_67 nX8_40 (Nat.le_of_ble_eq_true rfl) (Nat.le_of_ble_eq_true rfl) ?_
                refine e_dup aX8_swap_70 rfl ?_
                refine e_iload aX8_swap_71 rfl ?_
                refine e_if_ne aX8_swap_73 (fun c73 => ?_) (fun c73 => ?_)
                · -- 73: taken
                  have q73 : ¬ mz = 0 := fun z => c73 (by rw [z]; rfl)
                  rw [if_neg q73] at G1 kd
                  refine e_iconst (v := 5) aX8_swap_80 (by decide) ?_
                  refine e_iload_n aX8_swap_81 rfl ?_
                  refine e_iload_n aX8_swap_82 rfl ?_
                  refine e_iload_n aX8_swap_83 rfl ?_
                  refine e_iload aX8_swap_84 rfl ?_
                  refine e_iload aX8_swap_86 rfl ?_
                  refine e_aconst_null aX8_swap_88 ?_
                  refine e_invi aX8_swap_89 kX8_94 (zX1_init X (h := nw h 2 0) (z := hZ h) (is_ns h32) _ _ _ _ _ _ _) rfl rfl (Nat.le_of_ble_eq_true rfl) (Nat.le_of_ble_eq_true rfl) (Nat.le_of_ble_eq_true rfl) (Nat.le_of_ble_eq_true rfl) (Nat.le_of_ble_eq_true rfl) ?_
                  rintro v h2 ⟨rfl, rfl⟩
                  have bf1 := G1.bf F bf
                  have b1 := G1.bd F b
                  have F := G1.F F
                  refine e_invvT aX8_swap_92 kX8_97 (zX8_enter X F bf1 b1 kd) rfl rfl (fx_is F rfl) (Nat.le_of_ble_eq_true rfl) (Nat.le_of_ble_eq_true rfl) (Nat.le_of_ble_eq_true rfl) (Nat.le_of_ble_eq_true rfl) (Nat.le_of_ble_eq_true rfl) ?_
                  refine e_retE aX8_swap_95 rfl (Nat.le_of_ble_eq_true rfl) (Nat.le_of_ble_eq_true rfl) ?_
                  rw [if_neg q5, if_neg q14, if_neg q24, cl (n := pz) (by omega), cl (n := qz) (by omega), if_neg q36, if_pos q46, if_neg q51, if_pos q57, cl (n := az) (by omega), cl (n := bz) (by omega), cl (n := mz) (by omega)]
                  unfold entR
                  rw [if_neg q73, if_neg q73]
                  exact ⟨rfl, rfl⟩
                · -- 73: not taken
                  have q73 : mz = 0 := (nI_eq (b := 0) (by omega) (by decide)).mp c73
                  rw [if_pos q73] at G1 kd
                  refine e_iconst (v := 2) aX8_swap_76 (by decide) ?_
                  refine e_goto aX8_swap_77 ?_
                  refine e_iload_n aX8_swap_81 rfl ?_
                  refine e_iload_n aX8_swap_82 rfl ?_
                  refine e_iload_n aX8_swap_83 rfl ?_
                  refine e_iload aX8_swap_84 rfl ?_
                  refine e_iload aX8_swap_86 rfl ?_
                  refine e_aconst_null aX8_swap_88 ?_
                  refine e_invi aX8_swap_89 kX8_94 (zX1_init X (h := nw h 2 0) (z := hZ h) (is_ns h32) _ _ _ _ _ _ _) rfl rfl (Nat.le_of_ble_eq_true rfl) (Nat.le_of_ble_eq_true rfl) (Nat.le_of_ble_eq_true rfl) (Nat.le_of_ble_eq_true rfl) (Nat.le_of_ble_eq_true rfl) ?_
                  rintro v h2 ⟨rfl, rfl⟩
                  have bf1 := G1.bf F bf
                  have b1 := G1.bd F b
                  have F := G1.F F
                  refine e_invvT aX8_swap_92 kX8_97 (zX8_enter X F bf1 b1 kd) rfl rfl (fx_is F rfl) (Nat.le_of_ble_eq_true rfl) (Nat.le_of_ble_eq_true rfl) (Nat.le_of_ble_eq_true rfl) (Nat.le_of_ble_eq_true rfl) (Nat.le_of_ble_eq_true rfl) ?_
                  refine e_retE aX8_swap_95 rfl (Nat.le_of_ble_eq_true rfl) (Nat.le_of_ble_eq_true rfl) ?_
                  rw [if_neg q5, if_neg q14, if_neg q24, cl (n := pz) (by omega), cl (n := qz) (by omega), if_neg q36, if_pos q46, if_neg q51, if_pos q57, cl (n := az) (by omega), cl (n := bz) (by omega), cl (n := mz) (by omega)]
                  unfold entR
                  rw [if_pos q73, if_pos q73]
                  exact ⟨rfl, rfl⟩
              · -- 57: not taken
                have q57 : ¬ m ≤ 2 := c57
                refine e_aload_n aX8_swap_60 rfl ?_
                refine e_iconst (v := 0) aX8_swap_61 (by decide) ?_
                refine e_invvT aX8_swap_62 kX8_62 (zfin X (k := 0) F (by decide)) rfl rfl (fx_is F rfl) (Nat.le_of_ble_eq_true rfl) (Nat.le_of_ble_eq_true rfl) (Nat.le_of_ble_eq_true rfl) (Nat.le_of_ble_eq_true rfl) (Nat.le_of_ble_eq_true rfl) ?_
                refine e_ireturn aX8_swap_65 rfl (Nat.le_of_ble_eq_true rfl) (Nat.le_of_ble_eq_true rfl) ?_
                rw [if_neg q5, if_neg q14, if_neg q24, cl (n := pz) (by omega), cl (n := qz) (by omega), if_neg q36, if_pos q46, if_neg q51, if_neg q57]
                exact ⟨rfl, rfl⟩
      · -- 24: not taken
        have q24 := Decidable.of_not_not (fun z => c24 (b2_0.mpr z))
        refine e_aload_n aX8_swap_27 rfl ?_
        refine e_iconst (v := 0) aX8_swap_28 (by decide) ?_
        refine e_invvT aX8_swap_29 kX8_62 (zfin X (k := 0) F (by decide)) rfl rfl (fx_is F rfl) (Nat.le_of_ble_eq_true rfl) (Nat.le_of_ble_eq_true rfl) (Nat.le_of_ble_eq_true rfl) (Nat.le_of_ble_eq_true rfl) (Nat.le_of_ble_eq_true rfl) ?_
        refine e_ireturn aX8_swap_32 rfl (Nat.le_of_ble_eq_true rfl) (Nat.le_of_ble_eq_true rfl) ?_
        rw [if_neg q5, if_neg q14, if_pos q24]
        exact ⟨rfl, rfl⟩
end
section
/-! constructors: small ones (written by wip/p45/g84.py) -/
/-- one more cell, its address told -/
def nwk (k : Nat) (h : HP) (t n : Nat) : HP := (fun b j => if b = k then 0 else hI h b j, fun b j => if b = k then 0 else hL h b j, fun b j => if b = k then none else hR h b j, fun b => if b = k then t else hT h b, fun b => if b = k then n else hN h b, k + 1)
theorem nwk_e {k : Nat} {h : HP} {t n : Nat} (e : hZ h = k) : nw h t n = nwk k h t n := by subst e; rfl
/-- the first fixed cells stand -/
def Pz (k : Nat) (h : HP) : Prop := hZ h = k ∧ ∀ a, 32 ≤ a → a < k → hT h a = T0 a ∧ hN h a = N0 a
theorem Pz.n {k : Nat} {h : HP} {t n : Nat} (P : Pz k h) (ht : T0 k = t) (hn : N0 k = n) : Pz (k + 1) (nwk k h t n) := ⟨rfl, fun a h1 h2 => by
  by_cases z : a = k
  · rw [z]
    exact ⟨(if_pos rfl).trans ht.symm, (if_pos rfl).trans hn.symm⟩
  · exact ⟨(if_neg z).trans (P.2 a h1 (by omega)).1, (if_neg z).trans (P.2 a h1 (by omega)).2⟩⟩
theorem Pz.i {k : Nat} {h : HP} (P : Pz k h) {b j : Nat} {v : Int32} : Pz k (wI h b j v) := P
theorem Pz.l {k : Nat} {h : HP} (P : Pz k h) {b j : Nat} {v : Int64} : Pz k (wL h b j v) := P
theorem Pz.r {k : Nat} {h : HP} (P : Pz k h) {b j : Nat} {v : Option Nat} : Pz k (wR h b j v) := P
theorem Pz.is9 {k a t : Nat} {h : HP} (P : Pz k h) (h1 : 32 ≤ a) (h2 : a < k) (h3 : T0 a = t) : Is h a t := ⟨h1, Nat.lt_of_lt_of_eq h2 P.1.symm, (P.2 a h1 h2).1.trans h3⟩
theorem Pz.n9 {k a n : Nat} {h : HP} (P : Pz k h) (h1 : 32 ≤ a) (h2 : a < k) (h3 : N0 a = n) : hN h a = n := (P.2 a h1 h2).2.trans h3
theorem pz_is {k : Nat} {h : HP} (P : Pz k h) {a t : Nat} (h1 : (Nat.ble 32 a && Nat.blt a k && Nat.beq (T0 a) t) = true) : Is h a t := by
  simp only [Bool.and_eq_true] at h1
  obtain ⟨⟨h1, h2⟩, h3⟩ := h1
  exact P.is9 (Nat.le_of_ble_eq_true h1) (Nat.le_of_ble_eq_true h2) (Nat.eq_of_beq_eq_true h3)
theorem pz_n {k : Nat} {h : HP} {n : Nat} (P : Pz k h) {a : Nat} (h1 : (Nat.ble 32 a && Nat.blt a k && Nat.beq (N0 a) n) = true) : hN h a = n := by
  simp only [Bool.and_eq_true] at h1
  obtain ⟨⟨h1, h2⟩, h3⟩ := h1
  exact P.n9 (Nat.le_of_ble_eq_true h1) (Nat.le_of_ble_eq_true h2) (Nat.eq_of_beq_eq_true h3)
theorem e_pz {X : EX} {y : MD} {d mc ms : Nat} {Q : Option VV → HP → Prop} {cells slots pc : Nat} {ls : ZL} {st : List VV} {h : HP} {k : Nat} (P : Pz k h) (g : Pz k h → Ev X y d mc ms Q cells slots pc ls st h) : Ev X y d mc ms Q cells slots pc ls st h := g P
/-- a new Book -/
def bk0 (h : HP) (r : Nat) : HP := wI (wR (wI (wI (wI (nwk (r + 3) (wR (nwk (r + 2) (wR (nwk (r + 1) h 17 12) r 0 (some (r + 1))) 13 4) r 2 (some (r + 2))) 13 3) (r + 3) 0 8) (r + 3) 1 4) (r + 3) 2 2) r 4 (some (r + 3))) r 5 1
theorem zX0_init (X : EX) {h : HP} {r : Nat} (P : Pz (r + 1) h) (h32 : 32 ≤ r) (ht : T0 r = 1 ∧ T0 (r + 1) = 17 ∧ N0 (r + 1) = 12 ∧ T0 (r + 2) = 13 ∧ N0 (r + 2) = 4 ∧ T0 (r + 3) = 13 ∧ N0 (r + 3) = 3) : Ct X mX0_init 1 3 19 [vR (some r)] h (Rv (bk0 h r)) := by
  refine ct_of rfl (Nat.le_of_ble_eq_true rfl) ?_
  refine e_aload_n aX0_init_0 rfl ?_
  refine e_objInit aX0_init_1 kX0_3 w_objI w_objC (Nat.le_of_ble_eq_true rfl) (Nat.le_of_ble_eq_true rfl) ?_
  refine e_aload_n aX0_init_4 rfl ?_
  refine e_bipush (v := 12) aX0_init_5 (by decide) ?_
  refine e_newR (t := 17) aX0_init_7 (Nat.le_of_ble_eq_true rfl) (Nat.le_of_ble_eq_true rfl) cX0_9 (by decide) rfl (Nat.le_of_ble_eq_true rfl) (Nat.le_of_ble_eq_true rfl) (Nat.le_of_ble_eq_true rfl) ?_
  refine e_topR (v := some (r + 1)) (congrArg some P.1) ?_
  refine e_hp (h2 := nwk (r + 1) _ 17 12) (nwk_e P.1) ?_
  refine e_pz (P.n ht.2.1 ht.2.2.1) ?_
  intro P
  refine e_putR aX0_init_10 fX0_11 rfl (P.is9 h32 (by omega) ht.1) (Or.inr ⟨rfl, fun r q => by cases q; rfl⟩) ?_
  refine e_pz P.r ?_
  intro P
  refine e_aload_n aX0_init_13 rfl ?_
  refine e_iconst (v := 4) aX0_init_14 (by decide) ?_
  refine e_newI aX0_init_15 wa_int (by decide) rfl (Nat.le_of_ble_eq_true rfl) (Nat.le_of_ble_eq_true rfl) (Nat.le_of_ble_eq_true rfl) ?_
  refine e_topR (v := some (r + 2)) (congrArg some P.1) ?_
  refine e_hp (h2 := nwk (r + 2) _ 13 4) (nwk_e P.1) ?_
  refine e_pz (P.n ht.2.2.2.1 ht.2.2.2.2.1) ?_
  intro P
  refine e_putR aX0_init_17 fX0_17 rfl (P.is9 h32 (by omega) ht.1) (Or.inr ⟨rfl, fun r q => by cases q; rfl⟩) ?_
  refine e_pz P.r ?_
  intro P
  refine e_aload_n aX0_init_20 rfl ?_
  refine e_iconst (v := 3) aX0_init_21 (by decide) ?_
  refine e_newI aX0_init_22 wa_int (by decide) rfl (Nat.le_of_ble_eq_true rfl) (Nat.le_of_ble_eq_true rfl) (Nat.le_of_ble_eq_true rfl) ?_
  refine e_topR (v := some (r + 3)) (congrArg some P.1) ?_
  refine e_hp (h2 := nwk (r + 3) _ 13 3) (nwk_e P.1) ?_
  refine e_pz (P.n ht.2.2.2.2.2.1 ht.2.2.2.2.2.2) ?_
  intro P
  refine e_dup aX0_init_24 rfl ?_
  refine e_iconst (v := 0) aX0_init_25 (by decide) ?_
  refine e_bipush (v := 8) aX0_init_26 (by decide) ?_
  refine e_iastoreF aX0_init_28 (P.is9 (by omega) (by omega) ht.2.2.2.2.2.1) (P.n9 (by omega) (by omega) ht.2.2.2.2.2.2) (vin (n := 0) (N := 3) (by decide)) ?_
  refine e_pz P.i ?_
  intro P
  refine e_dup aX0_init_29 rfl ?_
  refine e_iconst (v := 1) aX0_init_30 (by decide) ?_
  refine e_iconst (v := 4) aX0_init_31 (by decide) ?_
  refine e_iastoreF aX0_init_32 (P.is9 (by omega) (by omega) ht.2.2.2.2.2.1) (P.n9 (by omega) (by omega) ht.2.2.2.2.2.2) (vin (n := 1) (N := 3) (by decide)) ?_
  refine e_pz P.i ?_
  intro P
  refine e_dup aX0_init_33 rfl ?_
  refine e_iconst (v := 2) aX0_init_34 (by decide) ?_
  refine e_iconst (v := 2) aX0_init_35 (by decide) ?_
  refine e_iastoreF aX0_init_36 (P.is9 (by omega) (by omega) ht.2.2.2.2.2.1) (P.n9 (by omega) (by omega) ht.2.2.2.2.2.2) (vin (n := 2) (N := 3) (by decide)) ?_
  refine e_pz P.i ?_
  intro P
  refine e_putR aX0_init_37 fX0_21 rfl (P.is9 h32 (by omega) ht.1) (Or.inr ⟨rfl, fun r q => by cases q; rfl⟩) ?_
  refine e_pz P.r ?_
  intro P
  refine e_aload_n aX0_init_40 rfl ?_
  refine e_iconst (v := 1) aX0_init_41 (by decide) ?_
  refine e_putI aX0_init_42 fX0_24 rfl (P.is9 h32 (by omega) ht.1) (Or.inl rfl) ?_
  refine e_pz P.i ?_
  intro P
  refine e_return aX0_init_45 rfl (Nat.le_refl _) (Nat.le_refl _) ?_
  exact ⟨rfl, rfl⟩
theorem bk0_P {h : HP} {r : Nat} (P : Pz (r + 1) h) (ht : T0 r = 1 ∧ T0 (r + 1) = 17 ∧ N0 (r + 1) = 12 ∧ T0 (r + 2) = 13 ∧ N0 (r + 2) = 4 ∧ T0 (r + 3) = 13 ∧ N0 (r + 3) = 3) : Pz (r + 4) (bk0 h r) := ((P.n ht.2.1 ht.2.2.1).n ht.2.2.2.1 ht.2.2.2.2.1).n ht.2.2.2.2.2.1 ht.2.2.2.2.2.2
theorem zX2_init (X : EX) {h : HP} (P : Pz 39 h) : Ct X mX2_init 1 1 1296 [vR (some 38)] h (Rv (wR (nwk 39 h 13 1296) 38 0 (some 39))) := by
  refine ct_of rfl (Nat.le_of_ble_eq_true rfl) ?_
  refine e_aload_n aX2_init_0 rfl ?_
  refine e_objInit aX2_init_1 kX2_3 w_objI w_objC (Nat.le_of_ble_eq_true rfl) (Nat.le_of_ble_eq_true rfl) ?_
  refine e_aload_n aX2_init_4 rfl ?_
  refine e_sipush (v := 1296) aX2_init_5 (by decide) ?_
  refine e_newI aX2_init_8 wa_int (by decide) rfl (Nat.le_of_ble_eq_true rfl) (Nat.le_of_ble_eq_true rfl) (Nat.le_of_ble_eq_true rfl) ?_
  refine e_topR (v := some (39)) (congrArg some P.1) ?_
  refine e_hp (h2 := nwk (39) _ 13 1296) (nwk_e P.1) ?_
  refine e_pz (P.n rfl rfl) ?_
  intro P
  refine e_putR aX2_init_10 fX2_9 rfl (pz_is P rfl) (Or.inr ⟨rfl, fun r q => by cases q; rfl⟩) ?_
  refine e_pz P.r ?_
  intro P
  refine e_return aX2_init_13 rfl (Nat.le_refl _) (Nat.le_refl _) ?_
  exact ⟨rfl, rfl⟩
theorem zX7_init (X : EX) {h : HP} (P : Pz 42 h) : Ct X mX7_init 1 1 120 [vR (some 41)] h (Rv (wR (nwk 42 h 11 120) 41 0 (some 42))) := by
  refine ct_of rfl (Nat.le_of_ble_eq_true rfl) ?_
  refine e_aload_n aX7_init_0 rfl ?_
  refine e_objInit aX7_init_1 kX7_3 w_objI w_objC (Nat.le_of_ble_eq_true rfl) (Nat.le_of_ble_eq_true rfl) ?_
  refine e_aload_n aX7_init_4 rfl ?_
  refine e_bipush (v := 120) aX7_init_5 (by decide) ?_
  refine e_newB aX7_init_7 wa_byte (by decide) rfl (Nat.le_of_ble_eq_true rfl) (Nat.le_of_ble_eq_true rfl) (Nat.le_of_ble_eq_true rfl) ?_
  refine e_topR (v := some (42)) (congrArg some P.1) ?_
  refine e_hp (h2 := nwk (42) _ 11 120) (nwk_e P.1) ?_
  refine e_pz (P.n rfl rfl) ?_
  intro P
  refine e_putR aX7_init_9 fX7_9 rfl (pz_is P rfl) (Or.inr ⟨rfl, fun r q => by cases q; rfl⟩) ?_
  refine e_pz P.r ?_
  intro P
  refine e_return aX7_init_12 rfl (Nat.le_refl _) (Nat.le_refl _) ?_
  exact ⟨rfl, rfl⟩
theorem zX5_init (X : EX) {h : HP} {r : Nat} (P : Pz (r + 1) h) (h32 : 32 ≤ r) (ht : T0 r = 6 ∧ T0 (r + 1) = 14 ∧ N0 (r + 1) = 40) : Ct X mX5_init 1 1 40 [vR (some r)] h (Rv (wI (wR (nwk (r + 1) h 14 40) r 0 (some (r + 1))) r 1 (-1))) := by
  refine ct_of rfl (Nat.le_of_ble_eq_true rfl) ?_
  refine e_aload_n aX5_init_0 rfl ?_
  refine e_objInit aX5_init_1 kX5_3 w_objI w_objC (Nat.le_of_ble_eq_true rfl) (Nat.le_of_ble_eq_true rfl) ?_
  refine e_aload_n aX5_init_4 rfl ?_
  refine e_bipush (v := 40) aX5_init_5 (by decide) ?_
  refine e_newL aX5_init_7 wa_long (by decide) rfl (Nat.le_of_ble_eq_true rfl) (Nat.le_of_ble_eq_true rfl) (Nat.le_of_ble_eq_true rfl) ?_
  refine e_topR (v := some (r + 1)) (congrArg some P.1) ?_
  refine e_hp (h2 := nwk (r + 1) _ 14 40) (nwk_e P.1) ?_
  refine e_pz (P.n ht.2.1 ht.2.2) ?_
  intro P
  refine e_putR aX5_init_9 fX5_9 rfl (P.is9 h32 (by omega) ht.1) (Or.inr ⟨rfl, fun r q => by cases q; rfl⟩) ?_
  refine e_pz P.r ?_
  intro P
  refine e_aload_n aX5_init_12 rfl ?_
  refine e_iconst (v := -1) aX5_init_13 (by decide) ?_
  refine e_putI aX5_init_14 fX5_15 rfl (P.is9 h32 (by omega) ht.1) (Or.inl rfl) ?_
  refine e_pz P.i ?_
  intro P
  refine e_return aX5_init_17 rfl (Nat.le_refl _) (Nat.le_refl _) ?_
  exact ⟨rfl, rfl⟩
/-- the rows of sets -/
def spH (h : HP) : Nat → HP
  | 0 => h
  | k + 1 => wR (wR (nwk (46 + 2 * k) (nwk (45 + 2 * k) (spH h k) 7 0) 14 21) (45 + 2 * k) 0 (some (46 + 2 * k))) 44 k (some (45 + 2 * k))
theorem sp_T : ∀ k, k < 14 → (T0 (45 + 2 * k) = 7 ∧ N0 (45 + 2 * k) = 0) ∧ T0 (46 + 2 * k) = 14 ∧ N0 (46 + 2 * k) = 21 := by decide
theorem spH_P {h : HP} (P : Pz 45 h) : ∀ k, k ≤ 14 → Pz (45 + 2 * k) (spH h k) := by
  intro k
  induction k with
  | zero => exact fun _ => P
  | succ k ih =>
    intro hk
    have q := sp_T k (by omega)
    have h9 := (((ih (by omega)).n q.1.1 q.1.2).n (show T0 (45 + 2 * k + 1) = 14 by rw [show 45 + 2 * k + 1 = 46 + 2 * k by omega]; exact q.2.1) (show N0 (45 + 2 * k + 1) = 21 by rw [show 45 + 2 * k + 1 = 46 + 2 * k by omega]; exact q.2.2))
    rw [show 45 + 2 * k + 1 = 46 + 2 * k by omega] at h9
    rw [show 45 + 2 * (k + 1) = 46 + 2 * k + 1 by omega]
    exact h9
theorem spH_I {h : HP} {a i : Nat} (ha : a < 45) : ∀ k, hI (spH h k) a i = hI h a i := by
  intro k
  induction k with
  | zero => rfl
  | succ k ih => exact (if_neg (by omega)).trans ((if_neg (by omega)).trans ih)
theorem spH_R {h : HP} {a i : Nat} (ha : a < 44) : ∀ k, hR (spH h k) a i = hR h a i := by
  intro k
  induction k with
  | zero => rfl
  | succ k ih => exact (up2_a (by omega)).trans ((up2_a (by omega)).trans ((if_neg (by omega)).trans ((if_neg (by omega)).trans ih)))
/-- a new Reader -/
def rdI (h : HP) : HP := wR (nwk 44 (wR (nwk 43 (wR (wR (nwk 42 (nwk 41 h 8 0) 11 120) 41 0 (some 42)) 40 0 (some 41)) 17 12) 40 1 (some 43)) 19 14) 40 3 (some 44)
theorem rdI_P {h : HP} (P : Pz 41 h) : Pz 45 (rdI h) := (((P.n rfl rfl).n rfl rfl).n rfl rfl).n rfl rfl
theorem zX3_init (X : EX) {h : HP} (P0 : Pz 41 h) : Ct X mX3_init 2 32 458 [vR (some 40)] h (Rv (spH (rdI h) 14)) := by
  refine ct_of rfl (Nat.le_of_ble_eq_true rfl) ?_
  have loop : ∀ (m i : Nat), i + m = 14 → Ev X mX3_init 2 32 458 (Rv (spH (rdI h) 14)) (4 + 2 * i) (150 + 22 * i) 35 [(0, some (vR (some 40))), (1, some (vI (nI i)))] [] (spH (rdI h) i) := by
    intro m
    induction m with
    | zero =>
      intro i hk
      have P : Pz (45 + 2 * i) (spH (rdI h) i) := spH_P (rdI_P P0) i (by omega)
      have k44 : Is (spH (rdI h) i) 44 19 := P.is9 (by decide) (by omega) rfl
      have n44 : hN (spH (rdI h) i) 44 = 14 := P.n9 (by decide) (by omega) rfl
      have k40 : Is (spH (rdI h) i) 40 4 := P.is9 (by decide) (by omega) rfl
      refine e_iload_n aX3_init_35 rfl ?_
      refine e_aload_n aX3_init_36 rfl ?_
      refine e_getRF aX3_init_37 fX3_26 rfl k40 (show hR (spH (rdI h) i) 40 3 = some 44 from (spH_R (by decide) i).trans rfl) ?_
      refine e_alen (t := 19) aX3_init_40 k44 (Nat.le_of_ble_eq_true rfl) (Nat.le_of_ble_eq_true rfl) (by decide) ?_
      refine e_top (v := nI 14) (congrArg Int32.ofNat n44) ?_
      refine e_icmp_ge aX3_init_41 (fun c41 => ?_) (fun c41 => ?_)
      · -- 41: taken
        refine e_return aX3_init_63 rfl (by omega) (by omega) ?_
        obtain rfl : i = 14 := by omega
        exact ⟨rfl, rfl⟩
      · -- 41: not taken
        exact absurd (nI_le (a := 14) (b := i) (by omega) (by omega)) c41
    | succ m ih =>
      intro i hk
      have q := sp_T i (by omega)
      have P : Pz (45 + 2 * i) (spH (rdI h) i) := spH_P (rdI_P P0) i (by omega)
      have k44 : Is (spH (rdI h) i) 44 19 := P.is9 (by decide) (by omega) rfl
      have n44 : hN (spH (rdI h) i) 44 = 14 := P.n9 (by decide) (by omega) rfl
      have k40 : Is (spH (rdI h) i) 40 4 := P.is9 (by decide) (by omega) rfl
      refine e_iload_n aX3_init_35 rfl ?_
      refine e_aload_n aX3_init_36 rfl ?_
      refine e_getRF aX3_init_37 fX3_26 rfl k40 (show hR (spH (rdI h) i) 40 3 = some 44 from (spH_R (by decide) i).trans rfl) ?_
      refine e_alen (t := 19) aX3_init_40 k44 (Nat.le_of_ble_eq_true rfl) (Nat.le_of_ble_eq_true rfl) (by decide) ?_
      refine e_top (v := nI 14) (congrArg Int32.ofNat n44) ?_
      refine e_icmp_ge aX3_init_41 (fun c41 => ?_) (fun c41 => ?_)
      · -- 41: taken
        exact absurd c41 (nI_ge (a := i) (b := 14) (by omega) (by decide))
      · -- 41: not taken
        refine e_aload_n aX3_init_44 rfl ?_
        refine e_getRF aX3_init_45 fX3_26 rfl k40 (show hR (spH (rdI h) i) 40 3 = some 44 from (spH_R (by decide) i).trans rfl) ?_
        refine e_iload_n aX3_init_48 rfl ?_
        refine e_new aX3_init_49 nX3_24 (by omega) (show 150 + 22 * i + 1 ≤ 458 by omega) ?_
        refine e_topR (v := some (45 + 2 * i)) (congrArg some P.1) ?_
        refine e_hp (h2 := nwk (45 + 2 * i) _ 7 0) (nwk_e P.1) ?_
        refine e_pz (P.n q.1.1 q.1.2) ?_
        intro P
        refine e_dup aX3_init_52 rfl ?_
        refine e_inviN aX3_init_53 kX3_30 (zX6_init X (r := 45 + 2 * i) (P.is9 (by omega) (by omega) q.1.1) P.1) rfl rfl (Nat.le_of_ble_eq_true rfl) (Nat.le_of_ble_eq_true rfl) (by omega) (show 150 + 22 * i + 1 + 21 ≤ 458 by omega) (Nat.le_of_ble_eq_true rfl) ?_
        rintro v h2 ⟨rfl, rfl⟩
        refine e_hp (h2 := wR (nwk (46 + 2 * i) (nwk (45 + 2 * i) (spH (rdI h) i) 7 0) 14 21) (45 + 2 * i) 0 (some (46 + 2 * i))) (by rw [nwk_e (k := 46 + 2 * i) (P.1.trans (by omega)), show 45 + 2 * i + 1 = 46 + 2 * i by omega]) ?_
        have P2 := P.n (show T0 (45 + 2 * i + 1) = 14 by rw [show 45 + 2 * i + 1 = 46 + 2 * i by omega]; exact q.2.1) (show N0 (45 + 2 * i + 1) = 21 by rw [show 45 + 2 * i + 1 = 46 + 2 * i by omega]; exact q.2.2)
        rw [show 45 + 2 * i + 1 = 46 + 2 * i by omega] at P2
        refine e_pz (k := 46 + 2 * i + 1) P2.r ?_
        intro P
        refine e_aastoreF (t := 19) aX3_init_56 (P.is9 (by decide) (by omega) rfl) (by decide) (by decide) (P.is9 (by omega) (by omega) q.1.1) (P.n9 (by decide) (by omega) rfl) (vin (N := 14) (by omega)) ?_
        rw [cl (n := i) (by omega)]
        refine e_iinc aX3_init_57 rfl rfl (Nat.le_of_ble_eq_true rfl) ?_
        refine e_goto aX3_init_60 ?_
        refine e_ls (ls' := [(0, some (vR (some 40))), (1, some (vI (nI (i + 1))))]) ⟨rfl, congrArg (fun x => some (vI x)) (nI_1 i), trivial⟩ ?_
        exact ih (i + 1) (by omega)
  have P := P0
  refine e_aload_n aX3_init_0 rfl ?_
  refine e_objInit aX3_init_1 kX3_3 w_objI w_objC (Nat.le_of_ble_eq_true rfl) (Nat.le_of_ble_eq_true rfl) ?_
  refine e_aload_n aX3_init_4 rfl ?_
  refine e_new aX3_init_5 nX3_9 (Nat.le_of_ble_eq_true rfl) (Nat.le_of_ble_eq_true rfl) ?_
  refine e_topR (v := some (41)) (congrArg some P.1) ?_
  refine e_hp (h2 := nwk (41) _ 8 0) (nwk_e P.1) ?_
  refine e_pz (P.n rfl rfl) ?_
  intro P
  refine e_dup aX3_init_8 rfl ?_
  refine e_inviN aX3_init_9 kX3_11 (zX7_init X (h := nwk 41 h 8 0) P) rfl rfl (Nat.le_of_ble_eq_true rfl) (Nat.le_of_ble_eq_true rfl) (Nat.le_of_ble_eq_true rfl) (Nat.le_of_ble_eq_true rfl) (Nat.le_of_ble_eq_true rfl) ?_
  rintro v h2 ⟨rfl, rfl⟩
  refine e_pz (k := 43) (P.n rfl rfl).r ?_
  intro P
  refine e_putR aX3_init_12 fX3_12 rfl (pz_is P rfl) (Or.inr ⟨rfl, fun r q => by cases q; rfl⟩) ?_
  refine e_pz P.r ?_
  intro P
  refine e_aload_n aX3_init_15 rfl ?_
  refine e_bipush (v := 12) aX3_init_16 (by decide) ?_
  refine e_newR (t := 17) aX3_init_18 (Nat.le_of_ble_eq_true rfl) (Nat.le_of_ble_eq_true rfl) cX3_18 (by decide) rfl (Nat.le_of_ble_eq_true rfl) (Nat.le_of_ble_eq_true rfl) (Nat.le_of_ble_eq_true rfl) ?_
  refine e_topR (v := some (43)) (congrArg some P.1) ?_
  refine e_hp (h2 := nwk (43) _ 17 12) (nwk_e P.1) ?_
  refine e_pz (P.n rfl rfl) ?_
  intro P
  refine e_putR aX3_init_21 fX3_20 rfl (pz_is P rfl) (Or.inr ⟨rfl, fun r q => by cases q; rfl⟩) ?_
  refine e_pz P.r ?_
  intro P
  refine e_aload_n aX3_init_24 rfl ?_
  refine e_bipush (v := 14) aX3_init_25 (by decide) ?_
  refine e_newR (t := 19) aX3_init_27 (Nat.le_of_ble_eq_true rfl) (Nat.le_of_ble_eq_true rfl) cX3_24 (by decide) rfl (Nat.le_of_ble_eq_true rfl) (Nat.le_of_ble_eq_true rfl) (Nat.le_of_ble_eq_true rfl) ?_
  refine e_topR (v := some (44)) (congrArg some P.1) ?_
  refine e_hp (h2 := nwk (44) _ 19 14) (nwk_e P.1) ?_
  refine e_pz (P.n rfl rfl) ?_
  intro P
  refine e_putR aX3_init_30 fX3_26 rfl (pz_is P rfl) (Or.inr ⟨rfl, fun r q => by cases q; rfl⟩) ?_
  refine e_pz P.r ?_
  intro P
  refine e_iconst (v := 0) aX3_init_33 (by decide) ?_
  refine e_istore_n aX3_init_34 (Nat.le_of_ble_eq_true rfl) ?_
  refine e_ls (ls' := [(0, some (vR (some 40))), (1, some (vI (nI 0)))]) ⟨rfl, rfl, trivial⟩ ?_
  exact loop 14 0 rfl
end
section
/-! constructors: RolledPicks (written by wip/p45/g85.py) -/
theorem zstartP (X : EX) {h : HP} {k : Nat} (P : Pz k h) (hk40 : 40 ≤ k) (hr : hR h 38 0 = some 39) : Ct X mX2_startAll 0 0 0 [vR (some 38), vI (nI 0), vI (nI 1296)] h (Rv (rwR h (rng 0 1296 (fun _ _ => 9586980) (hI h 39)))) := by
  refine ct_of rfl (Nat.le_of_ble_eq_true rfl) ?_
  have loop : ∀ (m : Nat) (i : Nat), i + m = 1296 → Ev X mX2_startAll 0 0 0 (Rv (rwR h (rng 0 1296 (fun _ _ => 9586980) (hI h 39)))) 0 0 2 [(0, some (vR (some 38))), (1, some (vI (nI 0))), (2, some (vI (nI 1296))), (3, some (vI (nI i)))] [] (rwR h (rng 0 i (fun _ _ => 9586980) (hI h 39))) := by
    intro m
    induction m with
    | zero =>
      intro i hk
      have k38 : Is (rwR h (rng 0 i (fun _ _ => 9586980) (hI h 39))) 38 3 := P.is9 (by decide) (by omega) rfl
      have k39 : Is (rwR h (rng 0 i (fun _ _ => 9586980) (hI h 39))) 39 13 := P.is9 (by decide) (by omega) rfl
      have n39 : hN (rwR h (rng 0 i (fun _ _ => 9586980) (hI h 39))) 39 = 1296 := P.n9 (by decide) (by omega) rfl
      have r38 : hR (rwR h (rng 0 i (fun _ _ => 9586980) (hI h 39))) 38 0 = some 39 := hr
      refine e_iload_n aX2_startAll_2 rfl ?_
      refine e_iload_n aX2_startAll_3 rfl ?_
      refine e_icmp_ge aX2_startAll_4 (fun c4 => ?_) (fun c4 => ?_)
      · -- 4: taken
        refine e_return aX2_startAll_21 rfl (Nat.le_refl _) (Nat.le_refl _) ?_
        obtain rfl : i = 1296 := by omega
        exact ⟨rfl, rfl⟩
      · -- 4: not taken
        exact absurd (nI_le (a := 1296) (b := i) (by omega) (by omega)) c4
    | succ m ih =>
      intro i hk
      have k38 : Is (rwR h (rng 0 i (fun _ _ => 9586980) (hI h 39))) 38 3 := P.is9 (by decide) (by omega) rfl
      have k39 : Is (rwR h (rng 0 i (fun _ _ => 9586980) (hI h 39))) 39 13 := P.is9 (by decide) (by omega) rfl
      have n39 : hN (rwR h (rng 0 i (fun _ _ => 9586980) (hI h 39))) 39 = 1296 := P.n9 (by decide) (by omega) rfl
      have r38 : hR (rwR h (rng 0 i (fun _ _ => 9586980) (hI h 39))) 38 0 = some 39 := hr
      refine e_iload_n aX2_startAll_2 rfl ?_
      refine e_iload_n aX2_startAll_3 rfl ?_
      refine e_icmp_ge aX2_startAll_4 (fun c4 => ?_) (fun c4 => ?_)
      · -- 4: taken
        exact absurd c4 (nI_ge (a := i) (b := 1296) (by omega) (by decide))
      · -- 4: not taken
        refine e_aload_n aX2_startAll_7 rfl ?_
        refine e_getRF aX2_startAll_8 fX2_9 rfl k38 r38 ?_
        refine e_iload_n aX2_startAll_11 rfl ?_
        refine e_ldc aX2_startAll_12 lX2_15 ?_
        refine e_iastoreF aX2_startAll_14 k39 n39 (vin (N := 1296) (by omega)) ?_
        rw [cl (n := i) (by omega)]
        refine e_hp (h2 := (rwR h (rng 0 (i + 1) (fun _ _ => 9586980) (hI h 39)))) (rwR_w (rng_s (Nat.zero_le i) _ _)) ?_
        refine e_iinc aX2_startAll_15 rfl rfl (Nat.le_of_ble_eq_true rfl) ?_
        refine e_goto aX2_startAll_18 ?_
        refine e_ls (ls' := [(0, some (vR (some 38))), (1, some (vI (nI 0))), (2, some (vI (nI 1296))), (3, some (vI (nI (i + 1))))]) ⟨rfl, rfl, rfl, congrArg (fun x => some (vI x)) (nI_1 i), trivial⟩ ?_
        exact ih (i + 1) (by omega)
  refine e_iload_n aX2_startAll_0 rfl ?_
  refine e_istore_n aX2_startAll_1 (Nat.le_of_ble_eq_true rfl) ?_
  refine e_ls (ls' := [(0, some (vR (some 38))), (1, some (vI (nI 0))), (2, some (vI (nI 1296))), (3, some (vI (nI 0)))]) ⟨rfl, rfl, rfl, rfl, trivial⟩ ?_
  refine e_hp (h2 := rwR h (rng 0 0 (fun _ _ => 9586980) (hI h 39))) (rwR_0 (rng_0 _ _ _)) ?_
  exact loop 1296 0 rfl
/-- the pile's Books; the sheets -/
def plI (h : HP) : Nat → HP
  | 0 => h
  | k + 1 => wR (bk0 (nwk (77 + 4 * k) (plI h k) 1 0) (77 + 4 * k)) 37 k (some (77 + 4 * k))
def shI (h : HP) : Nat → HP
  | 0 => h
  | k + 1 => wR (wI (wR (nwk (102 + 2 * k) (nwk (101 + 2 * k) (shI h k) 6 0) 14 40) (101 + 2 * k) 0 (some (102 + 2 * k))) (101 + 2 * k) 1 (-1)) 73 k (some (101 + 2 * k))
theorem pl_T : ∀ k, k < 6 → N0 (77 + 4 * k) = 0 ∧ (T0 (77 + 4 * k) = 1 ∧ T0 (77 + 4 * k + 1) = 17 ∧ N0 (77 + 4 * k + 1) = 12 ∧ T0 (77 + 4 * k + 2) = 13 ∧ N0 (77 + 4 * k + 2) = 4 ∧ T0 (77 + 4 * k + 3) = 13 ∧ N0 (77 + 4 * k + 3) = 3) := by decide
theorem sh_T : ∀ k, k < 4 → N0 (101 + 2 * k) = 0 ∧ (T0 (101 + 2 * k) = 6 ∧ T0 (101 + 2 * k + 1) = 14 ∧ N0 (101 + 2 * k + 1) = 40) := by decide
theorem plI_P {h : HP} (P : Pz 77 h) : ∀ k, k ≤ 6 → Pz (77 + 4 * k) (plI h k) := by
  intro k
  induction k with
  | zero => exact fun _ => P
  | succ k ih =>
    intro hk
    have q := pl_T k (by omega)
    exact (bk0_P ((ih (by omega)).n q.2.1 q.1) q.2).r
theorem shI_P {h : HP} (P : Pz 101 h) : ∀ k, k ≤ 4 → Pz (101 + 2 * k) (shI h k) := by
  intro k
  induction k with
  | zero => exact fun _ => P
  | succ k ih =>
    intro hk
    have q := sh_T k (by omega)
    have h9 := (((ih (by omega)).n q.2.1 q.1).n q.2.2.1 q.2.2.2)
    rw [show 101 + 2 * k + 1 = 102 + 2 * k by omega] at h9
    rw [show 101 + 2 * (k + 1) = 102 + 2 * k + 1 by omega]
    exact h9
theorem bk0_R {h : HP} {r a i : Nat} (ha : a < r) : hR (bk0 h r) a i = hR h a i := (up2_a (by omega)).trans ((if_neg (by omega)).trans ((up2_a (by omega)).trans ((if_neg (by omega)).trans ((up2_a (by omega)).trans (if_neg (by omega))))))
theorem plI_R {h : HP} {a i : Nat} (ha : a < 77) (h7 : a ≠ 37) : ∀ k, hR (plI h k) a i = hR h a i := by
  intro k
  induction k with
  | zero => rfl
  | succ k ih => exact (up2_a h7).trans ((bk0_R (by omega)).trans ((if_neg (by omega)).trans ih))
theorem shI_R {h : HP} {a i : Nat} (ha : a < 101) (h7 : a ≠ 73) : ∀ k, hR (shI h k) a i = hR h a i := by
  intro k
  induction k with
  | zero => rfl
  | succ k ih => exact (up2_a h7).trans ((up2_a (by omega)).trans ((if_neg (by omega)).trans ((if_neg (by omega)).trans ih)))
def c1H (h : HP) : HP := wR (bk0 (nwk 33 h 1 0) 33) 32 0 (some 33)
def c2H (h : HP) : HP := wR (nwk 37 (c1H h) 16 6) 32 1 (some 37)
def c3H (h : HP) : HP := wR (wR (nwk 39 (nwk 38 (c2H h) 3 0) 13 1296) 38 0 (some 39)) 32 3 (some 38)
def c4H (h : HP) : HP := wR (spH (rdI (nwk 40 (c3H h) 4 0)) 14) 32 4 (some 40)
def c5H (h : HP) : HP := wR (nwk 74 (wR (nwk 73 (c4H h) 18 4) 32 5 (some 73)) 17 4) 32 6 (some 74)
def c6H (h : HP) : HP := wR (wI (wI (wI (nwk 75 (c5H h) 13 3) 75 0 (-1)) 75 1 (-1)) 75 2 (-1)) 32 7 (some 75)
def c7H (h : HP) : HP := wR (nwk 76 (c6H h) 13 8) 32 8 (some 76)
def c8H (h : HP) : HP := shI (plI (c7H h) 6) 4
def c9H (h : HP) : HP := rwR (c8H h) (rng 0 1296 (fun _ _ => 9586980) (hI (c8H h) 39))
theorem c4_P {h : HP} (P : Pz 33 h) : Pz 73 (c4H h) := by
  have P1 : Pz 37 (c1H h) := bk0_P (r := 33) (P.n rfl rfl) ⟨rfl, rfl, rfl, rfl, rfl, rfl, rfl⟩
  have P3 : Pz 40 (c3H h) := ((P1.n (t := 16) (n := 6) rfl rfl).n (t := 3) (n := 0) rfl rfl).n (t := 13) (n := 1296) rfl rfl
  exact spH_P (rdI_P (P3.n (t := 4) (n := 0) rfl rfl)) 14 (Nat.le_refl _)
theorem c7_P {h : HP} (P : Pz 33 h) : Pz 77 (c7H h) := ((((c4_P P).n (t := 18) (n := 4) rfl rfl).n (t := 17) (n := 4) rfl rfl).n (t := 13) (n := 3) rfl rfl).n (t := 13) (n := 8) rfl rfl
theorem c8_P {h : HP} (P : Pz 33 h) : Pz 109 (c8H h) := shI_P (plI_P (c7_P P) 6 (Nat.le_refl _)) 4 (Nat.le_refl _)
theorem zX8_init (X : EX) {h : HP} (P0 : Pz 33 h) : Ct X mX8_init 3 78 3200 [vR (some 32)] h (Rv (c9H h)) := by
  refine ct_of rfl (Nat.le_of_ble_eq_true rfl) ?_
  have lsh : ∀ (m i : Nat), i + m = 4 → Ev X mX8_init 3 78 3200 (Rv (c9H h)) (68 + 2 * i) (1959 + 43 * i) 118 [(0, some (vR (some 32))), (1, some (vI (nI i)))] [] (shI (plI (c7H h) 6) i) := by
    intro m
    induction m with
    | zero =>
      intro i hk
      have P : Pz (101 + 2 * i) (shI (plI (c7H h) 6) i) := shI_P (plI_P (c7_P P0) 6 (Nat.le_refl _)) i (by omega)
      have k32 : Is (shI (plI (c7H h) 6) i) 32 9 := P.is9 (by decide) (by omega) rfl
      have r73 : hR (shI (plI (c7H h) 6) i) 32 5 = some 73 := (shI_R (by decide) (by decide) i).trans ((plI_R (by decide) (by decide) 6).trans rfl)
      have r38 : hR (shI (plI (c7H h) 6) i) 32 3 = some 38 := (shI_R (by decide) (by decide) i).trans ((plI_R (by decide) (by decide) 6).trans rfl)
      refine e_iload_n aX8_init_118 rfl ?_
      refine e_iconst (v := 4) aX8_init_119 (by decide) ?_
      refine e_icmp_ge aX8_init_120 (fun c120 => ?_) (fun c120 => ?_)
      · -- 120: taken
        obtain rfl : i = 4 := by omega
        refine e_aload_n aX8_init_142 rfl ?_
        refine e_getRF aX8_init_143 fX8_23 rfl k32 r38 ?_
        refine e_iconst (v := 0) aX8_init_146 (by decide) ?_
        refine e_sipush (v := 1296) aX8_init_147 (by decide) ?_
        refine e_invvV aX8_init_150 kX8_54 (zstartP X P (by decide) ((shI_R (by decide) (by decide) 4).trans ((plI_R (by decide) (by decide) 6).trans rfl))) rfl rfl (P.is9 (by decide) (by decide) rfl) (Nat.le_of_ble_eq_true rfl) (Nat.le_of_ble_eq_true rfl) (by decide) (by decide) (Nat.le_of_ble_eq_true rfl) ?_
        refine e_return aX8_init_153 rfl (by omega) (by omega) ?_
        exact ⟨rfl, rfl⟩
      · -- 120: not taken
        exact absurd (nI_le (a := 4) (b := i) (by omega) (by omega)) c120
    | succ m ih =>
      intro i hk
      have q := sh_T i (by omega)
      have P : Pz (101 + 2 * i) (shI (plI (c7H h) 6) i) := shI_P (plI_P (c7_P P0) 6 (Nat.le_refl _)) i (by omega)
      have k32 : Is (shI (plI (c7H h) 6) i) 32 9 := P.is9 (by decide) (by omega) rfl
      have r73 : hR (shI (plI (c7H h) 6) i) 32 5 = some 73 := (shI_R (by decide) (by decide) i).trans ((plI_R (by decide) (by decide) 6).trans rfl)
      have r38 : hR (shI (plI (c7H h) 6) i) 32 3 = some 38 := (shI_R (by decide) (by decide) i).trans ((plI_R (by decide) (by decide) 6).trans rfl)
      refine e_iload_n aX8_init_118 rfl ?_
      refine e_iconst (v := 4) aX8_init_119 (by decide) ?_
      refine e_icmp_ge aX8_init_120 (fun c120 => ?_) (fun c120 => ?_)
      · -- 120: taken
        exact absurd c120 (nI_ge (a := i) (b := 4) (by omega) (by decide))
      · -- 120: not taken
        refine e_aload_n aX8_init_123 rfl ?_
        refine e_getRF aX8_init_124 fX8_36 rfl k32 r73 ?_
        refine e_iload_n aX8_init_127 rfl ?_
        refine e_new aX8_init_128 nX8_34 (by omega) (show 1959 + 43 * i + 3 ≤ 3200 by omega) ?_
        refine e_topR (v := some (101 + 2 * i)) (congrArg some P.1) ?_
        refine e_hp (h2 := nwk (101 + 2 * i) _ 6 0) (nwk_e P.1) ?_
        refine e_pz (P.n q.2.1 q.1) ?_
        intro P
        refine e_dup aX8_init_131 rfl ?_
        refine e_inviN aX8_init_132 kX8_53 (zX5_init X (r := 101 + 2 * i) P (by omega) q.2) rfl rfl (Nat.le_of_ble_eq_true rfl) (Nat.le_of_ble_eq_true rfl) (by omega) (show 1959 + 43 * i + 3 + 40 ≤ 3200 by omega) (Nat.le_of_ble_eq_true rfl) ?_
        rintro v h2 ⟨rfl, rfl⟩
        refine e_hp (h2 := wI (wR (nwk (102 + 2 * i) (nwk (101 + 2 * i) (shI (plI (c7H h) 6) i) 6 0) 14 40) (101 + 2 * i) 0 (some (102 + 2 * i))) (101 + 2 * i) 1 (-1)) (by rw [show 101 + 2 * i + 1 = 102 + 2 * i by omega]) ?_
        have P2 := P.n q.2.2.1 q.2.2.2
        rw [show 101 + 2 * i + 1 = 102 + 2 * i by omega] at P2
        refine e_pz (k := 102 + 2 * i + 1) P2.r.i ?_
        intro P
        refine e_aastoreF (t := 18) aX8_init_135 (P.is9 (by decide) (by omega) rfl) (by decide) (by decide) (P.is9 (by omega) (by omega) q.2.1) (P.n9 (by decide) (by omega) rfl) (vin (N := 4) (by omega)) ?_
        rw [cl (n := i) (by omega)]
        refine e_iinc aX8_init_136 rfl rfl (Nat.le_of_ble_eq_true rfl) ?_
        refine e_goto aX8_init_139 ?_
        refine e_ls (ls' := [(0, some (vR (some 32))), (1, some (vI (nI (i + 1))))]) ⟨rfl, congrArg (fun x => some (vI x)) (nI_1 i), trivial⟩ ?_
        exact ih (i + 1) (by omega)
  have lpl : ∀ (m i : Nat), i + m = 6 → Ev X mX8_init 3 78 3200 (Rv (c9H h)) (44 + 4 * i) (1809 + 25 * i) 91 [(0, some (vR (some 32))), (1, some (vI (nI i)))] [] (plI (c7H h) i) := by
    intro m
    induction m with
    | zero =>
      intro i hk
      have P : Pz (77 + 4 * i) (plI (c7H h) i) := plI_P (c7_P P0) i (by omega)
      have k32 : Is (plI (c7H h) i) 32 9 := P.is9 (by decide) (by omega) rfl
      have r37 : hR (plI (c7H h) i) 32 1 = some 37 := (plI_R (by decide) (by decide) i).trans rfl
      refine e_iload_n aX8_init_91 rfl ?_
      refine e_bipush (v := 6) aX8_init_92 (by decide) ?_
      refine e_icmp_ge aX8_init_94 (fun c94 => ?_) (fun c94 => ?_)
      · -- 94: taken
        refine e_iconst (v := 0) aX8_init_116 (by decide) ?_
        refine e_istore_n aX8_init_117 (Nat.le_of_ble_eq_true rfl) ?_
        obtain rfl : i = 6 := by omega
        refine e_ls (ls' := [(0, some (vR (some 32))), (1, some (vI (nI 0)))]) ⟨rfl, rfl, trivial⟩ ?_
        exact lsh 4 0 rfl
      · -- 94: not taken
        exact absurd (nI_le (a := 6) (b := i) (by omega) (by omega)) c94
    | succ m ih =>
      intro i hk
      have q := pl_T i (by omega)
      have P : Pz (77 + 4 * i) (plI (c7H h) i) := plI_P (c7_P P0) i (by omega)
      have k32 : Is (plI (c7H h) i) 32 9 := P.is9 (by decide) (by omega) rfl
      have r37 : hR (plI (c7H h) i) 32 1 = some 37 := (plI_R (by decide) (by decide) i).trans rfl
      refine e_iload_n aX8_init_91 rfl ?_
      refine e_bipush (v := 6) aX8_init_92 (by decide) ?_
      refine e_icmp_ge aX8_init_94 (fun c94 => ?_) (fun c94 => ?_)
      · -- 94: taken
        exact absurd c94 (nI_ge (a := i) (b := 6) (by omega) (by decide))
      · -- 94: not taken
        refine e_aload_n aX8_init_97 rfl ?_
        refine e_getRF aX8_init_98 fX8_16 rfl k32 r37 ?_
        refine e_iload_n aX8_init_101 rfl ?_
        refine e_new aX8_init_102 nX8_7 (by omega) (show 1809 + 25 * i + 6 ≤ 3200 by omega) ?_
        refine e_topR (v := some (77 + 4 * i)) (congrArg some P.1) ?_
        refine e_hp (h2 := nwk (77 + 4 * i) _ 1 0) (nwk_e P.1) ?_
        refine e_pz (P.n q.2.1 q.1) ?_
        intro P
        refine e_dup aX8_init_105 rfl ?_
        refine e_inviN aX8_init_106 kX8_9 (zX0_init X (r := 77 + 4 * i) P (by omega) q.2) rfl rfl (Nat.le_of_ble_eq_true rfl) (Nat.le_of_ble_eq_true rfl) (by omega) (show 1809 + 25 * i + 6 + 19 ≤ 3200 by omega) (Nat.le_of_ble_eq_true rfl) ?_
        rintro v h2 ⟨rfl, rfl⟩
        refine e_pz (bk0_P P q.2) ?_
        intro P
        refine e_aastoreF (t := 16) aX8_init_109 (P.is9 (by decide) (by omega) rfl) (by decide) (by decide) (P.is9 (by omega) (by omega) q.2.1) (P.n9 (by decide) (by omega) rfl) (vin (N := 6) (by omega)) ?_
        rw [cl (n := i) (by omega)]
        refine e_iinc aX8_init_110 rfl rfl (Nat.le_of_ble_eq_true rfl) ?_
        refine e_goto aX8_init_113 ?_
        refine e_ls (ls' := [(0, some (vR (some 32))), (1, some (vI (nI (i + 1))))]) ⟨rfl, congrArg (fun x => some (vI x)) (nI_1 i), trivial⟩ ?_
        exact ih (i + 1) (by omega)
  have P := P0
  refine e_aload_n aX8_init_0 rfl ?_
  refine e_objInit aX8_init_1 kX8_1 w_objI w_objC (Nat.le_of_ble_eq_true rfl) (Nat.le_of_ble_eq_true rfl) ?_
  refine e_aload_n aX8_init_4 rfl ?_
  refine e_new aX8_init_5 nX8_7 (Nat.le_of_ble_eq_true rfl) (Nat.le_of_ble_eq_true rfl) ?_
  refine e_topR (v := some (33)) (congrArg some P.1) ?_
  refine e_hp (h2 := nwk (33) _ 1 0) (nwk_e P.1) ?_
  refine e_pz (P.n rfl rfl) ?_
  intro P
  refine e_dup aX8_init_8 rfl ?_
  refine e_inviN aX8_init_9 kX8_9 (zX0_init X (h := nwk 33 h 1 0) (r := 33) P (by decide) ⟨rfl, rfl, rfl, rfl, rfl, rfl, rfl⟩) rfl rfl (Nat.le_of_ble_eq_true rfl) (Nat.le_of_ble_eq_true rfl) (Nat.le_of_ble_eq_true rfl) (Nat.le_of_ble_eq_true rfl) (Nat.le_of_ble_eq_true rfl) ?_
  rintro v h2 ⟨rfl, rfl⟩
  refine e_pz (k := 37) (bk0_P (r := 33) P ⟨rfl, rfl, rfl, rfl, rfl, rfl, rfl⟩) ?_
  intro P
  refine e_putR aX8_init_12 fX8_10 rfl (pz_is P rfl) (Or.inr ⟨rfl, fun r q => by cases q; rfl⟩) ?_
  refine e_hp (h2 := (c1H h)) rfl ?_
  refine e_pz (h := (c1H h)) P.r ?_
  intro P
  refine e_aload_n aX8_init_15 rfl ?_
  refine e_bipush (v := 6) aX8_init_16 (by decide) ?_
  refine e_newR (t := 16) aX8_init_18 (Nat.le_of_ble_eq_true rfl) (Nat.le_of_ble_eq_true rfl) cX8_7 (by decide) rfl (Nat.le_of_ble_eq_true rfl) (Nat.le_of_ble_eq_true rfl) (Nat.le_of_ble_eq_true rfl) ?_
  refine e_topR (v := some (37)) (congrArg some P.1) ?_
  refine e_hp (h2 := nwk (37) _ 16 6) (nwk_e P.1) ?_
  refine e_pz (P.n rfl rfl) ?_
  intro P
  refine e_putR aX8_init_21 fX8_16 rfl (pz_is P rfl) (Or.inr ⟨rfl, fun r q => by cases q; rfl⟩) ?_
  refine e_hp (h2 := (c2H h)) rfl ?_
  refine e_pz (h := (c2H h)) P.r ?_
  intro P
  refine e_aload_n aX8_init_24 rfl ?_
  refine e_new aX8_init_25 nX8_20 (Nat.le_of_ble_eq_true rfl) (Nat.le_of_ble_eq_true rfl) ?_
  refine e_topR (v := some (38)) (congrArg some P.1) ?_
  refine e_hp (h2 := nwk (38) _ 3 0) (nwk_e P.1) ?_
  refine e_pz (P.n rfl rfl) ?_
  intro P
  refine e_dup aX8_init_28 rfl ?_
  refine e_inviN aX8_init_29 kX8_22 (zX2_init X (h := nwk 38 (c2H h) 3 0) P) rfl rfl (Nat.le_of_ble_eq_true rfl) (Nat.le_of_ble_eq_true rfl) (Nat.le_of_ble_eq_true rfl) (Nat.le_of_ble_eq_true rfl) (Nat.le_of_ble_eq_true rfl) ?_
  rintro v h2 ⟨rfl, rfl⟩
  refine e_pz (k := 40) (P.n rfl rfl).r ?_
  intro P
  refine e_putR aX8_init_32 fX8_23 rfl (pz_is P rfl) (Or.inr ⟨rfl, fun r q => by cases q; rfl⟩) ?_
  refine e_hp (h2 := (c3H h)) rfl ?_
  refine e_pz (h := (c3H h)) P.r ?_
  intro P
  refine e_aload_n aX8_init_35 rfl ?_
  refine e_new aX8_init_36 nX8_27 (Nat.le_of_ble_eq_true rfl) (Nat.le_of_ble_eq_true rfl) ?_
  refine e_topR (v := some (40)) (congrArg some P.1) ?_
  refine e_hp (h2 := nwk (40) _ 4 0) (nwk_e P.1) ?_
  refine e_pz (P.n rfl rfl) ?_
  intro P
  refine e_dup aX8_init_39 rfl ?_
  refine e_invi aX8_init_40 kX8_29 (zX3_init X (h := nwk 40 (c3H h) 4 0) P) rfl rfl (Nat.le_of_ble_eq_true rfl) (Nat.le_of_ble_eq_true rfl) (Nat.le_of_ble_eq_true rfl) (Nat.le_of_ble_eq_true rfl) (Nat.le_of_ble_eq_true rfl) ?_
  rintro v h2 ⟨rfl, rfl⟩
  refine e_pz (k := 73) (spH_P (rdI_P P) 14 (Nat.le_refl _)) ?_
  intro P
  refine e_putR aX8_init_43 fX8_30 rfl (pz_is P rfl) (Or.inr ⟨rfl, fun r q => by cases q; rfl⟩) ?_
  refine e_hp (h2 := (c4H h)) rfl ?_
  refine e_pz (h := (c4H h)) P.r ?_
  intro P
  refine e_aload_n aX8_init_46 rfl ?_
  refine e_iconst (v := 4) aX8_init_47 (by decide) ?_
  refine e_newR (t := 18) aX8_init_48 (Nat.le_of_ble_eq_true rfl) (Nat.le_of_ble_eq_true rfl) cX8_34 (by decide) rfl (Nat.le_of_ble_eq_true rfl) (Nat.le_of_ble_eq_true rfl) (Nat.le_of_ble_eq_true rfl) ?_
  refine e_topR (v := some (73)) (congrArg some P.1) ?_
  refine e_hp (h2 := nwk (73) _ 18 4) (nwk_e P.1) ?_
  refine e_pz (P.n rfl rfl) ?_
  intro P
  refine e_putR aX8_init_51 fX8_36 rfl (pz_is P rfl) (Or.inr ⟨rfl, fun r q => by cases q; rfl⟩) ?_
  refine e_pz P.r ?_
  intro P
  refine e_aload_n aX8_init_54 rfl ?_
  refine e_iconst (v := 4) aX8_init_55 (by decide) ?_
  refine e_newR (t := 17) aX8_init_56 (Nat.le_of_ble_eq_true rfl) (Nat.le_of_ble_eq_true rfl) cX8_40 (by decide) rfl (Nat.le_of_ble_eq_true rfl) (Nat.le_of_ble_eq_true rfl) (Nat.le_of_ble_eq_true rfl) ?_
  refine e_topR (v := some (74)) (congrArg some P.1) ?_
  refine e_hp (h2 := nwk (74) _ 17 4) (nwk_e P.1) ?_
  refine e_pz (P.n rfl rfl) ?_
  intro P
  refine e_putR aX8_init_59 fX8_42 rfl (pz_is P rfl) (Or.inr ⟨rfl, fun r q => by cases q; rfl⟩) ?_
  refine e_hp (h2 := (c5H h)) rfl ?_
  refine e_pz (h := (c5H h)) P.r ?_
  intro P
  refine e_aload_n aX8_init_62 rfl ?_
  refine e_iconst (v := 3) aX8_init_63 (by decide) ?_
  refine e_newI aX8_init_64 wa_int (by decide) rfl (Nat.le_of_ble_eq_true rfl) (Nat.le_of_ble_eq_true rfl) (Nat.le_of_ble_eq_true rfl) ?_
  refine e_topR (v := some (75)) (congrArg some P.1) ?_
  refine e_hp (h2 := nwk (75) _ 13 3) (nwk_e P.1) ?_
  refine e_pz (P.n rfl rfl) ?_
  intro P
  refine e_dup aX8_init_66 rfl ?_
  refine e_iconst (v := 0) aX8_init_67 (by decide) ?_
  refine e_iconst (v := -1) aX8_init_68 (by decide) ?_
  refine e_iastoreF aX8_init_69 (pz_is P rfl) (pz_n (n := 3) P rfl) (vin (n := 0) (N := 3) (by decide)) ?_
  refine e_pz P.i ?_
  intro P
  refine e_dup aX8_init_70 rfl ?_
  refine e_iconst (v := 1) aX8_init_71 (by decide) ?_
  refine e_iconst (v := -1) aX8_init_72 (by decide) ?_
  refine e_iastoreF aX8_init_73 (pz_is P rfl) (pz_n (n := 3) P rfl) (vin (n := 1) (N := 3) (by decide)) ?_
  refine e_pz P.i ?_
  intro P
  refine e_dup aX8_init_74 rfl ?_
  refine e_iconst (v := 2) aX8_init_75 (by decide) ?_
  refine e_iconst (v := -1) aX8_init_76 (by decide) ?_
  refine e_iastoreF aX8_init_77 (pz_is P rfl) (pz_n (n := 3) P rfl) (vin (n := 2) (N := 3) (by decide)) ?_
  refine e_pz P.i ?_
  intro P
  refine e_putR aX8_init_78 fX8_46 rfl (pz_is P rfl) (Or.inr ⟨rfl, fun r q => by cases q; rfl⟩) ?_
  refine e_pz P.r ?_
  intro P
  refine e_aload_n aX8_init_81 rfl ?_
  refine e_bipush (v := 8) aX8_init_82 (by decide) ?_
  refine e_newI aX8_init_84 wa_int (by decide) rfl (Nat.le_of_ble_eq_true rfl) (Nat.le_of_ble_eq_true rfl) (Nat.le_of_ble_eq_true rfl) ?_
  refine e_topR (v := some (76)) (congrArg some P.1) ?_
  refine e_hp (h2 := nwk (76) _ 13 8) (nwk_e P.1) ?_
  refine e_pz (P.n rfl rfl) ?_
  intro P
  refine e_putR aX8_init_86 fX8_50 rfl (pz_is P rfl) (Or.inr ⟨rfl, fun r q => by cases q; rfl⟩) ?_
  refine e_pz P.r ?_
  intro P
  refine e_iconst (v := 0) aX8_init_89 (by decide) ?_
  refine e_istore_n aX8_init_90 (Nat.le_of_ble_eq_true rfl) ?_
  refine e_hp (h2 := c7H h) rfl ?_
  refine e_ls (ls' := [(0, some (vR (some 32))), (1, some (vI (nI 0)))]) ⟨rfl, rfl, trivial⟩ ?_
  exact lpl 6 0 rfl
end
