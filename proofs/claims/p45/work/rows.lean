section
-- ===== PART A: goes FIRST, ahead of the names: the tables' words, and 'selects' of the private methods out of them =====
/-- a private method of a class that the tables say can be made, by its rows of tables_1 -/
def lw_okq (q : MethodName × Nat) : Prop := (q.1.cls ≠ "java/lang/invoke/MethodHandle" ∧ q.1.cls ≠ "java/lang/invoke/VarHandle") ∧ Cond.instantiable q.1.cls q.2 ∈ tables_1 ∧ Cond.privateMethod q.1 ∈ tables_1 ∧ Cond.instanceMethod q.1 ∈ tables_1
theorem lw_p0 : lw_okq (⟨"RolledPicks", "finding", "(I)I"⟩, 9) := ⟨⟨by decide +kernel, by decide +kernel⟩, List.mem_of_getElem? (i := 22) (by decide +kernel), List.mem_of_getElem? (i := 185) (by decide +kernel), List.mem_of_getElem? (i := 186) (by decide +kernel)⟩
theorem lw_p1 : lw_okq (⟨"RolledPicks", "countConveying", "(LRolledPicks$Deal;)I"⟩, 9) := ⟨⟨by decide +kernel, by decide +kernel⟩, List.mem_of_getElem? (i := 22) (by decide +kernel), List.mem_of_getElem? (i := 199) (by decide +kernel), List.mem_of_getElem? (i := 200) (by decide +kernel)⟩
theorem lw_p2 : lw_okq (⟨"RolledPicks$Deal", "mayGive", "(I)Z"⟩, 7) := ⟨⟨by decide +kernel, by decide +kernel⟩, List.mem_of_getElem? (i := 270) (by decide +kernel), List.mem_of_getElem? (i := 268) (by decide +kernel), List.mem_of_getElem? (i := 269) (by decide +kernel)⟩
theorem lw_p3 : lw_okq (⟨"RolledPicks", "everOwners", "(I)I"⟩, 9) := ⟨⟨by decide +kernel, by decide +kernel⟩, List.mem_of_getElem? (i := 22) (by decide +kernel), List.mem_of_getElem? (i := 281) (by decide +kernel), List.mem_of_getElem? (i := 282) (by decide +kernel)⟩
theorem lw_p4 : lw_okq (⟨"RolledPicks", "worthUnder", "(II)I"⟩, 9) := ⟨⟨by decide +kernel, by decide +kernel⟩, List.mem_of_getElem? (i := 22) (by decide +kernel), List.mem_of_getElem? (i := 301) (by decide +kernel), List.mem_of_getElem? (i := 302) (by decide +kernel)⟩
theorem lw_p5 : lw_okq (⟨"RolledPicks", "longFinding", "(I)J"⟩, 9) := ⟨⟨by decide +kernel, by decide +kernel⟩, List.mem_of_getElem? (i := 22) (by decide +kernel), List.mem_of_getElem? (i := 310) (by decide +kernel), List.mem_of_getElem? (i := 311) (by decide +kernel)⟩
theorem lw_p6 : lw_okq (⟨"RolledPicks", "worthOver", "(III)J"⟩, 9) := ⟨⟨by decide +kernel, by decide +kernel⟩, List.mem_of_getElem? (i := 22) (by decide +kernel), List.mem_of_getElem? (i := 315) (by decide +kernel), List.mem_of_getElem? (i := 316) (by decide +kernel)⟩
theorem lw_p7 : lw_okq (⟨"RolledPicks", "tellsEachDeal", "(LRolledPicks$Sheet;)Z"⟩, 9) := ⟨⟨by decide +kernel, by decide +kernel⟩, List.mem_of_getElem? (i := 22) (by decide +kernel), List.mem_of_getElem? (i := 336) (by decide +kernel), List.mem_of_getElem? (i := 337) (by decide +kernel)⟩
theorem lw_p8 : lw_okq (⟨"RolledPicks", "countRounds", "(LRolledPicks$Sheet;I)I"⟩, 9) := ⟨⟨by decide +kernel, by decide +kernel⟩, List.mem_of_getElem? (i := 22) (by decide +kernel), List.mem_of_getElem? (i := 340) (by decide +kernel), List.mem_of_getElem? (i := 341) (by decide +kernel)⟩
theorem lw_p9 : lw_okq (⟨"RolledPicks", "goesOver", "(LRolledPicks$Sheet;LRolledPicks$Rounds;)Z"⟩, 9) := ⟨⟨by decide +kernel, by decide +kernel⟩, List.mem_of_getElem? (i := 22) (by decide +kernel), List.mem_of_getElem? (i := 363) (by decide +kernel), List.mem_of_getElem? (i := 364) (by decide +kernel)⟩
theorem lw_p10 : lw_okq (⟨"RolledPicks", "settleAll", "()V"⟩, 9) := ⟨⟨by decide +kernel, by decide +kernel⟩, List.mem_of_getElem? (i := 22) (by decide +kernel), List.mem_of_getElem? (i := 415) (by decide +kernel), List.mem_of_getElem? (i := 416) (by decide +kernel)⟩
theorem lw_p11 : lw_okq (⟨"RolledPicks$Owners", "give", "(III)V"⟩, 1) := ⟨⟨by decide +kernel, by decide +kernel⟩, List.mem_of_getElem? (i := 65) (by decide +kernel), List.mem_of_getElem? (i := 424) (by decide +kernel), List.mem_of_getElem? (i := 425) (by decide +kernel)⟩
theorem lw_p12 : lw_okq (⟨"RolledPicks", "countHeld", "()I"⟩, 9) := ⟨⟨by decide +kernel, by decide +kernel⟩, List.mem_of_getElem? (i := 22) (by decide +kernel), List.mem_of_getElem? (i := 433) (by decide +kernel), List.mem_of_getElem? (i := 434) (by decide +kernel)⟩
theorem lw_p13 : lw_okq (⟨"java/util/ArrayList", "add", "(Ljava/lang/Object;[Ljava/lang/Object;I)V"⟩, 3) := ⟨⟨by decide +kernel, by decide +kernel⟩, List.mem_of_getElem? (i := 443) (by decide +kernel), List.mem_of_getElem? (i := 562) (by decide +kernel), List.mem_of_getElem? (i := 563) (by decide +kernel)⟩
theorem lw_p14 : lw_okq (⟨"java/util/ArrayList", "grow", "()[Ljava/lang/Object;"⟩, 3) := ⟨⟨by decide +kernel, by decide +kernel⟩, List.mem_of_getElem? (i := 443) (by decide +kernel), List.mem_of_getElem? (i := 566) (by decide +kernel), List.mem_of_getElem? (i := 567) (by decide +kernel)⟩
theorem lw_p15 : lw_okq (⟨"java/util/ArrayList", "grow", "(I)[Ljava/lang/Object;"⟩, 3) := ⟨⟨by decide +kernel, by decide +kernel⟩, List.mem_of_getElem? (i := 443) (by decide +kernel), List.mem_of_getElem? (i := 570) (by decide +kernel), List.mem_of_getElem? (i := 571) (by decide +kernel)⟩
def lw_privs_1 : List (MethodName × Nat) := [(⟨"RolledPicks", "finding", "(I)I"⟩, 9), (⟨"RolledPicks", "countConveying", "(LRolledPicks$Deal;)I"⟩, 9), (⟨"RolledPicks$Deal", "mayGive", "(I)Z"⟩, 7), (⟨"RolledPicks", "everOwners", "(I)I"⟩, 9), (⟨"RolledPicks", "worthUnder", "(II)I"⟩, 9), (⟨"RolledPicks", "longFinding", "(I)J"⟩, 9), (⟨"RolledPicks", "worthOver", "(III)J"⟩, 9), (⟨"RolledPicks", "tellsEachDeal", "(LRolledPicks$Sheet;)Z"⟩, 9), (⟨"RolledPicks", "countRounds", "(LRolledPicks$Sheet;I)I"⟩, 9), (⟨"RolledPicks", "goesOver", "(LRolledPicks$Sheet;LRolledPicks$Rounds;)Z"⟩, 9), (⟨"RolledPicks", "settleAll", "()V"⟩, 9), (⟨"RolledPicks$Owners", "give", "(III)V"⟩, 1), (⟨"RolledPicks", "countHeld", "()I"⟩, 9), (⟨"java/util/ArrayList", "add", "(Ljava/lang/Object;[Ljava/lang/Object;I)V"⟩, 3), (⟨"java/util/ArrayList", "grow", "()[Ljava/lang/Object;"⟩, 3), (⟨"java/util/ArrayList", "grow", "(I)[Ljava/lang/Object;"⟩, 3)]
theorem lw_r1 : ∀ q ∈ lw_privs_1, lw_okq q := List.forall_mem_cons.mpr ⟨lw_p0, List.forall_mem_cons.mpr ⟨lw_p1, List.forall_mem_cons.mpr ⟨lw_p2, List.forall_mem_cons.mpr ⟨lw_p3, List.forall_mem_cons.mpr ⟨lw_p4, List.forall_mem_cons.mpr ⟨lw_p5, List.forall_mem_cons.mpr ⟨lw_p6, List.forall_mem_cons.mpr ⟨lw_p7, List.forall_mem_cons.mpr ⟨lw_p8, List.forall_mem_cons.mpr ⟨lw_p9, List.forall_mem_cons.mpr ⟨lw_p10, List.forall_mem_cons.mpr ⟨lw_p11, List.forall_mem_cons.mpr ⟨lw_p12, List.forall_mem_cons.mpr ⟨lw_p13, List.forall_mem_cons.mpr ⟨lw_p14, List.forall_mem_cons.mpr ⟨lw_p15, fun _ h => absurd h List.not_mem_nil⟩⟩⟩⟩⟩⟩⟩⟩⟩⟩⟩⟩⟩⟩⟩⟩
theorem lw_p16 : lw_okq (⟨"RolledPicks", "enter", "(LRolledPicks$Deal;)I"⟩, 9) := ⟨⟨by decide +kernel, by decide +kernel⟩, List.mem_of_getElem? (i := 22) (by decide +kernel), List.mem_of_getElem? (i := 698) (by decide +kernel), List.mem_of_getElem? (i := 699) (by decide +kernel)⟩
theorem lw_p17 : lw_okq (⟨"RolledPicks", "takes", "(LRolledPicks$Deal;)Z"⟩, 9) := ⟨⟨by decide +kernel, by decide +kernel⟩, List.mem_of_getElem? (i := 22) (by decide +kernel), List.mem_of_getElem? (i := 702) (by decide +kernel), List.mem_of_getElem? (i := 703) (by decide +kernel)⟩
theorem lw_p18 : lw_okq (⟨"RolledPicks", "clashesUnder", "(ILRolledPicks$Deal;)Z"⟩, 9) := ⟨⟨by decide +kernel, by decide +kernel⟩, List.mem_of_getElem? (i := 22) (by decide +kernel), List.mem_of_getElem? (i := 706) (by decide +kernel), List.mem_of_getElem? (i := 707) (by decide +kernel)⟩
def lw_privs_2 : List (MethodName × Nat) := [(⟨"RolledPicks", "enter", "(LRolledPicks$Deal;)I"⟩, 9), (⟨"RolledPicks", "takes", "(LRolledPicks$Deal;)Z"⟩, 9), (⟨"RolledPicks", "clashesUnder", "(ILRolledPicks$Deal;)Z"⟩, 9)]
theorem lw_r2 : ∀ q ∈ lw_privs_2, lw_okq q := List.forall_mem_cons.mpr ⟨lw_p16, List.forall_mem_cons.mpr ⟨lw_p17, List.forall_mem_cons.mpr ⟨lw_p18, fun _ h => absurd h List.not_mem_nil⟩⟩⟩
def lw_privs : List (MethodName × Nat) := lw_privs_1 ++ (lw_privs_2)
def lw_tbl : List Cond := k2_sels lw_privs ++ tables_1
theorem lw_privs_ok : ∀ q ∈ lw_privs, lw_okq q := by
  show ∀ q ∈ lw_privs_1 ++ (lw_privs_2), lw_okq q
  exact List.forall_mem_append.mpr ⟨lw_r1, lw_r2⟩
end
section
-- names: classes, fields in the order of the slots, methods
def RX0 : String := "RolledPicks$Book"
def TX0 : u_T := fun k => match k with
  | 0 => ("RolledPicks$Book", "deals", "[LRolledPicks$Deal;", true)
  | 1 => ("RolledPicks$Book", "dealCount", "I", false)
  | 2 => ("RolledPicks$Book", "orders", "[I", true)
  | 3 => ("RolledPicks$Book", "fallenYears", "I", false)
  | 4 => ("RolledPicks$Book", "worths", "[I", true)
  | _ => ("RolledPicks$Book", "z", "I", false)
def tyX0 : Nat → FieldType := fun k => match k with
  | 0 => .array (.object "RolledPicks$Deal")
  | 1 => .int
  | 2 => .array .int
  | 3 => .int
  | 4 => .array .int
  | _ => .int
theorem nmX0 : ∀ a, a < 6 → ∀ b, b < 6 → a ≠ b → (TX0 a).2.1 ≠ (TX0 b).2.1 := by decide +kernel
theorem tyX0_ok : ∀ k, k < 6 → parseFieldDescriptor (TX0 k).2.2.1 = some (tyX0 k) := by decide +kernel
def RX1 : String := "RolledPicks$Deal"
def TX1 : u_T := fun k => match k with
  | 0 => ("RolledPicks$Deal", "kind", "I", true)
  | 1 => ("RolledPicks$Deal", "from", "I", true)
  | 2 => ("RolledPicks$Deal", "to", "I", true)
  | 3 => ("RolledPicks$Deal", "pick", "I", true)
  | 4 => ("RolledPicks$Deal", "other", "I", true)
  | 5 => ("RolledPicks$Deal", "n", "I", true)
  | _ => ("RolledPicks$Deal", "condition", "LRolledPicks$Standings;", true)
def tyX1 : Nat → FieldType := fun k => match k with
  | 0 => .int
  | 1 => .int
  | 2 => .int
  | 3 => .int
  | 4 => .int
  | 5 => .int
  | _ => .object "RolledPicks$Standings"
theorem nmX1 : ∀ a, a < 7 → ∀ b, b < 7 → a ≠ b → (TX1 a).2.1 ≠ (TX1 b).2.1 := by decide +kernel
theorem tyX1_ok : ∀ k, k < 7 → parseFieldDescriptor (TX1 k).2.2.1 = some (tyX1 k) := by decide +kernel
def RX2 : String := "RolledPicks$Owners"
def TX2 : u_T := fun k => match k with
  | _ => ("RolledPicks$Owners", "rows", "[I", true)
def tyX2 : Nat → FieldType := fun k => match k with
  | _ => .array .int
theorem nmX2 : ∀ a, a < 1 → ∀ b, b < 1 → a ≠ b → (TX2 a).2.1 ≠ (TX2 b).2.1 := by decide +kernel
theorem tyX2_ok : ∀ k, k < 1 → parseFieldDescriptor (TX2 k).2.2.1 = some (tyX2 k) := by decide +kernel
def RX3 : String := "RolledPicks$Reader"
def TX3 : u_T := fun k => match k with
  | 0 => ("RolledPicks$Reader", "tape", "LRolledPicks$Tape;", true)
  | 1 => ("RolledPicks$Reader", "came", "[LRolledPicks$Deal;", true)
  | 2 => ("RolledPicks$Reader", "cameCount", "I", false)
  | _ => ("RolledPicks$Reader", "spare", "[LRolledPicks$Standings;", true)
def tyX3 : Nat → FieldType := fun k => match k with
  | 0 => .object "RolledPicks$Tape"
  | 1 => .array (.object "RolledPicks$Deal")
  | 2 => .int
  | _ => .array (.object "RolledPicks$Standings")
theorem nmX3 : ∀ a, a < 4 → ∀ b, b < 4 → a ≠ b → (TX3 a).2.1 ≠ (TX3 b).2.1 := by decide +kernel
theorem tyX3_ok : ∀ k, k < 4 → parseFieldDescriptor (TX3 k).2.2.1 = some (tyX3 k) := by decide +kernel
def RX4 : String := "RolledPicks$Rounds"
def TX4 : u_T := fun k => match k with
  | 0 => ("RolledPicks$Rounds", "standing", "I", true)
  | 1 => ("RolledPicks$Rounds", "has", "[I", true)
  | 2 => ("RolledPicks$Rounds", "givenBy", "I", false)
  | _ => ("RolledPicks$Rounds", "gotBackBy", "I", false)
def tyX4 : Nat → FieldType := fun k => match k with
  | 0 => .int
  | 1 => .array .int
  | 2 => .int
  | _ => .int
theorem nmX4 : ∀ a, a < 4 → ∀ b, b < 4 → a ≠ b → (TX4 a).2.1 ≠ (TX4 b).2.1 := by decide +kernel
theorem tyX4_ok : ∀ k, k < 4 → parseFieldDescriptor (TX4 k).2.2.1 = some (tyX4 k) := by decide +kernel
def RX5 : String := "RolledPicks$Sheet"
def TX5 : u_T := fun k => match k with
  | 0 => ("RolledPicks$Sheet", "numbers", "[J", true)
  | 1 => ("RolledPicks$Sheet", "sort", "I", false)
  | _ => ("RolledPicks$Sheet", "length", "I", false)
def tyX5 : Nat → FieldType := fun k => match k with
  | 0 => .array .long
  | 1 => .int
  | _ => .int
theorem nmX5 : ∀ a, a < 3 → ∀ b, b < 3 → a ≠ b → (TX5 a).2.1 ≠ (TX5 b).2.1 := by decide +kernel
theorem tyX5_ok : ∀ k, k < 3 → parseFieldDescriptor (TX5 k).2.2.1 = some (tyX5 k) := by decide +kernel
def RX6 : String := "RolledPicks$Standings"
def TX6 : u_T := fun k => match k with
  | _ => ("RolledPicks$Standings", "words", "[J", true)
def tyX6 : Nat → FieldType := fun k => match k with
  | _ => .array .long
theorem nmX6 : ∀ a, a < 1 → ∀ b, b < 1 → a ≠ b → (TX6 a).2.1 ≠ (TX6 b).2.1 := by decide +kernel
theorem tyX6_ok : ∀ k, k < 1 → parseFieldDescriptor (TX6 k).2.2.1 = some (tyX6 k) := by decide +kernel
def RX7 : String := "RolledPicks$Tape"
def TX7 : u_T := fun k => match k with
  | 0 => ("RolledPicks$Tape", "bytes", "[B", true)
  | 1 => ("RolledPicks$Tape", "length", "I", false)
  | 2 => ("RolledPicks$Tape", "tokenAt", "I", false)
  | _ => ("RolledPicks$Tape", "tokenEnd", "I", false)
def tyX7 : Nat → FieldType := fun k => match k with
  | 0 => .array .byte
  | 1 => .int
  | 2 => .int
  | _ => .int
theorem nmX7 : ∀ a, a < 4 → ∀ b, b < 4 → a ≠ b → (TX7 a).2.1 ≠ (TX7 b).2.1 := by decide +kernel
theorem tyX7_ok : ∀ k, k < 4 → parseFieldDescriptor (TX7 k).2.2.1 = some (tyX7 k) := by decide +kernel
def RX8 : String := "RolledPicks"
def TX8 : u_T := fun k => match k with
  | 0 => ("RolledPicks", "book", "LRolledPicks$Book;", true)
  | 1 => ("RolledPicks", "pile", "[LRolledPicks$Book;", true)
  | 2 => ("RolledPicks", "images", "I", false)
  | 3 => ("RolledPicks", "owners", "LRolledPicks$Owners;", true)
  | 4 => ("RolledPicks", "reader", "LRolledPicks$Reader;", true)
  | 5 => ("RolledPicks", "sheets", "[LRolledPicks$Sheet;", true)
  | 6 => ("RolledPicks", "spots", "[LRolledPicks$Deal;", true)
  | 7 => ("RolledPicks", "told", "[I", true)
  | _ => ("RolledPicks", "findings", "[I", true)
def tyX8 : Nat → FieldType := fun k => match k with
  | 0 => .object "RolledPicks$Book"
  | 1 => .array (.object "RolledPicks$Book")
  | 2 => .int
  | 3 => .object "RolledPicks$Owners"
  | 4 => .object "RolledPicks$Reader"
  | 5 => .array (.object "RolledPicks$Sheet")
  | 6 => .array (.object "RolledPicks$Deal")
  | 7 => .array .int
  | _ => .array .int
theorem nmX8 : ∀ a, a < 9 → ∀ b, b < 9 → a ≠ b → (TX8 a).2.1 ≠ (TX8 b).2.1 := by decide +kernel
theorem tyX8_ok : ∀ k, k < 9 → parseFieldDescriptor (TX8 k).2.2.1 = some (tyX8 k) := by decide +kernel
def RX9 : String := "RolledPicksLaw$Book"
def TX9 : u_T := fun k => match k with
  | 0 => ("RolledPicksLaw$Book", "ever", "Ljava/util/ArrayList;", true)
  | 1 => ("RolledPicksLaw$Book", "when", "Ljava/util/ArrayList;", true)
  | 2 => ("RolledPicksLaw$Book", "there", "[I", true)
  | 3 => ("RolledPicksLaw$Book", "many", "I", false)
  | 4 => ("RolledPicksLaw$Book", "fallen", "I", false)
  | 5 => ("RolledPicksLaw$Book", "orders", "[I", true)
  | 6 => ("RolledPicksLaw$Book", "link", "[I", true)
  | 7 => ("RolledPicksLaw$Book", "to", "[I", true)
  | 8 => ("RolledPicksLaw$Book", "clashS", "I", false)
  | 9 => ("RolledPicksLaw$Book", "clashP", "I", false)
  | _ => ("RolledPicksLaw$Book", "clashHow", "I", false)
def tyX9 : Nat → FieldType := fun k => match k with
  | 0 => .object "java/util/ArrayList"
  | 1 => .object "java/util/ArrayList"
  | 2 => .array .int
  | 3 => .int
  | 4 => .int
  | 5 => .array .int
  | 6 => .array .int
  | 7 => .array .int
  | 8 => .int
  | 9 => .int
  | _ => .int
theorem nmX9 : ∀ a, a < 11 → ∀ b, b < 11 → a ≠ b → (TX9 a).2.1 ≠ (TX9 b).2.1 := by decide +kernel
theorem tyX9_ok : ∀ k, k < 11 → parseFieldDescriptor (TX9 k).2.2.1 = some (tyX9 k) := by decide +kernel
def RJx4a65c : String := "java/util/ArrayList"
def TJx4a65c : u_T := fun k => match k with
  | 0 => ("java/util/AbstractList", "modCount", "I", false)
  | 1 => ("java/util/ArrayList", "elementData", "[Ljava/lang/Object;", false)
  | _ => ("java/util/ArrayList", "size", "I", false)
def tyJx4a65c : Nat → FieldType := fun k => match k with
  | 0 => .int
  | 1 => .array (.object "java/lang/Object")
  | _ => .int
theorem nmJx4a65c : ∀ a, a < 3 → ∀ b, b < 3 → a ≠ b → (TJx4a65c a).2.1 ≠ (TJx4a65c b).2.1 := by decide +kernel
theorem tyJx4a65c_ok : ∀ k, k < 3 → parseFieldDescriptor (TJx4a65c k).2.2.1 = some (tyJx4a65c k) := by decide +kernel
def RJx145de : String := "java/io/Serializable"
def RJx8e188 : String := "java/lang/Cloneable"
def RJ6 : String := "java/lang/Integer"
def RJxab1ab : String := "java/lang/Iterable"
def RJ9 : String := "java/lang/Math"
def RJ10 : String := "java/lang/System"
def RJxa1e45 : String := "java/util/AbstractCollection"
def RJxc12de : String := "java/util/AbstractList"
def RJ7 : String := "java/util/Arrays"
def RJx5ef63 : String := "java/util/Collection"
def RJxbd725 : String := "java/util/List"
def RJ15 : String := "java/util/Objects"
def RJxf0a74 : String := "java/util/RandomAccess"
def RJxa66e6 : String := "java/util/SequencedCollection"
def RJ8 : String := "jdk/internal/util/ArraysSupport"
def RJ3 : String := "jdk/internal/util/Preconditions"
def RL : String := "RolledPicksLaw"
abbrev vwCl : List vw_C := [(RX0, TX0, 6), (RX1, TX1, 7), (RX2, TX2, 1), (RX3, TX3, 4), (RX4, TX4, 4), (RX5, TX5, 3), (RX6, TX6, 1), (RX7, TX7, 4), (RX8, TX8, 9), (RX9, TX9, 11), (RJx4a65c, TJx4a65c, 3)]
/-- a method: its name, its bytes, how many locals, what it answers -/
abbrev MD : Type := MethodName × ByteArray × Nat × Option FieldType
abbrev cX0_init : ByteArray := prog_2_method_1_code
def yX0_init : MethodName := ⟨RX0, "<init>", "()V"⟩
def mX0_init : MD := (yX0_init, cX0_init, 1, none)
abbrev cX0_become : ByteArray := prog_2_method_2_code
def yX0_become : MethodName := ⟨RX0, "become", "(LRolledPicks$Book;)V"⟩
def mX0_become : MD := (yX0_become, cX0_become, 3, none)
abbrev cX0_firstOpen : ByteArray := prog_2_method_3_code
def yX0_firstOpen : MethodName := ⟨RX0, "firstOpen", "()I"⟩
def mX0_firstOpen : MD := (yX0_firstOpen, cX0_firstOpen, 3, some .int)
abbrev cX0_openCount : ByteArray := prog_2_method_4_code
def yX0_openCount : MethodName := ⟨RX0, "openCount", "()I"⟩
def mX0_openCount : MD := (yX0_openCount, cX0_openCount, 1, some .int)
abbrev cX0_endOpen : ByteArray := prog_2_method_5_code
def yX0_endOpen : MethodName := ⟨RX0, "endOpen", "()I"⟩
def mX0_endOpen : MD := (yX0_endOpen, cX0_endOpen, 1, some .int)
abbrev cX0_isOpen : ByteArray := prog_2_method_6_code
def yX0_isOpen : MethodName := ⟨RX0, "isOpen", "(I)Z"⟩
def mX0_isOpen : MD := (yX0_isOpen, cX0_isOpen, 2, some .boolean)
abbrev cX0_dealAt : ByteArray := prog_2_method_7_code
def yX0_dealAt : MethodName := ⟨RX0, "dealAt", "(I)LRolledPicks$Deal;"⟩
def mX0_dealAt : MD := (yX0_dealAt, cX0_dealAt, 2, some (.object "RolledPicks$Deal"))
abbrev cX0_clashOf : ByteArray := prog_2_method_9_code
def yX0_clashOf : MethodName := ⟨RX0, "clashOf", "(IIII)I"⟩
def mX0_clashOf : MD := (yX0_clashOf, cX0_clashOf, 10, some .int)
abbrev cX1_init : ByteArray := prog_3_method_1_code
def yX1_init : MethodName := ⟨RX1, "<init>", "(IIIIIILRolledPicks$Standings;)V"⟩
def mX1_init : MD := (yX1_init, cX1_init, 8, none)
abbrev cX1_gives : ByteArray := prog_3_method_3_code
def yX1_gives : MethodName := ⟨RX1, "gives", "(I)I"⟩
def mX1_gives : MD := (yX1_gives, cX1_gives, 5, some .int)
abbrev cX1_getsBack : ByteArray := prog_3_method_4_code
def yX1_getsBack : MethodName := ⟨RX1, "getsBack", "(I)I"⟩
def mX1_getsBack : MD := (yX1_getsBack, cX1_getsBack, 2, some .int)
abbrev cX1_takerOf : ByteArray := prog_3_method_5_code
def yX1_takerOf : MethodName := ⟨RX1, "takerOf", "(II)I"⟩
def mX1_takerOf : MD := (yX1_takerOf, cX1_takerOf, 3, some .int)
abbrev cX1_mayGive : ByteArray := prog_3_method_6_code
def yX1_mayGive : MethodName := ⟨RX1, "mayGive", "(I)Z"⟩
def mX1_mayGive : MD := (yX1_mayGive, cX1_mayGive, 2, some .boolean)
abbrev cX2_init : ByteArray := prog_4_method_1_code
def yX2_init : MethodName := ⟨RX2, "<init>", "()V"⟩
def mX2_init : MD := (yX2_init, cX2_init, 1, none)
abbrev cX2_at : ByteArray := prog_4_method_2_code
def yX2_at : MethodName := ⟨RX2, "at", "(II)I"⟩
def mX2_at : MD := (yX2_at, cX2_at, 3, some .int)
abbrev cX2_startAll : ByteArray := prog_4_method_3_code
def yX2_startAll : MethodName := ⟨RX2, "startAll", "(II)V"⟩
def mX2_startAll : MD := (yX2_startAll, cX2_startAll, 4, none)
abbrev cX2_settle : ByteArray := prog_4_method_4_code
def yX2_settle : MethodName := ⟨RX2, "settle", "(LRolledPicks$Deal;II)V"⟩
def mX2_settle : MD := (yX2_settle, cX2_settle, 6, none)
abbrev cX2_give : ByteArray := prog_4_method_5_code
def yX2_give : MethodName := ⟨RX2, "give", "(III)V"⟩
def mX2_give : MD := (yX2_give, cX2_give, 4, none)
abbrev cX3_init : ByteArray := prog_5_method_1_code
def yX3_init : MethodName := ⟨RX3, "<init>", "()V"⟩
def mX3_init : MD := (yX3_init, cX3_init, 2, none)
abbrev cX4_init : ByteArray := prog_6_method_1_code
def yX4_init : MethodName := ⟨RX4, "<init>", "(I)V"⟩
def mX4_init : MD := (yX4_init, cX4_init, 3, none)
abbrev cX4_move : ByteArray := prog_6_method_2_code
def yX4_move : MethodName := ⟨RX4, "move", "(LRolledPicks$Deal;I)Z"⟩
def mX4_move : MD := (yX4_move, cX4_move, 6, some .boolean)
abbrev cX5_init : ByteArray := prog_7_method_1_code
def yX5_init : MethodName := ⟨RX5, "<init>", "()V"⟩
def mX5_init : MD := (yX5_init, cX5_init, 1, none)
abbrev cX5_isMissing : ByteArray := prog_7_method_2_code
def yX5_isMissing : MethodName := ⟨RX5, "isMissing", "()Z"⟩
def mX5_isMissing : MD := (yX5_isMissing, cX5_isMissing, 1, some .boolean)
abbrev cX5_become : ByteArray := prog_7_method_3_code
def yX5_become : MethodName := ⟨RX5, "become", "(II)V"⟩
def mX5_become : MD := (yX5_become, cX5_become, 4, none)
abbrev cX5_put : ByteArray := prog_7_method_4_code
def yX5_put : MethodName := ⟨RX5, "put", "(IJ)V"⟩
def mX5_put : MD := (yX5_put, cX5_put, 4, none)
abbrev cX6_init : ByteArray := prog_8_method_1_code
def yX6_init : MethodName := ⟨RX6, "<init>", "()V"⟩
def mX6_init : MD := (yX6_init, cX6_init, 1, none)
abbrev cX6_has : ByteArray := prog_8_method_2_code
def yX6_has : MethodName := ⟨RX6, "has", "(I)Z"⟩
def mX6_has : MD := (yX6_has, cX6_has, 2, some .boolean)
abbrev cX7_init : ByteArray := prog_9_method_1_code
def yX7_init : MethodName := ⟨RX7, "<init>", "()V"⟩
def mX7_init : MD := (yX7_init, cX7_init, 1, none)
abbrev cX8_init : ByteArray := prog_1_method_1_code
def yX8_init : MethodName := ⟨RX8, "<init>", "()V"⟩
def mX8_init : MD := (yX8_init, cX8_init, 2, none)
abbrev cX8_fall : ByteArray := prog_1_method_4_code
def yX8_fall : MethodName := ⟨RX8, "fall", "(I)I"⟩
def mX8_fall : MD := (yX8_fall, cX8_fall, 2, some .int)
abbrev cX8_fallen : ByteArray := prog_1_method_5_code
def yX8_fallen : MethodName := ⟨RX8, "fallen", "(I)I"⟩
def mX8_fallen : MD := (yX8_fallen, cX8_fallen, 2, some .int)
abbrev cX8_sale : ByteArray := prog_1_method_7_code
def yX8_sale : MethodName := ⟨RX8, "sale", "(IIIII)I"⟩
def mX8_sale : MD := (yX8_sale, cX8_sale, 7, some .int)
abbrev cX8_swap : ByteArray := prog_1_method_8_code
def yX8_swap : MethodName := ⟨RX8, "swap", "(IIIII)I"⟩
def mX8_swap : MD := (yX8_swap, cX8_swap, 6, some .int)
abbrev cX8_of : ByteArray := prog_1_method_10_code
def yX8_of : MethodName := ⟨RX8, "of", "(II)I"⟩
def mX8_of : MD := (yX8_of, cX8_of, 4, some .int)
abbrev cX8_conveys : ByteArray := prog_1_method_12_code
def yX8_conveys : MethodName := ⟨RX8, "conveys", "(III)I"⟩
def mX8_conveys : MD := (yX8_conveys, cX8_conveys, 6, some .int)
abbrev cX8_prune : ByteArray := prog_1_method_14_code
def yX8_prune : MethodName := ⟨RX8, "prune", "()I"⟩
def mX8_prune : MD := (yX8_prune, cX8_prune, 5, some .int)
abbrev cX8_clash : ByteArray := prog_1_method_15_code
def yX8_clash : MethodName := ⟨RX8, "clash", "(I)I"⟩
def mX8_clash : MD := (yX8_clash, cX8_clash, 2, some .int)
abbrev cX8_owner : ByteArray := prog_1_method_16_code
def yX8_owner : MethodName := ⟨RX8, "owner", "(II)I"⟩
def mX8_owner : MD := (yX8_owner, cX8_owner, 3, some .int)
abbrev cX8_chain : ByteArray := prog_1_method_17_code
def yX8_chain : MethodName := ⟨RX8, "chain", "(III)I"⟩
def mX8_chain : MD := (yX8_chain, cX8_chain, 9, some .int)
abbrev cX8_hand : ByteArray := prog_1_method_18_code
def yX8_hand : MethodName := ⟨RX8, "hand", "(II)I"⟩
def mX8_hand : MD := (yX8_hand, cX8_hand, 5, some .int)
abbrev cX8_owners : ByteArray := prog_1_method_19_code
def yX8_owners : MethodName := ⟨RX8, "owners", "(I)I"⟩
def mX8_owners : MD := (yX8_owners, cX8_owners, 2, some .int)
abbrev cX8_sure : ByteArray := prog_1_method_20_code
def yX8_sure : MethodName := ⟨RX8, "sure", "(I)I"⟩
def mX8_sure : MD := (yX8_sure, cX8_sure, 4, some .int)
abbrev cX8_chance : ByteArray := prog_1_method_21_code
def yX8_chance : MethodName := ⟨RX8, "chance", "(II)I"⟩
def mX8_chance : MD := (yX8_chance, cX8_chance, 6, some .int)
abbrev cX8_least : ByteArray := prog_1_method_22_code
def yX8_least : MethodName := ⟨RX8, "least", "(II)I"⟩
def mX8_least : MD := (yX8_least, cX8_least, 5, some .int)
abbrev cX8_worth : ByteArray := prog_1_method_24_code
def yX8_worth : MethodName := ⟨RX8, "worth", "(II)I"⟩
def mX8_worth : MD := (yX8_worth, cX8_worth, 3, some .int)
abbrev cX8_value : ByteArray := prog_1_method_25_code
def yX8_value : MethodName := ⟨RX8, "value", "(I)J"⟩
def mX8_value : MD := (yX8_value, cX8_value, 2, some .long)
abbrev cX8_best : ByteArray := prog_1_method_26_code
def yX8_best : MethodName := ⟨RX8, "best", "(II)I"⟩
def mX8_best : MD := (yX8_best, cX8_best, 8, some .int)
abbrev cX8_hope : ByteArray := prog_1_method_27_code
def yX8_hope : MethodName := ⟨RX8, "hope", "(I)I"⟩
def mX8_hope : MD := (yX8_hope, cX8_hope, 10, some .int)
abbrev cX8_rounds : ByteArray := prog_1_method_28_code
def yX8_rounds : MethodName := ⟨RX8, "rounds", "(II)I"⟩
def mX8_rounds : MD := (yX8_rounds, cX8_rounds, 4, some .int)
abbrev cX8_lays : ByteArray := prog_1_method_29_code
def yX8_lays : MethodName := ⟨RX8, "lays", "(II)I"⟩
def mX8_lays : MD := (yX8_lays, cX8_lays, 6, some .int)
abbrev cX8_judge : ByteArray := prog_1_method_30_code
def yX8_judge : MethodName := ⟨RX8, "judge", "(II)I"⟩
def mX8_judge : MD := (yX8_judge, cX8_judge, 6, some .int)
abbrev cX8_sheet : ByteArray := prog_1_method_33_code
def yX8_sheet : MethodName := ⟨RX8, "sheet", "(III)I"⟩
def mX8_sheet : MD := (yX8_sheet, cX8_sheet, 4, some .int)
abbrev cX8_write : ByteArray := prog_1_method_34_code
def yX8_write : MethodName := ⟨RX8, "write", "(IIJ)I"⟩
def mX8_write : MD := (yX8_write, cX8_write, 6, some .int)
abbrev cX8_image : ByteArray := prog_1_method_39_code
def yX8_image : MethodName := ⟨RX8, "image", "()I"⟩
def mX8_image : MD := (yX8_image, cX8_image, 1, some .int)
abbrev cX8_back : ByteArray := prog_1_method_40_code
def yX8_back : MethodName := ⟨RX8, "back", "()I"⟩
def mX8_back : MD := (yX8_back, cX8_back, 1, some .int)
abbrev cX8_count : ByteArray := prog_1_method_42_code
def yX8_count : MethodName := ⟨RX8, "count", "(I)I"⟩
def mX8_count : MD := (yX8_count, cX8_count, 2, some .int)
abbrev cX8_isOutside : ByteArray := prog_1_method_44_code
def yX8_isOutside : MethodName := ⟨RX8, "isOutside", "(II)Z"⟩
def mX8_isOutside : MD := (yX8_isOutside, cX8_isOutside, 2, some .boolean)
abbrev cX8_areNoPair : ByteArray := prog_1_method_45_code
def yX8_areNoPair : MethodName := ⟨RX8, "areNoPair", "(II)Z"⟩
def mX8_areNoPair : MD := (yX8_areNoPair, cX8_areNoPair, 2, some .boolean)
abbrev cX8_placeUnder : ByteArray := prog_1_method_46_code
def yX8_placeUnder : MethodName := ⟨RX8, "placeUnder", "(II)I"⟩
def mX8_placeUnder : MD := (yX8_placeUnder, cX8_placeUnder, 3, some .int)
abbrev cX8_finding : ByteArray := prog_1_method_48_code
def yX8_finding : MethodName := ⟨RX8, "finding", "(I)I"⟩
def mX8_finding : MD := (yX8_finding, cX8_finding, 2, some .int)
abbrev cX8_longFinding : ByteArray := prog_1_method_49_code
def yX8_longFinding : MethodName := ⟨RX8, "longFinding", "(I)J"⟩
def mX8_longFinding : MD := (yX8_longFinding, cX8_longFinding, 2, some .long)
abbrev cX8_enter : ByteArray := prog_1_method_50_code
def yX8_enter : MethodName := ⟨RX8, "enter", "(LRolledPicks$Deal;)I"⟩
def mX8_enter : MD := (yX8_enter, cX8_enter, 2, some .int)
abbrev cX8_takes : ByteArray := prog_1_method_51_code
def yX8_takes : MethodName := ⟨RX8, "takes", "(LRolledPicks$Deal;)Z"⟩
def mX8_takes : MD := (yX8_takes, cX8_takes, 5, some .boolean)
abbrev cX8_clashesUnder : ByteArray := prog_1_method_52_code
def yX8_clashesUnder : MethodName := ⟨RX8, "clashesUnder", "(ILRolledPicks$Deal;)Z"⟩
def mX8_clashesUnder : MD := (yX8_clashesUnder, cX8_clashesUnder, 8, some .boolean)
abbrev cX8_settleAll : ByteArray := prog_1_method_53_code
def yX8_settleAll : MethodName := ⟨RX8, "settleAll", "()V"⟩
def mX8_settleAll : MD := (yX8_settleAll, cX8_settleAll, 4, none)
abbrev cX8_countConveying : ByteArray := prog_1_method_54_code
def yX8_countConveying : MethodName := ⟨RX8, "countConveying", "(LRolledPicks$Deal;)I"⟩
def mX8_countConveying : MD := (yX8_countConveying, cX8_countConveying, 5, some .int)
abbrev cX8_everOwners : ByteArray := prog_1_method_55_code
def yX8_everOwners : MethodName := ⟨RX8, "everOwners", "(I)I"⟩
def mX8_everOwners : MD := (yX8_everOwners, cX8_everOwners, 5, some .int)
abbrev cX8_worthUnder : ByteArray := prog_1_method_56_code
def yX8_worthUnder : MethodName := ⟨RX8, "worthUnder", "(II)I"⟩
def mX8_worthUnder : MD := (yX8_worthUnder, cX8_worthUnder, 5, some .int)
abbrev cX8_worthOver : ByteArray := prog_1_method_57_code
def yX8_worthOver : MethodName := ⟨RX8, "worthOver", "(III)J"⟩
def mX8_worthOver : MD := (yX8_worthOver, cX8_worthOver, 7, some .long)
abbrev cX8_tellsEachDeal : ByteArray := prog_1_method_58_code
def yX8_tellsEachDeal : MethodName := ⟨RX8, "tellsEachDeal", "(LRolledPicks$Sheet;)Z"⟩
def mX8_tellsEachDeal : MD := (yX8_tellsEachDeal, cX8_tellsEachDeal, 6, some .boolean)
abbrev cX8_countRounds : ByteArray := prog_1_method_59_code
def yX8_countRounds : MethodName := ⟨RX8, "countRounds", "(LRolledPicks$Sheet;I)I"⟩
def mX8_countRounds : MD := (yX8_countRounds, cX8_countRounds, 5, some .int)
abbrev cX8_goesOver : ByteArray := prog_1_method_60_code
def yX8_goesOver : MethodName := ⟨RX8, "goesOver", "(LRolledPicks$Sheet;LRolledPicks$Rounds;)Z"⟩
def mX8_goesOver : MD := (yX8_goesOver, cX8_goesOver, 7, some .boolean)
abbrev cX8_countHeld : ByteArray := prog_1_method_61_code
def yX8_countHeld : MethodName := ⟨RX8, "countHeld", "()I"⟩
def mX8_countHeld : MD := (yX8_countHeld, cX8_countHeld, 3, some .int)
abbrev cX9_init : ByteArray := prog_11_method_1_code
def yX9_init : MethodName := ⟨RX9, "<init>", "()V"⟩
def mX9_init : MD := (yX9_init, cX9_init, 1, none)
abbrev cX9_from : ByteArray := prog_11_method_2_code
def yX9_from : MethodName := ⟨RX9, "from", "()I"⟩
def mX9_from : MD := (yX9_from, cX9_from, 4, some .int)
abbrev cX9_size : ByteArray := prog_11_method_3_code
def yX9_size : MethodName := ⟨RX9, "size", "()I"⟩
def mX9_size : MD := (yX9_size, cX9_size, 1, some .int)
abbrev cX9_holds : ByteArray := prog_11_method_4_code
def yX9_holds : MethodName := ⟨RX9, "holds", "(II)Z"⟩
def mX9_holds : MD := (yX9_holds, cX9_holds, 9, some .boolean)
abbrev cX9_conveys : ByteArray := prog_11_method_5_code
def yX9_conveys : MethodName := ⟨RX9, "conveys", "(III)I"⟩
def mX9_conveys : MD := (yX9_conveys, cX9_conveys, 8, some .int)
abbrev cX9_lapses : ByteArray := prog_11_method_6_code
def yX9_lapses : MethodName := ⟨RX9, "lapses", "(II)Z"⟩
def mX9_lapses : MD := (yX9_lapses, cX9_lapses, 3, some .boolean)
abbrev cX9_chain : ByteArray := prog_11_method_7_code
def yX9_chain : MethodName := ⟨RX9, "chain", "(II)I"⟩
def mX9_chain : MD := (yX9_chain, cX9_chain, 7, some .int)
abbrev cX9_clashes : ByteArray := prog_11_method_8_code
def yX9_clashes : MethodName := ⟨RX9, "clashes", "()Z"⟩
def mX9_clashes : MD := (yX9_clashes, cX9_clashes, 4, some .boolean)
abbrev cX9_comes : ByteArray := prog_11_method_10_code
def yX9_comes : MethodName := ⟨RX9, "comes", "([I[I)Z"⟩
def mX9_comes : MD := (yX9_comes, cX9_comes, 4, some .boolean)
abbrev cJ6_bitCount_0f7a4 : ByteArray := prog_15_method_49_code
def yJ6_bitCount_0f7a4 : MethodName := ⟨RJ6, "bitCount", "(I)I"⟩
def mJ6_bitCount_0f7a4 : MD := (yJ6_bitCount_0f7a4, cJ6_bitCount_0f7a4, 1, some .int)
abbrev cJ9_max_7cf53 : ByteArray := prog_17_method_65_code
def yJ9_max_7cf53 : MethodName := ⟨RJ9, "max", "(II)I"⟩
def mJ9_max_7cf53 : MD := (yJ9_max_7cf53, cJ9_max_7cf53, 2, some .int)
abbrev cJ9_min_7cf53 : ByteArray := prog_17_method_69_code
def yJ9_min_7cf53 : MethodName := ⟨RJ9, "min", "(II)I"⟩
def mJ9_min_7cf53 : MD := (yJ9_min_7cf53, cJ9_min_7cf53, 2, some .int)
abbrev cJxa1e45_init_da8c8 : ByteArray := prog_19_method_1_code
def yJxa1e45_init_da8c8 : MethodName := ⟨RJxa1e45, "<init>", "()V"⟩
def mJxa1e45_init_da8c8 : MD := (yJxa1e45_init_da8c8, cJxa1e45_init_da8c8, 1, none)
abbrev cJxc12de_init_da8c8 : ByteArray := prog_20_method_1_code
def yJxc12de_init_da8c8 : MethodName := ⟨RJxc12de, "<init>", "()V"⟩
def mJxc12de_init_da8c8 : MD := (yJxc12de_init_da8c8, cJxc12de_init_da8c8, 1, none)
abbrev cJx4a65c_init_da8c8 : ByteArray := prog_21_method_2_code
def yJx4a65c_init_da8c8 : MethodName := ⟨RJx4a65c, "<init>", "()V"⟩
def mJx4a65c_init_da8c8 : MD := (yJx4a65c_init_da8c8, cJx4a65c_init_da8c8, 1, none)
abbrev cJx4a65c_grow_92f84 : ByteArray := prog_21_method_6_code
def yJx4a65c_grow_92f84 : MethodName := ⟨RJx4a65c, "grow", "(I)[Ljava/lang/Object;"⟩
def mJx4a65c_grow_92f84 : MD := (yJx4a65c_grow_92f84, cJx4a65c_grow_92f84, 4, some (.array (.object "java/lang/Object")))
abbrev cJx4a65c_grow_d5877 : ByteArray := prog_21_method_7_code
def yJx4a65c_grow_d5877 : MethodName := ⟨RJx4a65c, "grow", "()[Ljava/lang/Object;"⟩
def mJx4a65c_grow_d5877 : MD := (yJx4a65c_grow_d5877, cJx4a65c_grow_d5877, 1, some (.array (.object "java/lang/Object")))
abbrev cJx4a65c_size_8abf5 : ByteArray := prog_21_method_8_code
def yJx4a65c_size_8abf5 : MethodName := ⟨RJx4a65c, "size", "()I"⟩
def mJx4a65c_size_8abf5 : MD := (yJx4a65c_size_8abf5, cJx4a65c_size_8abf5, 1, some .int)
abbrev cJx4a65c_elementData_915e3 : ByteArray := prog_21_method_18_code
def yJx4a65c_elementData_915e3 : MethodName := ⟨RJx4a65c, "elementData", "(I)Ljava/lang/Object;"⟩
def mJx4a65c_elementData_915e3 : MD := (yJx4a65c_elementData_915e3, cJx4a65c_elementData_915e3, 2, some (.object "java/lang/Object"))
abbrev cJx4a65c_get_915e3 : ByteArray := prog_21_method_20_code
def yJx4a65c_get_915e3 : MethodName := ⟨RJx4a65c, "get", "(I)Ljava/lang/Object;"⟩
def mJx4a65c_get_915e3 : MD := (yJx4a65c_get_915e3, cJx4a65c_get_915e3, 2, some (.object "java/lang/Object"))
abbrev cJx4a65c_add_72be8 : ByteArray := prog_21_method_24_code
def yJx4a65c_add_72be8 : MethodName := ⟨RJx4a65c, "add", "(Ljava/lang/Object;[Ljava/lang/Object;I)V"⟩
def mJx4a65c_add_72be8 : MD := (yJx4a65c_add_72be8, cJx4a65c_add_72be8, 4, none)
abbrev cJx4a65c_add_9ea2d : ByteArray := prog_21_method_25_code
def yJx4a65c_add_9ea2d : MethodName := ⟨RJx4a65c, "add", "(Ljava/lang/Object;)Z"⟩
def mJx4a65c_add_9ea2d : MD := (yJx4a65c_add_9ea2d, cJx4a65c_add_9ea2d, 2, some .boolean)
abbrev cJ7_copyOf_1904c : ByteArray := prog_22_method_119_code
def yJ7_copyOf_1904c : MethodName := ⟨RJ7, "copyOf", "([Ljava/lang/Object;I)[Ljava/lang/Object;"⟩
def mJ7_copyOf_1904c : MD := (yJ7_copyOf_1904c, cJ7_copyOf_1904c, 2, some (.array (.object "java/lang/Object")))
abbrev cJ7_copyOf_6403c : ByteArray := prog_22_method_120_code
def yJ7_copyOf_6403c : MethodName := ⟨RJ7, "copyOf", "([Ljava/lang/Object;ILjava/lang/Class;)[Ljava/lang/Object;"⟩
def mJ7_copyOf_6403c : MD := (yJ7_copyOf_6403c, cJ7_copyOf_6403c, 4, some (.array (.object "java/lang/Object")))
abbrev cJ15_checkIndex_7cf53 : ByteArray := prog_25_method_17_code
def yJ15_checkIndex_7cf53 : MethodName := ⟨RJ15, "checkIndex", "(II)I"⟩
def mJ15_checkIndex_7cf53 : MD := (yJ15_checkIndex_7cf53, cJ15_checkIndex_7cf53, 2, some .int)
abbrev cJ8_newLength_cabcc : ByteArray := prog_28_method_27_code
def yJ8_newLength_cabcc : MethodName := ⟨RJ8, "newLength", "(III)I"⟩
def mJ8_newLength_cabcc : MD := (yJ8_newLength_cabcc, cJ8_newLength_cabcc, 4, some .int)
abbrev cJ8_hugeLength_7cf53 : ByteArray := prog_28_method_28_code
def yJ8_hugeLength_7cf53 : MethodName := ⟨RJ8, "hugeLength", "(II)I"⟩
def mJ8_hugeLength_7cf53 : MD := (yJ8_hugeLength_7cf53, cJ8_hugeLength_7cf53, 3, some .int)
abbrev cJ3_checkIndex_8e157 : ByteArray := prog_29_method_11_code
def yJ3_checkIndex_8e157 : MethodName := ⟨RJ3, "checkIndex", "(IILjava/util/function/BiFunction;)I"⟩
def mJ3_checkIndex_8e157 : MD := (yJ3_checkIndex_8e157, cJ3_checkIndex_8e157, 3, some .int)
abbrev cL_at : ByteArray := method_2_code
def yL_at : MethodName := ⟨RL, "at", "([II)I"⟩
def mL_at : MD := (yL_at, cL_at, 2, some .int)
abbrev cL_mod : ByteArray := method_3_code
def yL_mod : MethodName := ⟨RL, "mod", "(II)I"⟩
def mL_mod : MD := (yL_mod, cL_mod, 3, some .int)
abbrev cL_placeIn : ByteArray := method_4_code
def yL_placeIn : MethodName := ⟨RL, "placeIn", "(III)I"⟩
def mL_placeIn : MD := (yL_placeIn, cL_placeIn, 4, some .int)
abbrev cL_place : ByteArray := method_5_code
def yL_place : MethodName := ⟨RL, "place", "(II)I"⟩
def mL_place : MD := (yL_place, cL_place, 2, some .int)
abbrev cL_deal : ByteArray := method_6_code
def yL_deal : MethodName := ⟨RL, "deal", "(I)[I"⟩
def mL_deal : MD := (yL_deal, cL_deal, 6, some (.array .int))
abbrev cL_isClash : ByteArray := method_7_code
def yL_isClash : MethodName := ⟨RL, "isClash", "(LRolledPicks;LRolledPicksLaw$Book;)Z"⟩
def mL_isClash : MD := (yL_isClash, cL_isClash, 2, some .boolean)
abbrev cL_told : ByteArray := method_8_code
def yL_told : MethodName := ⟨RL, "told", "(LRolledPicks;LRolledPicksLaw$Book;[I)Z"⟩
def mL_told : MD := (yL_told, cL_told, 8, some .boolean)
abbrev cL_falls : ByteArray := method_9_code
def yL_falls : MethodName := ⟨RL, "falls", "(LRolledPicks;LRolledPicksLaw$Book;I)Z"⟩
def mL_falls : MD := (yL_falls, cL_falls, 3, some .boolean)
abbrev cL_made : ByteArray := method_10_code
def yL_made : MethodName := ⟨RL, "made", "(LRolledPicks;LRolledPicksLaw$Book;[III)Z"⟩
def mL_made : MD := (yL_made, cL_made, 11, some .boolean)
abbrev cL_same : ByteArray := method_11_code
def yL_same : MethodName := ⟨RL, "same", "(LRolledPicks;LRolledPicksLaw$Book;)Z"⟩
def mL_same : MD := (yL_same, cL_same, 5, some .boolean)
end
section
/-! THE LOGIC: a heap of my own (typed contents by address), values of my own, and 'Ev': from here the machine comes to the method's end with Q. One rule an instruction (part 04), out of the kit's rows. -/
def TT : List Cond := lw_tbl.filter goodWord
theorem tt_of {w : Cond} (i : Nat) (h : lw_tbl[i]? = some w) (g : goodWord w = true) : w ∈ TT := List.mem_filter.mpr ⟨List.mem_of_getElem? h, g⟩
theorem tt_in {w : Cond} (h : w ∈ TT) : w ∈ lw_tbl := (List.mem_filter.mp h).1
theorem tt_good {w : Cond} (h : w ∈ TT) : goodWord w = true := (List.mem_filter.mp h).2
theorem tt_goodIn {ws : List Cond} (h : ∀ w ∈ ws, w ∈ TT) : GoodIn TT ws := fun w hw => ⟨h w hw, good_of_word (tt_good (h w hw))⟩
/-- values: ints, longs, references (none: null; else an address of mine) -/
abbrev VV : Type := Int32 ⊕ (Int64 ⊕ (Option Nat ⊕ Option Nat))
abbrev vI (x : Int32) : VV := .inl x
abbrev vL (x : Int64) : VV := .inr (.inl x)
abbrev vR (r : Option Nat) : VV := .inr (.inr (.inl r))
/-- a reference by the machine's own address -/
abbrev vX (r : Option Nat) : VV := .inr (.inr (.inr r))
/-- a heap: ints, longs, references by address and place; the kind of each address, its length, the next address -/
abbrev HP : Type := (Nat → Nat → Int32) × (Nat → Nat → Int64) × (Nat → Nat → Option Nat) × (Nat → Nat) × (Nat → Nat) × Nat
abbrev hI (h : HP) : Nat → Nat → Int32 := h.1
abbrev hL (h : HP) : Nat → Nat → Int64 := h.2.1
abbrev hR (h : HP) : Nat → Nat → Option Nat := h.2.2.1
abbrev hT (h : HP) : Nat → Nat := h.2.2.2.1
abbrev hN (h : HP) : Nat → Nat := h.2.2.2.2.1
abbrev hZ (h : HP) : Nat := h.2.2.2.2.2
def up2 {α : Type} (f : Nat → Nat → α) (a i : Nat) (v : α) : Nat → Nat → α := fun b j => if b = a ∧ j = i then v else f b j
def wI (h : HP) (a i : Nat) (v : Int32) : HP := (up2 h.1 a i v, h.2)
def wL (h : HP) (a i : Nat) (v : Int64) : HP := (h.1, up2 h.2.1 a i v, h.2.2)
def wR (h : HP) (a i : Nat) (v : Option Nat) : HP := (h.1, h.2.1, up2 h.2.2.1 a i v, h.2.2.2)
/-- one more cell, of kind t and length n, all 0 -/
def nw (h : HP) (t n : Nat) : HP :=
  (fun b j => if b = hZ h then 0 else hI h b j, fun b j => if b = hZ h then 0 else hL h b j, fun b j => if b = hZ h then none else hR h b j,
   fun b => if b = hZ h then t else hT h b, fun b => if b = hZ h then n else hN h b, hZ h + 1)
theorem up2_s {α : Type} {f : Nat → Nat → α} {a i : Nat} {v : α} : up2 f a i v a i = v := if_pos ⟨rfl, rfl⟩
theorem up2_a {α : Type} {f : Nat → Nat → α} {a i b j : Nat} {v : α} (h : b ≠ a) : up2 f a i v b j = f b j := if_neg (fun q => h q.1)
theorem up2_i {α : Type} {f : Nat → Nat → α} {a i b j : Nat} {v : α} (h : j ≠ i) : up2 f a i v b j = f b j := if_neg (fun q => h q.2)
/-- what stays through the whole run: the launch; the first address of the machine's that is ours; those of statics and strings; the classes' numbers and slots; the array classes' numbers; the script -/
abbrev EX : Type := Launch × Nat × (Nat → Nat) × va_G × (Nat → ClassId) × Nat × (Nat → Int32) × (Nat → Nat) × Option Nat
abbrev xl (X : EX) : Launch := X.1
abbrev xb (X : EX) : Nat := X.2.1
abbrev xS (X : EX) : Nat → Nat := X.2.2.1
abbrev xD (X : EX) : va_G := X.2.2.2.1
abbrev xA (X : EX) : Nat → ClassId := X.2.2.2.2.1
abbrev xN (X : EX) : Nat := X.2.2.2.2.2.1
abbrev xs (X : EX) : Nat → Int32 := X.2.2.2.2.2.2.1
/-- where the letters of the strings lie, and a static of the platform -/
abbrev xV (X : EX) : Nat → Nat := X.2.2.2.2.2.2.2.1
abbrev xF (X : EX) : Option Nat := X.2.2.2.2.2.2.2.2
/-- where an address of mine lies in the machine -/
def ad (X : EX) (k : Nat) : Nat := if k < 32 then xS X k else xb X + (k - 32)
def cv (X : EX) : VV → Value
  | .inl x => .int x
  | .inr (.inl x) => .long x
  | .inr (.inr (.inl r)) => va_rf (r.map (ad X))
  | .inr (.inr (.inr r)) => va_rf r
/-- how many fields, and whether a field is a reference -/
def nF : Nat → Nat
  | 0 => 6 | 1 => 7 | 2 => 1 | 3 => 4 | 4 => 4 | 5 => 3 | 6 => 1 | 7 => 4 | 8 => 9 | 9 => 11 | _ => 3
def tyF : Nat → Nat → FieldType
  | 0 => tyX0 | 1 => tyX1 | 2 => tyX2 | 3 => tyX3 | 4 => tyX4 | 5 => tyX5 | 6 => tyX6 | 7 => tyX7 | 8 => tyX8 | 9 => tyX9 | _ => tyJx4a65c
def isR (c k : Nat) : Bool := match tyF c k with
  | .object _ => true
  | .array _ => true
  | _ => false
/-- a cell's picture, as the kit's worlds have it: kinds 1 to 11 objects of vwCl, 12 to 14 arrays of bytes, ints, longs, 16 to 20 arrays of references -/
def ent (X : EX) (h : HP) (k : Nat) : va_E :=
  if hT h k ≤ 11 then .inr (hT h k - 1, (List.range (nF (hT h k - 1))).map (fun i => if isR (hT h k - 1) i then va_rf ((hR h k i).map (ad X)) else .int (hI h k i)))
  else if hT h k = 14 then .inl (xA X 14, hN h k, .inr (.inl (hL h k)))
  else if hT h k ≤ 15 then .inl (xA X (hT h k), hN h k, .inl (hI h k))
  else .inl (xA X (hT h k), hN h k, .inr (.inr (.inr (.inr (fun i => (hR h k i).map (ad X))))))
def wl (X : EX) (h : HP) : va_W := (List.range (hZ h - 32)).map (fun j => (xb X + j, ent X h (j + 32)))
def tys (X : EX) : List (ClassId × FieldType) := [(xA X 12, .byte), (xA X 12, .byte), (xA X 13, .int), (xA X 14, .long), (xA X 13, .int), (xA X 16, .object RX0), (xA X 17, .object RX1), (xA X 18, .object RX5), (xA X 19, .object RX6), (xA X 20, .object "java/lang/Object")]
/-- what is ours in the machine's heap -/
def AA (X : EX) : Nat → Prop := fun q => xb X ≤ q
theorem wl_get {X : EX} {h : HP} {a : Nat} (h1 : 32 ≤ a) (h2 : a < hZ h) : (wl X h)[a - 32]? = some (ad X a, ent X h a) := by
  unfold wl ad
  rw [List.getElem?_map, List.getElem?_range (by omega), if_neg (by omega)]
  show some (xb X + (a - 32), ent X h (a - 32 + 32)) = _
  rw [show a - 32 + 32 = a by omega]
theorem wl_len {X : EX} {h : HP} : (wl X h).length = hZ h - 32 := by simp [wl]
theorem wl_set {X : EX} {h h' : HP} {a : Nat} {E : va_E} (h1 : 32 ≤ a) (h2 : a < hZ h) (hz : hZ h' = hZ h) (he : ent X h' a = E) (ho : ∀ k, k ≠ a → ent X h' k = ent X h k) : (wl X h).set (a - 32) (ad X a, E) = wl X h' := by
  apply List.ext_getElem?
  intro j
  rw [List.getElem?_set]
  by_cases hj : j < hZ h - 32
  · have g := wl_get (X := X) (h := h) (a := j + 32) (by omega) (by omega)
    have g' := wl_get (X := X) (h := h') (a := j + 32) (by omega) (by omega)
    rw [Nat.add_sub_cancel] at g g'
    rw [g, g', wl_len]
    by_cases hja : a - 32 = j
    · have : a = j + 32 := by omega
      subst this
      rw [if_pos (by omega), if_pos (by omega), he]
    · rw [if_neg hja, ho _ (by omega)]
  · rw [if_neg (by omega), List.getElem?_eq_none (by rw [wl_len]; omega), List.getElem?_eq_none (by rw [wl_len]; omega)]
theorem wl_push {X : EX} {h h' : HP} {E : va_E} (h1 : 32 ≤ hZ h) (hz : hZ h' = hZ h + 1) (he : ent X h' (hZ h) = E) (ho : ∀ k, k < hZ h → ent X h' k = ent X h k) : wl X h ++ [(ad X (hZ h), E)] = wl X h' := by
  apply List.ext_getElem?
  intro j
  by_cases hj : j < hZ h - 32
  · have g := wl_get (X := X) (h := h) (a := j + 32) (by omega) (by omega)
    have g' := wl_get (X := X) (h := h') (a := j + 32) (by omega) (by omega)
    rw [Nat.add_sub_cancel] at g g'
    rw [List.getElem?_append_left (by rw [wl_len]; exact hj), g, g', ho _ (by omega)]
  · rw [List.getElem?_append_right (by rw [wl_len]; omega), wl_len]
    by_cases hj2 : j = hZ h - 32
    · subst hj2
      have g' := wl_get (X := X) (h := h') (a := hZ h) (by omega) (by omega)
      rw [g', he, Nat.sub_self]
      rfl
    · rw [List.getElem?_eq_none (by simp; omega), List.getElem?_eq_none (by rw [wl_len]; omega)]
theorem wl_D (X : EX) (h : HP) : va_D (AA X) (wl X h) := by
  have key : ∀ (i : Nat) (p : Nat × va_E), (wl X h)[i]? = some p → p.1 = xb X + i := by
    intro i p hp
    unfold wl at hp
    rw [List.getElem?_map] at hp
    cases hq : (List.range (hZ h - 32))[i]? with
    | none => rw [hq] at hp; cases hp
    | some j =>
      rw [hq] at hp
      have hij : j = i := by
        obtain ⟨h3, h4⟩ := List.getElem?_eq_some_iff.mp hq
        simpa using h4.symm
      subst hij
      cases hp
      rfl
  refine ⟨fun i j p q hp hq e => ?_, fun k q hq => ?_⟩
  · have e1 := key i p hp
    have e2 := key j q hq
    omega
  · show xb X ≤ q.1
    rw [key k q hq]
    omega
/-- my heap is the machine's -/
def CorH (X : EX) (h : HP) (H : Heap) : Prop := H.size = xb X + (hZ h - 32) ∧ 32 ≤ hZ h ∧ va_P (xD X) vwCl (wl X h) H
/-- words of nest mates: good at every warmed state -/
def nestW : List Cond := [.methodLinkNest RX8 9 yX0_init RX8, .methodLinkNest RX8 22 yX2_init RX8, .methodLinkNest RX3 11 yX7_init RX8, .methodLinkNest RX3 30 yX6_init RX8, .methodLinkNest RX8 53 yX5_init RX8, .methodLinkNest RX0 56 yX8_isOutside RX8, .fieldLinkNest RX0 40 RX8 "YEAR_STEP" "[I" RX8, .fieldLinkNest RX0 43 RX8 "OPEN_LEFT" "[I" RX8, .methodLinkNest RX1 40 yX8_placeUnder RX8, .methodLinkNest RL 117 yX9_init RL, .fieldLinkNest RL 83 RX9 "ever" "Ljava/util/ArrayList;" RL, .fieldLinkNest RL 111 RX9 "when" "Ljava/util/ArrayList;" RL, .fieldLinkNest RL 87 RX9 "there" "[I" RL, .fieldLinkNest RL 43 RX9 "many" "I" RL, .fieldLinkNest RL 40 RX9 "fallen" "I" RL, .fieldLinkNest RL 64 RX9 "orders" "[I" RL, .fieldLinkNest RL 28 RX9 "clashS" "I" RL, .fieldLinkNest RL 34 RX9 "clashP" "I" RL, .fieldLinkNest RL 37 RX9 "clashHow" "I" RL, .methodLinkNest RX9 45 yL_placeIn RL, .methodLinkNest RX9 54 yL_place RL]
def aoW : List String := [RX0, RX1, RX5, RX6, "java/lang/Object"]
/-- the static arrays -/
def stW : List (String × List Int32) := [("OPEN_LEFT", [1296, 216, 36, 6, 1]), ("PLACE_OF", [0, 1, 2, 0, 2, 1, 1, 0, 2, 2, 0, 1, 1, 2, 0, 2, 1, 0]), ("YEAR_STEP", [216, 36, 6, 1])]
/-- the law's ORDERS -/
def orW : List (List Int32) := [[0, 1, 2], [0, 2, 1], [1, 0, 2], [1, 2, 0], [2, 0, 1], [2, 1, 0]]
/-- what the tables say of classes, at any state of the run -/
def Kn (X : EX) (U : State) : Prop := va_K (xD X) vwCl (tys X) U ∧ (∀ w ∈ nestW, va_Nw w U) ∧ (∀ C ∈ aoW, va_AO C U) ∧ va_Nw (.castable "[I" "java/lang/Object") U
/-- what lies below our cells, and is never written -/
def Pre (X : EX) (U : State) (H : Heap) : Prop :=
  (∀ i q, stW[i]? = some q → va_Z RX8 q.1 "[I" (.ref (xS X (i + 1))) (AA X) U H ∧ va_T .int (xS X (i + 1)) q.2.length (fun j => .int (q.2.getD j 0)) (AA X) U H) ∧
  va_T .int (xS X 6) (xN X) (fun j => .int (xs X j)) (AA X) U H ∧
  (va_Z RL "ORDERS" "[[I" (.ref (xS X 7)) (AA X) U H ∧ va_T (.array .int) (xS X 7) 6 (fun j => .ref (xS X (j + 8))) (AA X) U H) ∧
  (∀ i q, orW[i]? = some q → va_T .int (xS X (i + 8)) q.length (fun j => .int (q.getD j 0)) (AA X) U H) ∧
  va_Z RJx4a65c "DEFAULTCAPACITY_EMPTY_ELEMENTDATA" "[Ljava/lang/Object;" (.ref (xS X 14)) (AA X) U H ∧ va_T (.object "java/lang/Object") (xS X 14) 0 (fun _ => .null) (AA X) U H
/-- all of it -/
def Cor (X : EX) (h : HP) (U : State) : Prop := CorH X h U.heap ∧ Kn X U ∧ Pre X U U.heap
def rmd (d mc ms : Nat) : Room := { frames := d, cells := mc, slots := ms, locals := 40 * d }
def cw (y : MD) : Cond := .code y.1 y.2.1 y.2.2.1 y.2.2.2
def wsM (y : MD) : List Cond := cw y :: TT
def Qm (X : EX) (Q : Option VV → HP → Prop) : Array Value → State → Outcome → State → Prop := fun _ st oc t => (∃ (v : Option VV) (h' : HP), oc = .returned (v.map (cv X)) ∧ Q v h' ∧ Cor X h' t) ∧ va_F (AA X) st t
/-- A CONTRACT: y, begun with the arguments av over the heap h, returns with Q, at a depth of d calls, making mc cells of ms slots at most -/
def Ct (X : EX) (y : MD) (d mc ms : Nat) (av : List VV) (h : HP) (Q : Option VV → HP → Prop) : Prop :=
  Met (xl X) y.1 (wsM y) (rmd d mc ms) (va_Pc (av.map (cv X)) (fun U => Cor X h U)) (Qm X Q) mc ms (AA X)
/-- what holds of the method's own frame all the while -/
def Cx (X : EX) (y : MD) (p : Program) (s : State) (m : MethodId) (args : Array Value) (meth : Method) (c : Code) : Prop :=
  p.tables.exec = Jvm.exec ∧ c.code = y.2.1 ∧ c.maxLocals = y.2.2.1 ∧ meth.sig.returnType = y.2.2.2 ∧ s.vm.findClass y.1.cls = some m.cls ∧ (∀ w ∈ TT, w.before args s = true) ∧ meth.locks = false ∧ meth.name = y.1.name ∧ Kn X s ∧ Pre X s s.heap ∧ xb X ≤ s.heap.size
/-- the locals: the newest entry of a place counts; none: dead -/
abbrev ZL : Type := List (Nat × Option VV)
def gL : ZL → Nat → Option VV
  | [], _ => none
  | (j, v) :: r, i => if i = j then v else gL r i
def is2 : Option VV → Bool
  | some (.inr (.inl _)) => true
  | _ => false
/-- a store at i: a long that begins one place before dies -/
def stL (ls : ZL) (i : Nat) (v : VV) : ZL := match i with
  | 0 => (0, some v) :: ls
  | k + 1 => if is2 (gL ls k) then (k + 1, some v) :: (k, none) :: ls else (k + 1, some v) :: ls
def stL2 (ls : ZL) (i : Nat) (v : VV) : ZL := (i + 1, none) :: stL ls i v
def Lok (X : EX) (nL : Nat) (ls : ZL) (lsr : Array Slot) : Prop := ∃ lv : List (Nat × Value), lv_has lsr nL lv ∧ ∀ i v, gL ls i = some v → (i, cv X v) ∈ lv
def Ev (X : EX) (y : MD) (d mc ms : Nat) (Q : Option VV → HP → Prop) (cells slots pc : Nat) (ls : ZL) (st : List VV) (h : HP) : Prop :=
  ∀ (p : Program) (e : Env) (s : State) (m : MethodId) (args : Array Value) (below : List Frame) (meth : Method) (c : Code) (H : Heap) (locs : List Loc) (lsr : Array Slot),
    Cx X y p s m args meth c → CorH X h H → va_S (AA X) s.heap H locs → Lok X y.2.2.1 ls lsr →
    W p (xl X) e (rmd d mc ms) s m args below meth c H locs cells slots (MQ below (Qm X Q) args s mc ms (AA X)) (F0 m pc lsr (st.map (cv X)))
/-- an instruction, its length, the next place -/
def At (b : ByteArray) (pc : Nat) (i : Instr) (n pc' : Nat) : Prop := decode b pc = .ok (i, n) ∧ pc' = pc + n
def Br (b : ByteArray) (pc : Nat) (i : Instr) (off : Int) (pc' tgt : Nat) : Prop := decode b pc = .ok (i, 3) ∧ pc' = pc + 3 ∧ (pc : Int) + off = (tgt : Int)
end
section
/-! RULES: locals, constants, arithmetic, branches, returns (written by wip/p45/gen4.py) -/
theorem cv_cat {X : EX} {v : VV} : (cv X v).category = if is2 (some v) then 2 else 1 := by
  rcases v with x | x | r | r
  · rfl
  · rfl
  · cases r <;> rfl
  · cases r <;> rfl
theorem stL_in {X : EX} {lv : List (Nat × Value)} {ls : ZL} {i0 : Nat} {v0 : VV} (hg : ∀ i v, gL ls i = some v → (i, cv X v) ∈ lv) :
    ∀ i v, gL (stL ls i0 v0) i = some v → (i, cv X v) ∈ (i0, cv X v0) :: lv.filter (fun q => !(q.1 == i0) && !(q.1 + 1 == i0 && q.2.category == 2)) := by
  intro i v h
  by_cases hi : i = i0
  · subst hi
    have : v = v0 := by
      unfold stL at h
      cases i with
      | zero => simp [gL] at h; exact h.symm
      | succ k =>
        dsimp only at h
        split at h <;> simp [gL] at h <;> exact h.symm
    subst this
    exact List.mem_cons_self
  · refine List.mem_cons_of_mem _ (List.mem_filter.mpr ⟨?_, ?_⟩)
    · refine hg i v ?_
      unfold stL at h
      cases i0 with
      | zero => simpa [gL, hi] using h
      | succ k =>
        dsimp only at h
        split at h
        · simp only [gL, hi, if_false] at h
          by_cases hk : i = k
          · rw [if_pos hk] at h; cases h
          · rw [if_neg hk] at h; exact h
        · simpa [gL, hi] using h
    · simp only [Bool.and_eq_true, Bool.not_eq_true', beq_eq_false_iff_ne, ne_eq, hi, not_false_eq_true, true_and, Bool.and_eq_false_iff]
      by_cases hk : i + 1 = i0
      · right
        subst hk
        unfold stL at h
        dsimp only at h
        split at h
        · simp [gL] at h
        · next hn =>
          simp [gL] at h
          rw [h] at hn
          rw [cv_cat]
          simp [hn]
      · left; exact hk
theorem stL2_in {X : EX} {lv : List (Nat × Value)} {ls : ZL} {i0 : Nat} {v0 : VV} (hg : ∀ i v, gL ls i = some v → (i, cv X v) ∈ lv) :
    ∀ i v, gL (stL2 ls i0 v0) i = some v → (i, cv X v) ∈ (i0, cv X v0) :: lv.filter (fun q => !(q.1 == i0) && (!(q.1 == i0 + 1) && !(q.1 + 1 == i0 && q.2.category == 2))) := by
  intro i v h
  unfold stL2 at h
  simp only [gL] at h
  by_cases hi : i = i0 + 1
  · rw [if_pos hi] at h; cases h
  · rw [if_neg hi] at h
    rcases List.mem_cons.mp (stL_in hg i v h) with q | q
    · rw [q]; exact List.mem_cons_self
    · refine List.mem_cons_of_mem _ ?_
      rw [List.mem_filter] at q ⊢
      refine ⟨q.1, ?_⟩
      have q2 := q.2
      simp only [Bool.and_eq_true, Bool.not_eq_true', beq_eq_false_iff_ne, ne_eq] at q2 ⊢
      exact ⟨q2.1, hi, q2.2⟩
section R4
variable {X : EX} {y : MD} {d mc ms : Nat} {Q : Option VV → HP → Prop} {cells slots pc pc' : Nat} {ls : ZL} {st : List VV} {h : HP}

theorem e_iconst {n : Int} {v : Int32} (hd : At y.2.1 pc (.iconst n) 1 pc') (he : Int32.ofInt n = v) (k : Ev X y d mc ms Q cells slots pc' ls (vI v :: st) h) : Ev X y d mc ms Q cells slots pc ls (st) h := by
  obtain ⟨hd, rfl⟩ := hd
  intro p e s m args below meth c H locs lsr C hC hS hl
  obtain ⟨lv, hv, hg⟩ := id hl
  exact lv_iconst C.1 C.2.1 hd he (k p e s m args below meth c H locs lsr C hC hS hl)
theorem e_bipush {n : Int} {v : Int32} (hd : At y.2.1 pc (.bipush n) 2 pc') (he : (Int8.ofInt n).toInt32 = v) (k : Ev X y d mc ms Q cells slots pc' ls (vI v :: st) h) : Ev X y d mc ms Q cells slots pc ls (st) h := by
  obtain ⟨hd, rfl⟩ := hd
  intro p e s m args below meth c H locs lsr C hC hS hl
  obtain ⟨lv, hv, hg⟩ := id hl
  exact lv_bipush C.1 C.2.1 hd he (k p e s m args below meth c H locs lsr C hC hS hl)
theorem e_sipush {n : Int} {v : Int32} (hd : At y.2.1 pc (.sipush n) 3 pc') (he : (Int16.ofInt n).toInt32 = v) (k : Ev X y d mc ms Q cells slots pc' ls (vI v :: st) h) : Ev X y d mc ms Q cells slots pc ls (st) h := by
  obtain ⟨hd, rfl⟩ := hd
  intro p e s m args below meth c H locs lsr C hC hS hl
  obtain ⟨lv, hv, hg⟩ := id hl
  exact lv_sipush C.1 C.2.1 hd he (k p e s m args below meth c H locs lsr C hC hS hl)
theorem e_lconst {n : Fin 2} {v : Int64} (hd : At y.2.1 pc (.lconst n) 1 pc') (he : Int64.ofNat (n : Nat) = v) (k : Ev X y d mc ms Q cells slots pc' ls (vL v :: st) h) : Ev X y d mc ms Q cells slots pc ls (st) h := by
  obtain ⟨hd, rfl⟩ := hd
  intro p e s m args below meth c H locs lsr C hC hS hl
  obtain ⟨lv, hv, hg⟩ := id hl
  exact lv_lconst C.1 C.2.1 hd he (k p e s m args below meth c H locs lsr C hC hS hl)
theorem e_aconst_null  (hd : At y.2.1 pc (.aconst_null) 1 pc') (k : Ev X y d mc ms Q cells slots pc' ls (vR none :: st) h) : Ev X y d mc ms Q cells slots pc ls (st) h := by
  obtain ⟨hd, rfl⟩ := hd
  intro p e s m args below meth c H locs lsr C hC hS hl
  obtain ⟨lv, hv, hg⟩ := id hl
  exact lv_null C.1 C.2.1 hd (k p e s m args below meth c H locs lsr C hC hS hl)
theorem e_iload_n {n : Fin 4} {x : Int32} (hd : At y.2.1 pc (.iload_n n) 1 pc') (hx : gL ls (n : Nat) = some (vI x)) (k : Ev X y d mc ms Q cells slots pc' ls (vI x :: st) h) : Ev X y d mc ms Q cells slots pc ls (st) h := by
  obtain ⟨hd, rfl⟩ := hd
  intro p e s m args below meth c H locs lsr C hC hS hl
  obtain ⟨lv, hv, hg⟩ := id hl
  exact lv_iload_n C.1 C.2.1 hd rfl (hv.2.2 _ (hg _ _ hx)) (k p e s m args below meth c H locs lsr C hC hS hl)
theorem e_iload {n : Nat} {x : Int32} (hd : At y.2.1 pc (.iload n) 2 pc') (hx : gL ls n = some (vI x)) (k : Ev X y d mc ms Q cells slots pc' ls (vI x :: st) h) : Ev X y d mc ms Q cells slots pc ls (st) h := by
  obtain ⟨hd, rfl⟩ := hd
  intro p e s m args below meth c H locs lsr C hC hS hl
  obtain ⟨lv, hv, hg⟩ := id hl
  exact lv_iload C.1 C.2.1 hd (hv.2.2 _ (hg _ _ hx)) (k p e s m args below meth c H locs lsr C hC hS hl)
theorem e_lload_n {n : Fin 4} {x : Int64} (hd : At y.2.1 pc (.lload_n n) 1 pc') (hx : gL ls (n : Nat) = some (vL x)) (k : Ev X y d mc ms Q cells slots pc' ls (vL x :: st) h) : Ev X y d mc ms Q cells slots pc ls (st) h := by
  obtain ⟨hd, rfl⟩ := hd
  intro p e s m args below meth c H locs lsr C hC hS hl
  obtain ⟨lv, hv, hg⟩ := id hl
  exact lv_lload_n C.1 C.2.1 hd rfl (hv.2.2 _ (hg _ _ hx)) (k p e s m args below meth c H locs lsr C hC hS hl)
theorem e_lload {n : Nat} {x : Int64} (hd : At y.2.1 pc (.lload n) 2 pc') (hx : gL ls n = some (vL x)) (k : Ev X y d mc ms Q cells slots pc' ls (vL x :: st) h) : Ev X y d mc ms Q cells slots pc ls (st) h := by
  obtain ⟨hd, rfl⟩ := hd
  intro p e s m args below meth c H locs lsr C hC hS hl
  obtain ⟨lv, hv, hg⟩ := id hl
  exact lv_lload C.1 C.2.1 hd (hv.2.2 _ (hg _ _ hx)) (k p e s m args below meth c H locs lsr C hC hS hl)
theorem e_aload_n {n : Fin 4} {r : Option Nat} (hd : At y.2.1 pc (.aload_n n) 1 pc') (hx : gL ls (n : Nat) = some (vR r)) (k : Ev X y d mc ms Q cells slots pc' ls (vR r :: st) h) : Ev X y d mc ms Q cells slots pc ls (st) h := by
  obtain ⟨hd, rfl⟩ := hd
  intro p e s m args below meth c H locs lsr C hC hS hl
  obtain ⟨lv, hv, hg⟩ := id hl
  have hx' := hv.2.2 _ (hg _ _ hx)
  have kk := k p e s m args below meth c H locs lsr C hC hS hl
  cases r with
  | none => exact lv_aload_nN C.1 C.2.1 hd rfl hx' kk
  | some a => exact lv_aload_n C.1 C.2.1 hd rfl hx' kk
theorem e_aload {n : Nat} {r : Option Nat} (hd : At y.2.1 pc (.aload n) 2 pc') (hx : gL ls n = some (vR r)) (k : Ev X y d mc ms Q cells slots pc' ls (vR r :: st) h) : Ev X y d mc ms Q cells slots pc ls (st) h := by
  obtain ⟨hd, rfl⟩ := hd
  intro p e s m args below meth c H locs lsr C hC hS hl
  obtain ⟨lv, hv, hg⟩ := id hl
  have hx' := hv.2.2 _ (hg _ _ hx)
  have kk := k p e s m args below meth c H locs lsr C hC hS hl
  cases r with
  | none => exact lv_aloadN C.1 C.2.1 hd hx' kk
  | some a => exact lv_aload C.1 C.2.1 hd hx' kk
theorem e_istore_n {n : Fin 4} {x : Int32} (hd : At y.2.1 pc (.istore_n n) 1 pc') (hn : ((n : Nat) : Nat) < y.2.2.1) (k : Ev X y d mc ms Q cells slots pc' (stL ls (n : Nat) (vI x)) (st) h) : Ev X y d mc ms Q cells slots pc ls (vI x :: st) h := by
  obtain ⟨hd, rfl⟩ := hd
  intro p e s m args below meth c H locs lsr C hC hS hl
  obtain ⟨lv, hv, hg⟩ := id hl
  exact lv_istore_n C.1 C.2.1 hd rfl hv (by simpa using hn) rfl (fun ls' h' => k p e s m args below meth c H locs ls' C hC hS ⟨_, h', stL_in (v0 := vI x) hg⟩)
theorem e_istore {n : Nat} {x : Int32} (hd : At y.2.1 pc (.istore n) 2 pc') (hn : (n : Nat) < y.2.2.1) (k : Ev X y d mc ms Q cells slots pc' (stL ls n (vI x)) (st) h) : Ev X y d mc ms Q cells slots pc ls (vI x :: st) h := by
  obtain ⟨hd, rfl⟩ := hd
  intro p e s m args below meth c H locs lsr C hC hS hl
  obtain ⟨lv, hv, hg⟩ := id hl
  exact lv_istore C.1 C.2.1 hd hv (by simpa using hn) rfl (fun ls' h' => k p e s m args below meth c H locs ls' C hC hS ⟨_, h', stL_in (v0 := vI x) hg⟩)
theorem e_lstore_n {n : Fin 4} {x : Int64} (hd : At y.2.1 pc (.lstore_n n) 1 pc') (hn : ((n : Nat) + 1 : Nat) < y.2.2.1) (k : Ev X y d mc ms Q cells slots pc' (stL2 ls (n : Nat) (vL x)) (st) h) : Ev X y d mc ms Q cells slots pc ls (vL x :: st) h := by
  obtain ⟨hd, rfl⟩ := hd
  intro p e s m args below meth c H locs lsr C hC hS hl
  obtain ⟨lv, hv, hg⟩ := id hl
  exact lv_lstore_n C.1 C.2.1 hd rfl hv (by simpa using hn) rfl (fun ls' h' => k p e s m args below meth c H locs ls' C hC hS ⟨_, h', stL2_in (v0 := vL x) hg⟩)
theorem e_lstore {n : Nat} {x : Int64} (hd : At y.2.1 pc (.lstore n) 2 pc') (hn : (n + 1 : Nat) < y.2.2.1) (k : Ev X y d mc ms Q cells slots pc' (stL2 ls n (vL x)) (st) h) : Ev X y d mc ms Q cells slots pc ls (vL x :: st) h := by
  obtain ⟨hd, rfl⟩ := hd
  intro p e s m args below meth c H locs lsr C hC hS hl
  obtain ⟨lv, hv, hg⟩ := id hl
  exact lv_lstore C.1 C.2.1 hd hv (by simpa using hn) rfl (fun ls' h' => k p e s m args below meth c H locs ls' C hC hS ⟨_, h', stL2_in (v0 := vL x) hg⟩)
theorem e_astore_n {n : Fin 4} {r : Option Nat} (hd : At y.2.1 pc (.astore_n n) 1 pc') (hn : ((n : Nat) : Nat) < y.2.2.1) (k : Ev X y d mc ms Q cells slots pc' (stL ls (n : Nat) (vR r)) (st) h) : Ev X y d mc ms Q cells slots pc ls (vR r :: st) h := by
  obtain ⟨hd, rfl⟩ := hd
  intro p e s m args below meth c H locs lsr C hC hS hl
  obtain ⟨lv, hv, hg⟩ := id hl
  cases r with
  | none => exact lv_astore_nN C.1 C.2.1 hd rfl hv (by simpa using hn) rfl (fun ls' h' => k p e s m args below meth c H locs ls' C hC hS ⟨_, h', stL_in (v0 := vR none) hg⟩)
  | some a => exact lv_astore_n C.1 C.2.1 hd rfl hv (by simpa using hn) rfl (fun ls' h' => k p e s m args below meth c H locs ls' C hC hS ⟨_, h', stL_in (v0 := vR (some a)) hg⟩)
theorem e_astore {n : Nat} {r : Option Nat} (hd : At y.2.1 pc (.astore n) 2 pc') (hn : (n : Nat) < y.2.2.1) (k : Ev X y d mc ms Q cells slots pc' (stL ls n (vR r)) (st) h) : Ev X y d mc ms Q cells slots pc ls (vR r :: st) h := by
  obtain ⟨hd, rfl⟩ := hd
  intro p e s m args below meth c H locs lsr C hC hS hl
  obtain ⟨lv, hv, hg⟩ := id hl
  cases r with
  | none => exact lv_astoreN C.1 C.2.1 hd hv (by simpa using hn) rfl (fun ls' h' => k p e s m args below meth c H locs ls' C hC hS ⟨_, h', stL_in (v0 := vR none) hg⟩)
  | some a => exact lv_astore C.1 C.2.1 hd hv (by simpa using hn) rfl (fun ls' h' => k p e s m args below meth c H locs ls' C hC hS ⟨_, h', stL_in (v0 := vR (some a)) hg⟩)
theorem e_iinc {n : Nat} {z : Int} {x v : Int32} (hd : At y.2.1 pc (.iinc n z) 3 pc') (hx : gL ls n = some (vI x)) (he : x + Int32.ofInt z = v) (hn : n < y.2.2.1) (k : Ev X y d mc ms Q cells slots pc' (stL ls n (vI v)) (st) h) : Ev X y d mc ms Q cells slots pc ls (st) h := by
  obtain ⟨hd, rfl⟩ := hd
  intro p e s m args below meth c H locs lsr C hC hS hl
  obtain ⟨lv, hv, hg⟩ := id hl
  obtain ⟨k0, hk0⟩ := List.getElem?_of_mem (hg _ _ hx)
  exact lv_iinc C.1 C.2.1 hd hv hk0 he hn rfl (fun ls' h' => k p e s m args below meth c H locs ls' C hC hS ⟨_, h', stL_in (v0 := vI v) hg⟩)
theorem e_iadd {x y0 : Int32} (hd : At y.2.1 pc (.iadd) 1 pc') (k : Ev X y d mc ms Q cells slots pc' ls (vI (x + y0) :: st) h) : Ev X y d mc ms Q cells slots pc ls (vI y0 :: vI x :: st) h := by
  obtain ⟨hd, rfl⟩ := hd
  intro p e s m args below meth c H locs lsr C hC hS hl
  obtain ⟨lv, hv, hg⟩ := id hl
  exact lv_iadd C.1 C.2.1 hd (k p e s m args below meth c H locs lsr C hC hS hl)
theorem e_isub {x y0 : Int32} (hd : At y.2.1 pc (.isub) 1 pc') (k : Ev X y d mc ms Q cells slots pc' ls (vI (x - y0) :: st) h) : Ev X y d mc ms Q cells slots pc ls (vI y0 :: vI x :: st) h := by
  obtain ⟨hd, rfl⟩ := hd
  intro p e s m args below meth c H locs lsr C hC hS hl
  obtain ⟨lv, hv, hg⟩ := id hl
  exact lv_isub C.1 C.2.1 hd (k p e s m args below meth c H locs lsr C hC hS hl)
theorem e_imul {x y0 : Int32} (hd : At y.2.1 pc (.imul) 1 pc') (k : Ev X y d mc ms Q cells slots pc' ls (vI (x * y0) :: st) h) : Ev X y d mc ms Q cells slots pc ls (vI y0 :: vI x :: st) h := by
  obtain ⟨hd, rfl⟩ := hd
  intro p e s m args below meth c H locs lsr C hC hS hl
  obtain ⟨lv, hv, hg⟩ := id hl
  exact lv_imul C.1 C.2.1 hd (k p e s m args below meth c H locs lsr C hC hS hl)
theorem e_iand {x y0 : Int32} (hd : At y.2.1 pc (.iand) 1 pc') (k : Ev X y d mc ms Q cells slots pc' ls (vI (x &&& y0) :: st) h) : Ev X y d mc ms Q cells slots pc ls (vI y0 :: vI x :: st) h := by
  obtain ⟨hd, rfl⟩ := hd
  intro p e s m args below meth c H locs lsr C hC hS hl
  obtain ⟨lv, hv, hg⟩ := id hl
  exact lv_iand C.1 C.2.1 hd (k p e s m args below meth c H locs lsr C hC hS hl)
theorem e_ior {x y0 : Int32} (hd : At y.2.1 pc (.ior) 1 pc') (k : Ev X y d mc ms Q cells slots pc' ls (vI (x ||| y0) :: st) h) : Ev X y d mc ms Q cells slots pc ls (vI y0 :: vI x :: st) h := by
  obtain ⟨hd, rfl⟩ := hd
  intro p e s m args below meth c H locs lsr C hC hS hl
  obtain ⟨lv, hv, hg⟩ := id hl
  exact lv_ior C.1 C.2.1 hd (k p e s m args below meth c H locs lsr C hC hS hl)
theorem e_ixor {x y0 : Int32} (hd : At y.2.1 pc (.ixor) 1 pc') (k : Ev X y d mc ms Q cells slots pc' ls (vI (x ^^^ y0) :: st) h) : Ev X y d mc ms Q cells slots pc ls (vI y0 :: vI x :: st) h := by
  obtain ⟨hd, rfl⟩ := hd
  intro p e s m args below meth c H locs lsr C hC hS hl
  obtain ⟨lv, hv, hg⟩ := id hl
  exact lv_ixor C.1 C.2.1 hd (k p e s m args below meth c H locs lsr C hC hS hl)
theorem e_ladd {x y0 : Int64} (hd : At y.2.1 pc (.ladd) 1 pc') (k : Ev X y d mc ms Q cells slots pc' ls (vL (x + y0) :: st) h) : Ev X y d mc ms Q cells slots pc ls (vL y0 :: vL x :: st) h := by
  obtain ⟨hd, rfl⟩ := hd
  intro p e s m args below meth c H locs lsr C hC hS hl
  obtain ⟨lv, hv, hg⟩ := id hl
  exact lv_ladd C.1 C.2.1 hd (k p e s m args below meth c H locs lsr C hC hS hl)
theorem e_lsub {x y0 : Int64} (hd : At y.2.1 pc (.lsub) 1 pc') (k : Ev X y d mc ms Q cells slots pc' ls (vL (x - y0) :: st) h) : Ev X y d mc ms Q cells slots pc ls (vL y0 :: vL x :: st) h := by
  obtain ⟨hd, rfl⟩ := hd
  intro p e s m args below meth c H locs lsr C hC hS hl
  obtain ⟨lv, hv, hg⟩ := id hl
  exact lv_lsub C.1 C.2.1 hd (k p e s m args below meth c H locs lsr C hC hS hl)
theorem e_land {x y0 : Int64} (hd : At y.2.1 pc (.land) 1 pc') (k : Ev X y d mc ms Q cells slots pc' ls (vL (x &&& y0) :: st) h) : Ev X y d mc ms Q cells slots pc ls (vL y0 :: vL x :: st) h := by
  obtain ⟨hd, rfl⟩ := hd
  intro p e s m args below meth c H locs lsr C hC hS hl
  obtain ⟨lv, hv, hg⟩ := id hl
  exact lv_land C.1 C.2.1 hd (k p e s m args below meth c H locs lsr C hC hS hl)
theorem e_lor {x y0 : Int64} (hd : At y.2.1 pc (.lor) 1 pc') (k : Ev X y d mc ms Q cells slots pc' ls (vL (x ||| y0) :: st) h) : Ev X y d mc ms Q cells slots pc ls (vL y0 :: vL x :: st) h := by
  obtain ⟨hd, rfl⟩ := hd
  intro p e s m args below meth c H locs lsr C hC hS hl
  obtain ⟨lv, hv, hg⟩ := id hl
  exact lv_lor C.1 C.2.1 hd (k p e s m args below meth c H locs lsr C hC hS hl)
theorem e_lxor {x y0 : Int64} (hd : At y.2.1 pc (.lxor) 1 pc') (k : Ev X y d mc ms Q cells slots pc' ls (vL (x ^^^ y0) :: st) h) : Ev X y d mc ms Q cells slots pc ls (vL y0 :: vL x :: st) h := by
  obtain ⟨hd, rfl⟩ := hd
  intro p e s m args below meth c H locs lsr C hC hS hl
  obtain ⟨lv, hv, hg⟩ := id hl
  exact lv_lxor C.1 C.2.1 hd (k p e s m args below meth c H locs lsr C hC hS hl)
theorem e_ishl {x y0 : Int32} (hd : At y.2.1 pc (.ishl) 1 pc') (k : Ev X y d mc ms Q cells slots pc' ls (vI (x <<< (y0 &&& 31)) :: st) h) : Ev X y d mc ms Q cells slots pc ls (vI y0 :: vI x :: st) h := by
  obtain ⟨hd, rfl⟩ := hd
  intro p e s m args below meth c H locs lsr C hC hS hl
  obtain ⟨lv, hv, hg⟩ := id hl
  exact lv_ishl C.1 C.2.1 hd (k p e s m args below meth c H locs lsr C hC hS hl)
theorem e_ishr {x y0 : Int32} (hd : At y.2.1 pc (.ishr) 1 pc') (k : Ev X y d mc ms Q cells slots pc' ls (vI (x >>> (y0 &&& 31)) :: st) h) : Ev X y d mc ms Q cells slots pc ls (vI y0 :: vI x :: st) h := by
  obtain ⟨hd, rfl⟩ := hd
  intro p e s m args below meth c H locs lsr C hC hS hl
  obtain ⟨lv, hv, hg⟩ := id hl
  exact lv_ishr C.1 C.2.1 hd (k p e s m args below meth c H locs lsr C hC hS hl)
theorem e_idiv {x y0 : Int32} (hd : At y.2.1 pc (.idiv) 1 pc') (hne : ¬ y0 = 0) (k : Ev X y d mc ms Q cells slots pc' ls (vI (x / y0) :: st) h) : Ev X y d mc ms Q cells slots pc ls (vI y0 :: vI x :: st) h := by
  obtain ⟨hd, rfl⟩ := hd
  intro p e s m args below meth c H locs lsr C hC hS hl
  obtain ⟨lv, hv, hg⟩ := id hl
  exact lv_idiv C.1 C.2.1 hd hne (k p e s m args below meth c H locs lsr C hC hS hl)
theorem e_irem {x y0 : Int32} (hd : At y.2.1 pc (.irem) 1 pc') (hne : ¬ y0 = 0) (k : Ev X y d mc ms Q cells slots pc' ls (vI (x - x / y0 * y0) :: st) h) : Ev X y d mc ms Q cells slots pc ls (vI y0 :: vI x :: st) h := by
  obtain ⟨hd, rfl⟩ := hd
  intro p e s m args below meth c H locs lsr C hC hS hl
  obtain ⟨lv, hv, hg⟩ := id hl
  exact lv_irem C.1 C.2.1 hd hne (k p e s m args below meth c H locs lsr C hC hS hl)
theorem e_ineg {x : Int32} (hd : At y.2.1 pc (.ineg) 1 pc') (k : Ev X y d mc ms Q cells slots pc' ls (vI (-x) :: st) h) : Ev X y d mc ms Q cells slots pc ls (vI x :: st) h := by
  obtain ⟨hd, rfl⟩ := hd
  intro p e s m args below meth c H locs lsr C hC hS hl
  obtain ⟨lv, hv, hg⟩ := id hl
  exact lv_ineg C.1 C.2.1 hd (k p e s m args below meth c H locs lsr C hC hS hl)
theorem e_iushr {x y0 : Int32} (hd : At y.2.1 pc (.iushr) 1 pc') (k : Ev X y d mc ms Q cells slots pc' ls (vI ((x.toUInt32 >>> (y0.toUInt32 &&& Int32.toUInt32 31)).toInt32) :: st) h) : Ev X y d mc ms Q cells slots pc ls (vI y0 :: vI x :: st) h := by
  obtain ⟨hd, rfl⟩ := hd
  intro p e s m args below meth c H locs lsr C hC hS hl
  obtain ⟨lv, hv, hg⟩ := id hl
  exact lv_iushr C.1 C.2.1 hd rfl (k p e s m args below meth c H locs lsr C hC hS hl)
theorem e_lshl {x : Int64} {y0 : Int32} (hd : At y.2.1 pc (.lshl) 1 pc') (k : Ev X y d mc ms Q cells slots pc' ls (vL (x <<< (y0.toInt64 &&& 63)) :: st) h) : Ev X y d mc ms Q cells slots pc ls (vI y0 :: vL x :: st) h := by
  obtain ⟨hd, rfl⟩ := hd
  intro p e s m args below meth c H locs lsr C hC hS hl
  obtain ⟨lv, hv, hg⟩ := id hl
  exact lv_lshl C.1 C.2.1 hd rfl (k p e s m args below meth c H locs lsr C hC hS hl)
theorem e_lshr {x : Int64} {y0 : Int32} (hd : At y.2.1 pc (.lshr) 1 pc') (k : Ev X y d mc ms Q cells slots pc' ls (vL (x >>> (y0.toInt64 &&& 63)) :: st) h) : Ev X y d mc ms Q cells slots pc ls (vI y0 :: vL x :: st) h := by
  obtain ⟨hd, rfl⟩ := hd
  intro p e s m args below meth c H locs lsr C hC hS hl
  obtain ⟨lv, hv, hg⟩ := id hl
  exact lv_lshr C.1 C.2.1 hd rfl (k p e s m args below meth c H locs lsr C hC hS hl)
theorem e_i2l {x : Int32} (hd : At y.2.1 pc (.i2l) 1 pc') (k : Ev X y d mc ms Q cells slots pc' ls (vL x.toInt64 :: st) h) : Ev X y d mc ms Q cells slots pc ls (vI x :: st) h := by
  obtain ⟨hd, rfl⟩ := hd
  intro p e s m args below meth c H locs lsr C hC hS hl
  obtain ⟨lv, hv, hg⟩ := id hl
  exact lv_i2l C.1 C.2.1 hd rfl (k p e s m args below meth c H locs lsr C hC hS hl)
theorem e_l2i {x : Int64} (hd : At y.2.1 pc (.l2i) 1 pc') (k : Ev X y d mc ms Q cells slots pc' ls (vI x.toInt32 :: st) h) : Ev X y d mc ms Q cells slots pc ls (vL x :: st) h := by
  obtain ⟨hd, rfl⟩ := hd
  intro p e s m args below meth c H locs lsr C hC hS hl
  obtain ⟨lv, hv, hg⟩ := id hl
  exact lv_l2i C.1 C.2.1 hd rfl (k p e s m args below meth c H locs lsr C hC hS hl)
theorem e_i2b {x : Int32} (hd : At y.2.1 pc (.i2b) 1 pc') (k : Ev X y d mc ms Q cells slots pc' ls (vI x.toInt8.toInt32 :: st) h) : Ev X y d mc ms Q cells slots pc ls (vI x :: st) h := by
  obtain ⟨hd, rfl⟩ := hd
  intro p e s m args below meth c H locs lsr C hC hS hl
  obtain ⟨lv, hv, hg⟩ := id hl
  exact lv_i2b C.1 C.2.1 hd rfl (k p e s m args below meth c H locs lsr C hC hS hl)
theorem e_i2s {x : Int32} (hd : At y.2.1 pc (.i2s) 1 pc') (k : Ev X y d mc ms Q cells slots pc' ls (vI x.toInt16.toInt32 :: st) h) : Ev X y d mc ms Q cells slots pc ls (vI x :: st) h := by
  obtain ⟨hd, rfl⟩ := hd
  intro p e s m args below meth c H locs lsr C hC hS hl
  obtain ⟨lv, hv, hg⟩ := id hl
  exact lv_i2s C.1 C.2.1 hd rfl (k p e s m args below meth c H locs lsr C hC hS hl)
theorem e_lcmp {x y0 : Int64} (hd : At y.2.1 pc (.lcmp) 1 pc') (k : Ev X y d mc ms Q cells slots pc' ls (vI (lg_cmp x y0) :: st) h) : Ev X y d mc ms Q cells slots pc ls (vL y0 :: vL x :: st) h := by
  obtain ⟨hd, rfl⟩ := hd
  intro p e s m args below meth c H locs lsr C hC hS hl
  obtain ⟨lv, hv, hg⟩ := id hl
  exact W.lcmp C.1 C.2.1 hd (k p e s m args below meth c H locs lsr C hC hS hl)
theorem e_dup {v : VV} (hd : At y.2.1 pc (.dup) 1 pc') (hc : is2 (some v) = false) (k : Ev X y d mc ms Q cells slots pc' ls (v :: v :: st) h) : Ev X y d mc ms Q cells slots pc ls (v :: st) h := by
  obtain ⟨hd, rfl⟩ := hd
  intro p e s m args below meth c H locs lsr C hC hS hl
  obtain ⟨lv, hv, hg⟩ := id hl
  exact lv_dup C.1 C.2.1 hd (by rw [cv_cat, hc]; rfl) (k p e s m args below meth c H locs lsr C hC hS hl)
theorem e_pop {v : VV} (hd : At y.2.1 pc (.pop) 1 pc') (hc : is2 (some v) = false) (k : Ev X y d mc ms Q cells slots pc' ls (st) h) : Ev X y d mc ms Q cells slots pc ls (v :: st) h := by
  obtain ⟨hd, rfl⟩ := hd
  intro p e s m args below meth c H locs lsr C hC hS hl
  obtain ⟨lv, hv, hg⟩ := id hl
  exact lv_pop C.1 C.2.1 hd (by rw [cv_cat, hc]; rfl) (k p e s m args below meth c H locs lsr C hC hS hl)
theorem e_dup2 {v w : VV} (hd : At y.2.1 pc (.dup2) 1 pc') (hc : is2 (some v) = false) (hc2 : is2 (some w) = false) (k : Ev X y d mc ms Q cells slots pc' ls (v :: w :: v :: w :: st) h) : Ev X y d mc ms Q cells slots pc ls (v :: w :: st) h := by
  obtain ⟨hd, rfl⟩ := hd
  intro p e s m args below meth c H locs lsr C hC hS hl
  obtain ⟨lv, hv, hg⟩ := id hl
  exact lv_dup2_11 C.1 C.2.1 hd (by rw [cv_cat, hc]; rfl) (by rw [cv_cat, hc2]; rfl) (k p e s m args below meth c H locs lsr C hC hS hl)
theorem e_if_eq {x : Int32} {off : Int} {tgt : Nat} (hd : Br y.2.1 pc (.ifCond .eq off) off pc' tgt) (kt : x = 0 → Ev X y d mc ms Q cells slots tgt ls st h) (kf : ¬ x = 0 → Ev X y d mc ms Q cells slots pc' ls st h) : Ev X y d mc ms Q cells slots pc ls (vI x :: st) h := by
  obtain ⟨hd, rfl, ht⟩ := hd
  intro p e s m args below meth c H locs lsr C hC hS hl
  exact lv_if_eq C.1 C.2.1 hd ht (fun q => kt q p e s m args below meth c H locs lsr C hC hS hl) (fun q => kf q p e s m args below meth c H locs lsr C hC hS hl)
theorem e_icmp_eq {x y0 : Int32} {off : Int} {tgt : Nat} (hd : Br y.2.1 pc (.if_icmp .eq off) off pc' tgt) (kt : x = y0 → Ev X y d mc ms Q cells slots tgt ls st h) (kf : ¬ x = y0 → Ev X y d mc ms Q cells slots pc' ls st h) : Ev X y d mc ms Q cells slots pc ls (vI y0 :: vI x :: st) h := by
  obtain ⟨hd, rfl, ht⟩ := hd
  intro p e s m args below meth c H locs lsr C hC hS hl
  exact lv_icmp_eq C.1 C.2.1 hd ht (fun q => kt q p e s m args below meth c H locs lsr C hC hS hl) (fun q => kf q p e s m args below meth c H locs lsr C hC hS hl)
theorem e_if_ne {x : Int32} {off : Int} {tgt : Nat} (hd : Br y.2.1 pc (.ifCond .ne off) off pc' tgt) (kt : ¬ x = 0 → Ev X y d mc ms Q cells slots tgt ls st h) (kf : x = 0 → Ev X y d mc ms Q cells slots pc' ls st h) : Ev X y d mc ms Q cells slots pc ls (vI x :: st) h := by
  obtain ⟨hd, rfl, ht⟩ := hd
  intro p e s m args below meth c H locs lsr C hC hS hl
  exact lv_if_ne C.1 C.2.1 hd ht (fun q => kt q p e s m args below meth c H locs lsr C hC hS hl) (fun q => kf q p e s m args below meth c H locs lsr C hC hS hl)
theorem e_icmp_ne {x y0 : Int32} {off : Int} {tgt : Nat} (hd : Br y.2.1 pc (.if_icmp .ne off) off pc' tgt) (kt : ¬ x = y0 → Ev X y d mc ms Q cells slots tgt ls st h) (kf : x = y0 → Ev X y d mc ms Q cells slots pc' ls st h) : Ev X y d mc ms Q cells slots pc ls (vI y0 :: vI x :: st) h := by
  obtain ⟨hd, rfl, ht⟩ := hd
  intro p e s m args below meth c H locs lsr C hC hS hl
  exact lv_icmp_ne C.1 C.2.1 hd ht (fun q => kt q p e s m args below meth c H locs lsr C hC hS hl) (fun q => kf q p e s m args below meth c H locs lsr C hC hS hl)
theorem e_if_lt {x : Int32} {off : Int} {tgt : Nat} (hd : Br y.2.1 pc (.ifCond .lt off) off pc' tgt) (kt : x < 0 → Ev X y d mc ms Q cells slots tgt ls st h) (kf : ¬ x < 0 → Ev X y d mc ms Q cells slots pc' ls st h) : Ev X y d mc ms Q cells slots pc ls (vI x :: st) h := by
  obtain ⟨hd, rfl, ht⟩ := hd
  intro p e s m args below meth c H locs lsr C hC hS hl
  exact lv_if_lt C.1 C.2.1 hd ht (fun q => kt q p e s m args below meth c H locs lsr C hC hS hl) (fun q => kf q p e s m args below meth c H locs lsr C hC hS hl)
theorem e_icmp_lt {x y0 : Int32} {off : Int} {tgt : Nat} (hd : Br y.2.1 pc (.if_icmp .lt off) off pc' tgt) (kt : x < y0 → Ev X y d mc ms Q cells slots tgt ls st h) (kf : ¬ x < y0 → Ev X y d mc ms Q cells slots pc' ls st h) : Ev X y d mc ms Q cells slots pc ls (vI y0 :: vI x :: st) h := by
  obtain ⟨hd, rfl, ht⟩ := hd
  intro p e s m args below meth c H locs lsr C hC hS hl
  exact lv_icmp_lt C.1 C.2.1 hd ht (fun q => kt q p e s m args below meth c H locs lsr C hC hS hl) (fun q => kf q p e s m args below meth c H locs lsr C hC hS hl)
theorem e_if_ge {x : Int32} {off : Int} {tgt : Nat} (hd : Br y.2.1 pc (.ifCond .ge off) off pc' tgt) (kt : 0 ≤ x → Ev X y d mc ms Q cells slots tgt ls st h) (kf : ¬ 0 ≤ x → Ev X y d mc ms Q cells slots pc' ls st h) : Ev X y d mc ms Q cells slots pc ls (vI x :: st) h := by
  obtain ⟨hd, rfl, ht⟩ := hd
  intro p e s m args below meth c H locs lsr C hC hS hl
  exact lv_if_ge C.1 C.2.1 hd ht (fun q => kt q p e s m args below meth c H locs lsr C hC hS hl) (fun q => kf q p e s m args below meth c H locs lsr C hC hS hl)
theorem e_icmp_ge {x y0 : Int32} {off : Int} {tgt : Nat} (hd : Br y.2.1 pc (.if_icmp .ge off) off pc' tgt) (kt : y0 ≤ x → Ev X y d mc ms Q cells slots tgt ls st h) (kf : ¬ y0 ≤ x → Ev X y d mc ms Q cells slots pc' ls st h) : Ev X y d mc ms Q cells slots pc ls (vI y0 :: vI x :: st) h := by
  obtain ⟨hd, rfl, ht⟩ := hd
  intro p e s m args below meth c H locs lsr C hC hS hl
  exact lv_icmp_ge C.1 C.2.1 hd ht (fun q => kt q p e s m args below meth c H locs lsr C hC hS hl) (fun q => kf q p e s m args below meth c H locs lsr C hC hS hl)
theorem e_if_gt {x : Int32} {off : Int} {tgt : Nat} (hd : Br y.2.1 pc (.ifCond .gt off) off pc' tgt) (kt : 0 < x → Ev X y d mc ms Q cells slots tgt ls st h) (kf : ¬ 0 < x → Ev X y d mc ms Q cells slots pc' ls st h) : Ev X y d mc ms Q cells slots pc ls (vI x :: st) h := by
  obtain ⟨hd, rfl, ht⟩ := hd
  intro p e s m args below meth c H locs lsr C hC hS hl
  exact lv_if_gt C.1 C.2.1 hd ht (fun q => kt q p e s m args below meth c H locs lsr C hC hS hl) (fun q => kf q p e s m args below meth c H locs lsr C hC hS hl)
theorem e_icmp_gt {x y0 : Int32} {off : Int} {tgt : Nat} (hd : Br y.2.1 pc (.if_icmp .gt off) off pc' tgt) (kt : y0 < x → Ev X y d mc ms Q cells slots tgt ls st h) (kf : ¬ y0 < x → Ev X y d mc ms Q cells slots pc' ls st h) : Ev X y d mc ms Q cells slots pc ls (vI y0 :: vI x :: st) h := by
  obtain ⟨hd, rfl, ht⟩ := hd
  intro p e s m args below meth c H locs lsr C hC hS hl
  exact lv_icmp_gt C.1 C.2.1 hd ht (fun q => kt q p e s m args below meth c H locs lsr C hC hS hl) (fun q => kf q p e s m args below meth c H locs lsr C hC hS hl)
theorem e_if_le {x : Int32} {off : Int} {tgt : Nat} (hd : Br y.2.1 pc (.ifCond .le off) off pc' tgt) (kt : x ≤ 0 → Ev X y d mc ms Q cells slots tgt ls st h) (kf : ¬ x ≤ 0 → Ev X y d mc ms Q cells slots pc' ls st h) : Ev X y d mc ms Q cells slots pc ls (vI x :: st) h := by
  obtain ⟨hd, rfl, ht⟩ := hd
  intro p e s m args below meth c H locs lsr C hC hS hl
  exact lv_if_le C.1 C.2.1 hd ht (fun q => kt q p e s m args below meth c H locs lsr C hC hS hl) (fun q => kf q p e s m args below meth c H locs lsr C hC hS hl)
theorem e_icmp_le {x y0 : Int32} {off : Int} {tgt : Nat} (hd : Br y.2.1 pc (.if_icmp .le off) off pc' tgt) (kt : x ≤ y0 → Ev X y d mc ms Q cells slots tgt ls st h) (kf : ¬ x ≤ y0 → Ev X y d mc ms Q cells slots pc' ls st h) : Ev X y d mc ms Q cells slots pc ls (vI y0 :: vI x :: st) h := by
  obtain ⟨hd, rfl, ht⟩ := hd
  intro p e s m args below meth c H locs lsr C hC hS hl
  exact lv_icmp_le C.1 C.2.1 hd ht (fun q => kt q p e s m args below meth c H locs lsr C hC hS hl) (fun q => kf q p e s m args below meth c H locs lsr C hC hS hl)
theorem e_goto {off : Int} {tgt : Nat} (hd : Br y.2.1 pc (.goto off) off pc' tgt) (k : Ev X y d mc ms Q cells slots tgt ls st h) : Ev X y d mc ms Q cells slots pc ls st h := by
  obtain ⟨hd, rfl, ht⟩ := hd
  intro p e s m args below meth c H locs lsr C hC hS hl
  exact lv_goto C.1 C.2.1 hd ht (k p e s m args below meth c H locs lsr C hC hS hl)
theorem e_ifnull {r : Option Nat} {off : Int} {tgt : Nat} (hd : Br y.2.1 pc (.ifnull off) off pc' tgt) (kt : r = none → Ev X y d mc ms Q cells slots tgt ls st h) (kf : ∀ a, r = some a → Ev X y d mc ms Q cells slots pc' ls st h) : Ev X y d mc ms Q cells slots pc ls (vR r :: st) h := by
  obtain ⟨hd, rfl, ht⟩ := hd
  intro p e s m args below meth c H locs lsr C hC hS hl
  cases r with
  | none => exact lv_ifnullN C.1 C.2.1 hd ht (kt rfl p e s m args below meth c H locs lsr C hC hS hl)
  | some a => exact lv_ifnull C.1 C.2.1 hd (kf a rfl p e s m args below meth c H locs lsr C hC hS hl)
theorem e_ifnonnull {r : Option Nat} {off : Int} {tgt : Nat} (hd : Br y.2.1 pc (.ifnonnull off) off pc' tgt) (kt : ∀ a, r = some a → Ev X y d mc ms Q cells slots tgt ls st h) (kf : r = none → Ev X y d mc ms Q cells slots pc' ls st h) : Ev X y d mc ms Q cells slots pc ls (vR r :: st) h := by
  obtain ⟨hd, rfl, ht⟩ := hd
  intro p e s m args below meth c H locs lsr C hC hS hl
  cases r with
  | none => exact lv_ifnonnullN C.1 C.2.1 hd (kf rfl p e s m args below meth c H locs lsr C hC hS hl)
  | some a => exact lv_ifnonnull C.1 C.2.1 hd ht (kt a rfl p e s m args below meth c H locs lsr C hC hS hl)
theorem e_tableIn {dflt lo hi : Int} {offs : Array Int} {n : Nat} {x : Int32} {off : Int} {tgt : Nat} (hd : At y.2.1 pc (.tableswitch dflt lo hi offs) n pc') (h1 : ¬ x.toInt < lo) (h2 : ¬ hi < x.toInt) (ho : offs[(x.toInt - lo).toNat]? = some off) (ht : (pc : Int) + off = (tgt : Int)) (k : Ev X y d mc ms Q cells slots tgt ls st h) : Ev X y d mc ms Q cells slots pc ls (vI x :: st) h := by
  obtain ⟨hd, rfl⟩ := hd
  intro p e s m args below meth c H locs lsr C hC hS hl
  exact lv_tableIn C.1 C.2.1 hd h1 h2 ho ht (k p e s m args below meth c H locs lsr C hC hS hl)
theorem e_tableOut {dflt lo hi : Int} {offs : Array Int} {n : Nat} {x : Int32} {tgt : Nat} (hd : At y.2.1 pc (.tableswitch dflt lo hi offs) n pc') (h1 : x.toInt < lo ∨ hi < x.toInt) (ht : (pc : Int) + dflt = (tgt : Int)) (k : Ev X y d mc ms Q cells slots tgt ls st h) : Ev X y d mc ms Q cells slots pc ls (vI x :: st) h := by
  obtain ⟨hd, rfl⟩ := hd
  intro p e s m args below meth c H locs lsr C hC hS hl
  exact lv_tableOut C.1 C.2.1 hd h1 ht (k p e s m args below meth c H locs lsr C hC hS hl)
theorem e_lookup {dflt : Int} {ps : Array (Int × Int)} {n : Nat} {x : Int32} {off : Int} {tgt : Nat} (hd : At y.2.1 pc (.lookupswitch dflt ps) n pc') (hp : (ps.toList.zip (ps.toList.drop 1)).all (fun (a, next) => a.1 < next.1) = true) (ho : Op.lookupswitch.offset ps.toList dflt x.toInt = off) (ht : (pc : Int) + off = (tgt : Int)) (k : Ev X y d mc ms Q cells slots tgt ls st h) : Ev X y d mc ms Q cells slots pc ls (vI x :: st) h := by
  obtain ⟨hd, rfl⟩ := hd
  intro p e s m args below meth c H locs lsr C hC hS hl
  exact lv_lookup C.1 C.2.1 hd hp ho ht (k p e s m args below meth c H locs lsr C hC hS hl)
end R4
end
section
/-! what stays while the machine goes on; returns; contracts; calls -/
theorem Kn.warm {X : EX} {s U : State} (hW : s.WarmedH U.vm) (h : Kn X s) : Kn X U := by
  obtain ⟨h1, h2, h3, h4⟩ := h
  refine ⟨h1.moved hW.alike, fun w hw => ?_, fun C hC => (h3 C hC).moved hW.alike, va_Nw.warmC hW h4⟩
  have h5 := h2 w hw
  simp only [nestW, List.mem_cons, List.not_mem_nil, or_false] at hw
  rcases hw with rfl | rfl | rfl | rfl | rfl | rfl | rfl | rfl | rfl | rfl | rfl | rfl | rfl | rfl | rfl | rfl | rfl | rfl | rfl | rfl | rfl <;> first | exact va_Nw.warmM hW h5 | exact va_Nw.warmF hW h5
theorem Kn.same {X : EX} {u U : State} (hv : U.vm = u.vm) (h : Kn X u) : Kn X U := by
  obtain ⟨h1, h2, h3, h4⟩ := h
  have hal : u.vm.Alike U.vm := by rw [hv]; exact Vm.Alike.refl _
  refine ⟨h1.moved hal, fun w hw => ?_, fun C hC => (h3 C hC).moved hal, va_Nw.same rfl hv.symm h4⟩
  have h5 := h2 w hw
  simp only [nestW, List.mem_cons, List.not_mem_nil, or_false] at hw
  rcases hw with rfl | rfl | rfl | rfl | rfl | rfl | rfl | rfl | rfl | rfl | rfl | rfl | rfl | rfl | rfl | rfl | rfl | rfl | rfl | rfl | rfl <;> exact va_Nw.same rfl hv.symm h5
theorem Pre.moved {X : EX} {u U : State} {H : Heap} (hvm : u.vm.Alike U.vm) (h : Pre X u H) : Pre X U H := by
  obtain ⟨h1, h2, h3, h4, h5, h6⟩ := h
  exact ⟨fun i q hq => ⟨va_Z.moved hvm (h1 i q hq).1, va_T.moved hvm (h1 i q hq).2⟩, va_T.moved hvm h2, ⟨va_Z.moved hvm h3.1, va_T.moved hvm h3.2⟩, fun i q hq => va_T.moved hvm (h4 i q hq), va_Z.moved hvm h5, va_T.moved hvm h6⟩
theorem Pre.kept {X : EX} {U : State} {H H1 : Heap} (h : Pre X U H) (hq : ∀ a : Nat, a < H.size → ¬ AA X a → H1[a]? = H[a]?) : Pre X U H1 := by
  obtain ⟨h1, h2, h3, h4, h5, h6⟩ := h
  exact ⟨fun i q hi => ⟨va_Z.kept (h1 i q hi).1 hq, va_T.kept (h1 i q hi).2 hq⟩, va_T.kept h2 hq, ⟨va_Z.kept h3.1 hq, va_T.kept h3.2 hq⟩, fun i q hi => va_T.kept (h4 i q hi) hq, va_Z.kept h5 hq, va_T.kept h6 hq⟩
theorem cor_of {X : EX} {h : HP} {s t : State} {H : Heap} {locs : List Loc} (hK : Kn X s) (hP : Pre X s s.heap) (hC : CorH X h H) (hS : va_S (AA X) s.heap H locs) (ht : t.heap = H) (hW : s.WarmedH t.vm) : Cor X h t := by
  subst ht
  exact ⟨hC, hK.warm hW, (hP.moved hW.alike).kept hS.2.1⟩
theorem blind {X : EX} {h : HP} (av : List Value) : FrameBlind (va_Pc av (fun U => Cor X h U)) := fun a U g mk q => by
  obtain ⟨q1, q2, q3, q4⟩ := q
  exact ⟨q1, q2, Kn.same (u := U) (U := U.calling g mk a) rfl q3, q4.moved (U := U.calling g mk a) (Vm.Alike.refl _)⟩
/-- the locals at the beginning -/
def arL : Nat → List VV → ZL
  | _, [] => []
  | i, v :: vs => (i, some v) :: arL (if is2 (some v) then i + 2 else i + 1) vs
def szL : List VV → Nat
  | [] => 0
  | v :: vs => (if is2 (some v) then 2 else 1) + szL vs
theorem szL_eq {X : EX} (av : List VV) : (lg_sl (av.map (cv X))).length = szL av := by
  induction av with
  | nil => rfl
  | cons v vs ih =>
    unfold lg_sl at ih ⊢
    rw [List.map_cons, List.flatMap_cons, List.length_append, ih, cv_cat]
    show _ = (if is2 (some v) then 2 else 1) + szL vs
    cases is2 (some v) <;> simp
theorem arL_in {X : EX} (av : List VV) : ∀ (i0 i : Nat) (v : VV), gL (arL i0 av) i = some v → (i, cv X v) ∈ lv_args i0 (av.map (cv X)) := by
  induction av with
  | nil => intro i0 i v h; cases h
  | cons w vs ih =>
    intro i0 i v h
    unfold arL at h
    simp only [gL] at h
    rw [List.map_cons]
    unfold lv_args
    by_cases hi : i = i0
    · subst hi
      rw [if_pos rfl] at h
      cases h
      exact List.mem_cons_self
    · rw [if_neg hi] at h
      refine List.mem_cons_of_mem _ ?_
      have h2 := ih _ _ _ h
      rw [cv_cat]
      cases hw : is2 (some w)
      · rw [hw] at h2; exact h2
      · rw [hw] at h2; exact h2
theorem ct_of {X : EX} {y : MD} {d mc ms : Nat} {av : List VV} {h : HP} {Q : Option VV → HP → Prop} (hpl : plainName y.1.cls = true) (hlen : szL av ≤ y.2.2.1) (k : Ev X y d mc ms Q 0 0 0 (arL 0 av) [] h) : Ct X y d mc ms av h Q := by
  refine Met.ofW (cc := y.2.1) (maxL := y.2.2.1) (ret := y.2.2.2) (ws' := TT) hpl rfl ?_
  intro p e s m args below meth c s₁ B hml hv
  obtain ⟨rfl, hcor⟩ := hv
  have hts := atoms_spec (ws := wsM y) B.pre
  have hin := (name_of_methodNamed B.named B.method).1
  have hown : s.vm.findClass y.1.cls = some m.cls := findClass_of_methodNamed B.named
  rw [lg_entry_eq]
  refine k p e s m _ below meth c s.heap [] _ ⟨B.exec, B.bytes, hml, B.returns, hown, fun w hw => hts w (List.mem_cons_of_mem _ hw), B.notSynchronized, hin, hcor.2.1, hcor.2.2, ?_⟩ hcor.1 va_S.rf ⟨_, lv_entry (av.map (cv X)) (by rw [szL_eq]; exact hlen), arL_in av 0⟩
  rw [hcor.1.1]
  omega
section R5
variable {X : EX} {y : MD} {d mc ms : Nat} {Q : Option VV → HP → Prop} {cells slots pc pc' : Nat} {ls : ZL} {st : List VV} {h : HP}
theorem e_nret {x : Int32} {ty : FieldType} (hd : At y.2.1 pc .ireturn 1 pc') (hr : y.2.2.2 = some ty) (hn : narrow ty (.int x) = .int x) (hc : cells ≤ mc) (hs : slots ≤ ms) (hQ : Q (some (vI x)) h) : Ev X y d mc ms Q cells slots pc ls [vI x] h := by
  obtain ⟨hd, rfl⟩ := hd
  intro p e s m args below meth c H locs lsr C hC hS hl
  obtain ⟨hx, hb, hml, hret, hown, hts, hlk, hnm, hK, hP, hsz⟩ := C
  refine W.widen hc hs ?_
  exact W.zret (ty := ty) hx hb (hret.trans hr) hn (fun t ht hW => ⟨⟨some (vI x), h, rfl, hQ, cor_of hK hP hC hS ht hW⟩, hS.F ht⟩) hS.2.2 hd
theorem e_ireturn {x : Int32} (hd : At y.2.1 pc .ireturn 1 pc') (hr : y.2.2.2 = some .int) (hc : cells ≤ mc) (hs : slots ≤ ms) (hQ : Q (some (vI x)) h) : Ev X y d mc ms Q cells slots pc ls [vI x] h := e_nret hd hr rfl hc hs hQ
theorem e_zreturn {x : Int32} (hd : At y.2.1 pc .ireturn 1 pc') (hr : y.2.2.2 = some .boolean) (hx : x = 0 ∨ x = 1) (hc : cells ≤ mc) (hs : slots ≤ ms) (hQ : Q (some (vI x)) h) : Ev X y d mc ms Q cells slots pc ls [vI x] h := e_nret hd hr (by rcases hx with rfl | rfl <;> decide) hc hs hQ
theorem e_lreturn {x : Int64} (hd : At y.2.1 pc .lreturn 1 pc') (hr : y.2.2.2 = some .long) (hc : cells ≤ mc) (hs : slots ≤ ms) (hQ : Q (some (vL x)) h) : Ev X y d mc ms Q cells slots pc ls [vL x] h := by
  obtain ⟨hd, rfl⟩ := hd
  intro p e s m args below meth c H locs lsr C hC hS hl
  obtain ⟨hx, hb, hml, hret, hown, hts, hlk, hnm, hK, hP, hsz⟩ := C
  refine W.widen hc hs ?_
  exact W.lret hx hb (hret.trans hr) (fun t ht hW => ⟨⟨some (vL x), h, rfl, hQ, cor_of hK hP hC hS ht hW⟩, hS.F ht⟩) hS.2.2 hd
theorem e_areturn {r : Option Nat} {C0 : String} (hd : At y.2.1 pc .areturn 1 pc') (hr : y.2.2.2 = some (.object C0)) (hc : cells ≤ mc) (hs : slots ≤ ms) (hQ : Q (some (vR r)) h) : Ev X y d mc ms Q cells slots pc ls [vR r] h := by
  obtain ⟨hd, rfl⟩ := hd
  intro p e s m args below meth c H locs lsr C hC hS hl
  obtain ⟨hx, hb, hml, hret, hown, hts, hlk, hnm, hK, hP, hsz⟩ := C
  refine W.widen hc hs ?_
  refine W.aret (v := cv X (vR r)) hx hb (hret.trans hr) (Or.inl ⟨_, rfl⟩) ?_ (fun t ht hW => ⟨⟨some (vR r), h, rfl, hQ, cor_of hK hP hC hS ht hW⟩, hS.F ht⟩) hS.2.2 hd
  cases r with
  | none => exact Or.inl rfl
  | some a => exact Or.inr ⟨_, rfl⟩
theorem e_areturnA {r : Option Nat} {C0 : FieldType} (hd : At y.2.1 pc .areturn 1 pc') (hr : y.2.2.2 = some (.array C0)) (hc : cells ≤ mc) (hs : slots ≤ ms) (hQ : Q (some (vR r)) h) : Ev X y d mc ms Q cells slots pc ls [vR r] h := by
  obtain ⟨hd, rfl⟩ := hd
  intro p e s m args below meth c H locs lsr C hC hS hl
  obtain ⟨hx, hb, hml, hret, hown, hts, hlk, hnm, hK, hP, hsz⟩ := C
  refine W.widen hc hs ?_
  refine W.aret (v := cv X (vR r)) hx hb (hret.trans hr) (Or.inr ⟨_, rfl⟩) ?_ (fun t ht hW => ⟨⟨some (vR r), h, rfl, hQ, cor_of hK hP hC hS ht hW⟩, hS.F ht⟩) hS.2.2 hd
  cases r with
  | none => exact Or.inl rfl
  | some a => exact Or.inr ⟨_, rfl⟩
theorem e_return (hd : At y.2.1 pc .return_ 1 pc') (hr : y.2.2.2 = none) (hc : cells ≤ mc) (hs : slots ≤ ms) (hQ : Q none h) : Ev X y d mc ms Q cells slots pc ls [] h := by
  obtain ⟨hd, rfl⟩ := hd
  intro p e s m args below meth c H locs lsr C hC hS hl
  obtain ⟨hx, hb, hml, hret, hown, hts, hlk, hnm, hK, hP, hsz⟩ := C
  refine W.widen hc hs ?_
  exact W.vret hx hb (hret.trans hr) (fun t ht hW => ⟨⟨none, h, rfl, hQ, cor_of hK hP hC hS ht hW⟩, hS.F ht⟩) hS.2.2 hd
theorem e_widen {k n : Nat} (h1 : cells ≤ k) (h2 : slots ≤ n) (kk : Ev X y d mc ms Q k n pc ls st h) : Ev X y d mc ms Q cells slots pc ls st h := by
  intro p e s m args below meth c H locs lsr C hC hS hl
  exact W.widen h1 h2 (kk p e s m args below meth c H locs lsr C hC hS hl)
end R5
/-- an object or array of kind t of ours -/
def Is (h : HP) (a t : Nat) : Prop := 32 ≤ a ∧ a < hZ h ∧ hT h a = t
theorem ent_obj {X : EX} {h : HP} {a ci : Nat} (hc : ci < 11) (h1 : hT h a = ci + 1) : ent X h a = .inr (ci, (List.range (nF ci)).map (fun i => if isR ci i then va_rf ((hR h a i).map (ad X)) else .int (hI h a i))) := by
  unfold ent
  rw [h1, if_pos (by omega)]
  rfl
theorem ent_int {X : EX} {h : HP} {a t : Nat} (ht : t = 12 ∨ t = 13) (h1 : hT h a = t) : ent X h a = .inl (xA X t, hN h a, .inl (hI h a)) := by
  unfold ent
  rw [h1, if_neg (by omega), if_neg (by omega), if_pos (by omega)]
theorem ent_long {X : EX} {h : HP} {a : Nat} (h1 : hT h a = 14) : ent X h a = .inl (xA X 14, hN h a, .inr (.inl (hL h a))) := by
  unfold ent
  rw [h1, if_neg (by omega), if_pos rfl]
theorem ent_ref {X : EX} {h : HP} {a t : Nat} (ht : 16 ≤ t) (h1 : hT h a = t) : ent X h a = .inl (xA X t, hN h a, .inr (.inr (.inr (.inr (fun i => (hR h a i).map (ad X)))))) := by
  unfold ent
  rw [h1, if_neg (by omega), if_neg (by omega), if_neg (by omega)]
/-- a class of the table -/
def Cl (ci : Nat) (C : String) : Prop := ci < 11 ∧ ∃ r, vwCl[ci]? = some r ∧ r.1 = C
/-- links of calls, and what the tables say of the callee -/
def MdOk (y : MD) : Prop := cw y ∈ TT ∧ (y.1.cls ≠ "java/lang/invoke/MethodHandle" ∧ y.1.cls ≠ "java/lang/invoke/VarHandle") ∧ .initialized y.1.cls ∈ TT
def npar (y : MD) (n : Nat) : Prop := (parseMethodDescriptor y.1.desc).map (fun d => d.parameters.length) = some n
def CalV (own : String) (ix ci : Nat) (y : MD) (n : Nat) : Prop := MdOk y ∧ npar y n ∧ Cl ci y.1.cls ∧ .methodLink own ix y.1 ∈ TT ∧ .instanceMethod y.1 ∈ TT ∧ .selects y.1.cls y.1 y.1 ∈ TT
def CalS (own : String) (ix : Nat) (y : MD) (n : Nat) : Prop := MdOk y ∧ npar y n ∧ .methodLink own ix y.1 ∈ TT ∧ .static y.1 ∈ TT
def CalSN (own : String) (ix : Nat) (y : MD) (n : Nat) : Prop := MdOk y ∧ npar y n ∧ (∃ H : String, .methodLinkNest own ix y.1 H ∈ nestW) ∧ .static y.1 ∈ TT
def CalI (own : String) (ix : Nat) (y : MD) (n : Nat) : Prop := MdOk y ∧ npar y n ∧ y.2.2.2 = none ∧ y.1.name = "<init>" ∧ .methodLink own ix y.1 ∈ TT ∧ .instanceMethod y.1 ∈ TT
def CalIN (own : String) (ix : Nat) (y : MD) (n : Nat) : Prop := MdOk y ∧ npar y n ∧ y.2.2.2 = none ∧ y.1.name = "<init>" ∧ (∃ H : String, .methodLinkNest own ix y.1 H ∈ nestW) ∧ .instanceMethod y.1 ∈ TT
theorem goodM {y : MD} (h : MdOk y) : ∀ w ∈ wsM y, w ∈ TT := fun w hw => by
  rcases List.mem_cons.mp hw with rfl | hw
  · exact h.1
  · exact hw
/-- categories of the stack below a call -/
def catL (st : List VV) : Nat := (st.map (fun v => if is2 (some v) then 2 else 1)).sum
theorem catL_eq {X : EX} (st : List VV) : ((st.map (cv X)).map fun v => v.category).sum = catL st := by
  unfold catL
  rw [List.map_map]
  congr 1
  apply List.map_congr_left
  intro v _
  exact cv_cat
section R6
variable {p : Program} {l : Launch} {e : Env} {R : Room} {s : State} {m : MethodId} {args : Array Value} {below : List Frame} {meth : Method} {c : Code} {H : Heap} {locs : List Loc} {cells slots : Nat} {Qs : State → Prop}
theorem ev_call {X : EX} {Q' : Option VV → HP → Prop} {pc : Nat} {lsr : Array Slot} {st0 rest : List Value} {mc ms : Nat} {a : Array Value} (hr : va_Run p l e R s m args below meth c H locs cells slots mc ms (F0 m pc lsr st0) rest (Qm X Q' a) (AA X)) (hS : va_S (AA X) s.heap H locs)
    (kk : ∀ (v : Option VV) (h' : HP) (H1 : Heap) (locs1 : List Loc), Q' v h' → CorH X h' H1 → va_S (AA X) s.heap H1 locs1 → W p l e R s m args below meth c H1 locs1 (cells + mc) (slots + ms) Qs (F0 m (pc + 3) lsr ((v.map (cv X)).toList ++ rest))) : W p l e R s m args below meth c H locs cells slots Qs (F0 m pc lsr st0) := by
  intro T hT X0
  obtain ⟨v, st₀, t, T', L, h0, X', hL, e1, e2, ⟨⟨v', h', hv, hq, hc⟩, hz, hk⟩, st⟩ := hr T hT X0
  cases hv
  rw [h0] at hz hk
  obtain ⟨t2, a1, b1⟩ := kk v' h' T'.heap (locs ++ L) hq (by rw [e1]; exact hc.1)
    ⟨Nat.le_trans hS.1 (by rw [e1]; exact hz), fun q h1 h2 => by rw [e1, hk q (Nat.lt_of_lt_of_le h1 hS.1) h2]; exact hS.2.1 q h1 h2, fun q hq => by
      rcases List.mem_append.mp hq with h | h
      · exact hS.2.2 q h
      · exact hL q h⟩ T' rfl X'
  exact ⟨t2, st t2 a1, b1⟩
end R6
section R7
variable {X : EX} {y : MD} {d mc ms : Nat} {Q : Option VV → HP → Prop} {cells slots pc pc' : Nat} {ls : ZL} {st rest : List VV} {h : HP} {y' : MD} {d' mc' ms' n ix ci : Nat} {as : List VV} {Q' : Option VV → HP → Prop}
theorem rest_cons {X : EX} (v : Option VV) (rest : List VV) : (v.map (cv X)).toList ++ rest.map (cv X) = (v.toList ++ rest).map (cv X) := by
  cases v <;> rfl
theorem cor_call {X : EX} {h : HP} {s : State} {H : Heap} {locs : List Loc} (hK : Kn X s) (hP : Pre X s s.heap) (hC : CorH X h H) (hS : va_S (AA X) s.heap H locs) (As : List Value) : PreS s H (va_Pc As (fun U => Cor X h U)) As :=
  ⟨blind As, fun U hU hW => ⟨rfl, cor_of hK hP hC hS hU hW⟩⟩
theorem room_ok {y' : MD} (hml : y'.2.2.1 ≤ 12) (hdd : d' + 1 ≤ d) : (rmd d' mc' ms').frames + 1 ≤ (rmd d mc ms).frames ∧ 8 + (y'.2.2.1 + 11) + (rmd d' mc' ms').locals ≤ (rmd d mc ms).locals := by
  refine ⟨hdd, ?_⟩
  show 8 + (y'.2.2.1 + 11) + 40 * d' ≤ 40 * d
  omega
theorem e_invv {a : Nat} (hd : At y.2.1 pc (.invokevirtual ix) 3 pc') (cal : CalV y.1.cls ix ci y' n) (hc : Ct X y' d' mc' ms' (vR (some a) :: as) h Q') (hst : st = as.reverse ++ vR (some a) :: rest) (hn : as.length = n) (hT : Is h a (ci + 1)) (hml : y'.2.2.1 ≤ 12) (hdd : d' + 1 ≤ d) (hcc : cells + mc' ≤ mc) (hss : slots + ms' ≤ ms) (hcat : catL rest ≤ 8)
    (k : ∀ v h', Q' v h' → Ev X y d mc ms Q (cells + mc') (slots + ms') pc' ls (v.toList ++ rest) h') : Ev X y d mc ms Q cells slots pc ls st h := by
  obtain ⟨hd, rfl⟩ := hd
  intro p e s m args below meth c H locs lsr C hC hS hl
  obtain ⟨lv, hv, -⟩ := id hl
  obtain ⟨hx, hb, hmx, hret, hown, hts, hlk, hnm, hK, hP, hsz⟩ := id C
  obtain ⟨hok, hnp, ⟨hci, r, hr, hrc⟩, w1, w2, w3⟩ := cal
  have he := wl_get (X := X) hT.1 hT.2.1
  rw [ent_obj hci hT.2.2] at he
  have hgood : GoodIn TT (wsV y.1.cls ix y'.1.cls y'.1 (wsM y')) := tt_goodIn (fun w hw => by
    rcases List.mem_append.mp hw with hw | hw
    · simp only [List.mem_cons, List.not_mem_nil, or_false] at hw
      rcases hw with rfl | rfl | rfl | rfl
      · exact w1
      · exact w2
      · exact w3
      · exact hok.2.2
    · exact goodM hok w hw)
  have hrv := va_recv hK.1 hC.2.2 hr he
  rw [hrc] at hrv
  have hpr : PreV s H y'.1.cls (ad X a) (va_Pc ((vR (some a) :: as).map (cv X)) (fun U => Cor X h U)) (as.map (cv X)) := ⟨blind _, hrv, fun U hU hW => ⟨rfl, cor_of hK hP hC hS hU hW⟩⟩
  have hstk : st.map (cv X) = (as.map (cv X)).reverse ++ .ref (ad X a) :: rest.map (cv X) := by
    rw [hst, List.map_append, List.map_reverse]
    rfl
  have run := va_runV (l := xl X) (e := e) (R := rmd d mc ms) (below := below) (meth := meth) (locs := locs) (cells := cells) (slots := slots) (rest := rest.map (cv X)) (g := F0 m pc lsr (st.map (cv X))) ⟨hx, hb, hmx, hown, hts⟩ hc
    (cwV n hts hgood rfl rfl rfl ⟨rfl, hok.2.1.1, hok.2.1.2, hnp⟩ (room_ok hml hdd)) hpr rfl (by rw [List.length_map]; exact hn) hv.1 hstk (lv_room (by rw [catL_eq]; exact hcat)) (by rw [hb] at *; exact hd) ⟨hcc, hss⟩
  refine ev_call run hS (fun v h' H1 locs1 q hC' hS' => ?_)
  rw [rest_cons]
  exact k v h' q p e s m args below meth c H1 locs1 lsr C hC' hS' hl
theorem e_invs (hd : At y.2.1 pc (.invokestatic ix) 3 pc') (cal : CalS y.1.cls ix y' n) (hc : Ct X y' d' mc' ms' as h Q') (hst : st = as.reverse ++ rest) (hn : as.length = n) (hml : y'.2.2.1 ≤ 12) (hdd : d' + 1 ≤ d) (hcc : cells + mc' ≤ mc) (hss : slots + ms' ≤ ms) (hcat : catL rest ≤ 8)
    (k : ∀ v h', Q' v h' → Ev X y d mc ms Q (cells + mc') (slots + ms') pc' ls (v.toList ++ rest) h') : Ev X y d mc ms Q cells slots pc ls st h := by
  obtain ⟨hd, rfl⟩ := hd
  intro p e s m args below meth c H locs lsr C hC hS hl
  obtain ⟨lv, hv, -⟩ := id hl
  obtain ⟨hx, hb, hmx, hret, hown, hts, hlk, hnm, hK, hP, hsz⟩ := id C
  obtain ⟨hok, hnp, w1, w2⟩ := cal
  have hgood : GoodIn TT (va_wsS y.1.cls ix y'.1 (wsM y')) := tt_goodIn (fun w hw => by
    rcases List.mem_append.mp hw with hw | hw
    · simp only [List.mem_cons, List.not_mem_nil, or_false] at hw
      rcases hw with rfl | rfl | rfl
      · exact w1
      · exact w2
      · exact hok.2.2
    · exact goodM hok w hw)
  have hstk : st.map (cv X) = (as.map (cv X)).reverse ++ rest.map (cv X) := by
    rw [hst, List.map_append, List.map_reverse]
  have run := va_runS (l := xl X) (e := e) (R := rmd d mc ms) (below := below) (meth := meth) (locs := locs) (cells := cells) (slots := slots) (rest := rest.map (cv X)) (g := F0 m pc lsr (st.map (cv X))) ⟨hx, hb, hmx, hown, hts⟩ hc
    (va_cwS n hts hgood rfl rfl rfl ⟨hok.2.1.1, hok.2.1.2, hnp⟩ (room_ok hml hdd)) (cor_call hK hP hC hS _) rfl (by rw [List.length_map]; exact hn) hv.1 hstk (lv_room (by rw [catL_eq]; exact hcat)) hd ⟨hcc, hss⟩
  refine ev_call run hS (fun v h' H1 locs1 q hC' hS' => ?_)
  rw [rest_cons]
  exact k v h' q p e s m args below meth c H1 locs1 lsr C hC' hS' hl
theorem e_invsN (hd : At y.2.1 pc (.invokestatic ix) 3 pc') (cal : CalSN y.1.cls ix y' n) (hc : Ct X y' d' mc' ms' as h Q') (hst : st = as.reverse ++ rest) (hn : as.length = n) (hml : y'.2.2.1 ≤ 12) (hdd : d' + 1 ≤ d) (hcc : cells + mc' ≤ mc) (hss : slots + ms' ≤ ms) (hcat : catL rest ≤ 8)
    (k : ∀ v h', Q' v h' → Ev X y d mc ms Q (cells + mc') (slots + ms') pc' ls (v.toList ++ rest) h') : Ev X y d mc ms Q cells slots pc ls st h := by
  obtain ⟨hd, rfl⟩ := hd
  intro p e s m args below meth c H locs lsr C hC hS hl
  obtain ⟨lv, hv, -⟩ := id hl
  obtain ⟨hx, hb, hmx, hret, hown, hts, hlk, hnm, hK, hP, hsz⟩ := id C
  obtain ⟨hok, hnp, ⟨_, w1⟩, w2⟩ := cal
  have hstk : st.map (cv X) = (as.map (cv X)).reverse ++ rest.map (cv X) := by
    rw [hst, List.map_append, List.map_reverse]
  have run := va_runSN (l := xl X) (e := e) (R := rmd d mc ms) (below := below) (meth := meth) (locs := locs) (cells := cells) (slots := slots) (rest := rest.map (cv X)) (g := F0 m pc lsr (st.map (cv X))) ⟨hx, hb, hmx, hown, hts⟩ hc
    ⟨va_cnB (y := y'.1) n hts (tt_goodIn (goodM hok)) rfl rfl rfl (hK.2.1 _ w1) (hts _ hok.2.2) ⟨hok.2.1.1, hok.2.1.2, hnp⟩ (room_ok hml hdd), hts _ w2, trivial⟩ (cor_call hK hP hC hS _) rfl (by rw [List.length_map]; exact hn) hv.1 hstk (lv_room (by rw [catL_eq]; exact hcat)) hd ⟨hcc, hss⟩
  refine ev_call run hS (fun v h' H1 locs1 q hC' hS' => ?_)
  rw [rest_cons]
  exact k v h' q p e s m args below meth c H1 locs1 lsr C hC' hS' hl
theorem e_invi {a : Nat} (hd : At y.2.1 pc (.invokespecial ix) 3 pc') (cal : CalI y.1.cls ix y' n) (hc : Ct X y' d' mc' ms' (vR (some a) :: as) h Q') (hst : st = as.reverse ++ vR (some a) :: rest) (hn : as.length = n) (hml : y'.2.2.1 ≤ 12) (hdd : d' + 1 ≤ d) (hcc : cells + mc' ≤ mc) (hss : slots + ms' ≤ ms) (hcat : catL rest ≤ 8)
    (k : ∀ v h', Q' v h' → Ev X y d mc ms Q (cells + mc') (slots + ms') pc' ls (v.toList ++ rest) h') : Ev X y d mc ms Q cells slots pc ls st h := by
  obtain ⟨hd, rfl⟩ := hd
  intro p e s m args below meth c H locs lsr C hC hS hl
  obtain ⟨lv, hv, -⟩ := id hl
  obtain ⟨hx, hb, hmx, hret, hown, hts, hlk, hnm, hK, hP, hsz⟩ := id C
  obtain ⟨hok, hnp, hrn, hy1, w1, w2⟩ := cal
  have hstk : st.map (cv X) = (as.map (cv X)).reverse ++ .ref (ad X a) :: rest.map (cv X) := by
    rw [hst, List.map_append, List.map_reverse]
    rfl
  have hcw : wsM y' = Cond.code y'.1 y'.2.1 y'.2.2.1 none :: TT := by unfold wsM cw; rw [hrn]
  have run := va_runI (l := xl X) (e := e) (R := rmd d mc ms) (below := below) (meth := meth) (locs := locs) (cells := cells) (slots := slots) (b := ad X a) (As := as.map (cv X)) (rest := rest.map (cv X)) (g := F0 m pc lsr (st.map (cv X))) ⟨hx, hb, hmx, hown, hts⟩ hc
    (cwI n hts (tt_goodIn (goodM hok)) hcw rfl rfl (hts _ hok.2.2) (hts _ w1) (hts _ w2) hy1 ⟨hok.2.1.1, hok.2.1.2, hnp⟩ (room_ok hml hdd)) (cor_call hK hP hC hS _) rfl (by rw [List.length_map]; exact hn) hv.1 hstk (lv_room (by rw [catL_eq]; exact hcat)) hd ⟨hcc, hss⟩
  refine ev_call run hS (fun v h' H1 locs1 q hC' hS' => ?_)
  rw [rest_cons]
  exact k v h' q p e s m args below meth c H1 locs1 lsr C hC' hS' hl
theorem e_inviN {a : Nat} (hd : At y.2.1 pc (.invokespecial ix) 3 pc') (cal : CalIN y.1.cls ix y' n) (hc : Ct X y' d' mc' ms' (vR (some a) :: as) h Q') (hst : st = as.reverse ++ vR (some a) :: rest) (hn : as.length = n) (hml : y'.2.2.1 ≤ 12) (hdd : d' + 1 ≤ d) (hcc : cells + mc' ≤ mc) (hss : slots + ms' ≤ ms) (hcat : catL rest ≤ 8)
    (k : ∀ v h', Q' v h' → Ev X y d mc ms Q (cells + mc') (slots + ms') pc' ls (v.toList ++ rest) h') : Ev X y d mc ms Q cells slots pc ls st h := by
  obtain ⟨hd, rfl⟩ := hd
  intro p e s m args below meth c H locs lsr C hC hS hl
  obtain ⟨lv, hv, -⟩ := id hl
  obtain ⟨hx, hb, hmx, hret, hown, hts, hlk, hnm, hK, hP, hsz⟩ := id C
  obtain ⟨hok, hnp, hrn, hy1, ⟨_, w1⟩, w2⟩ := cal
  have hstk : st.map (cv X) = (as.map (cv X)).reverse ++ .ref (ad X a) :: rest.map (cv X) := by
    rw [hst, List.map_append, List.map_reverse]
    rfl
  have hcw : wsM y' = Cond.code y'.1 y'.2.1 y'.2.2.1 none :: TT := by unfold wsM cw; rw [hrn]
  have run := va_runIN (l := xl X) (e := e) (R := rmd d mc ms) (below := below) (meth := meth) (locs := locs) (cells := cells) (slots := slots) (b := ad X a) (As := as.map (cv X)) (rest := rest.map (cv X)) (g := F0 m pc lsr (st.map (cv X))) ⟨hx, hb, hmx, hown, hts⟩ hc
    ⟨va_cnB (y := y'.1) n hts (tt_goodIn (goodM hok)) hcw rfl rfl (hK.2.1 _ w1) (hts _ hok.2.2) ⟨hok.2.1.1, hok.2.1.2, hnp⟩ (room_ok hml hdd), hy1, hts _ w2⟩ (cor_call hK hP hC hS _) rfl (by rw [List.length_map]; exact hn) hv.1 hstk (lv_room (by rw [catL_eq]; exact hcat)) hd ⟨hcc, hss⟩
  refine ev_call run hS (fun v h' H1 locs1 q hC' hS' => ?_)
  rw [rest_cons]
  exact k v h' q p e s m args below meth c H1 locs1 lsr C hC' hS' hl
/-- invokespecial java/lang/Object.<init> -/
theorem e_objInit {a : Nat} (hd : At y.2.1 pc (.invokespecial ix) 3 pc') (w1 : .methodLink y.1.cls ix Lib.objectInit ∈ TT) (w2 : .instanceMethod Lib.objectInit ∈ TT) (w3 : .code Lib.objectInit ⟨#[0xb1]⟩ 1 none ∈ TT) (hdd : 1 ≤ d) (hcat : catL st ≤ 8)
    (k : Ev X y d mc ms Q cells slots pc' ls st h) : Ev X y d mc ms Q cells slots pc ls (vR (some a) :: st) h := by
  obtain ⟨hd, rfl⟩ := hd
  intro p e s m args below meth c H locs lsr C hC hS hl
  obtain ⟨lv, hv, -⟩ := id hl
  obtain ⟨hx, hb, hmx, hret, hown, hts, hlk, hnm, hK, hP, hsz⟩ := id C
  refine W.objInit hx hb hown (hts _ w1) (hts _ w2) (hts _ w3) rfl (by rw [hmx]; exact hv.1) rfl hd hdd ?_ (k p e s m args below meth c H locs lsr C hC hS hl)
  rw [catL_eq]
  show 2 * 0 + catL st + 12 ≤ 40 * d
  omega
end R7
end
section
/-! RULES over the heap: fields, arrays, new cells (written by wip/p45/gen6.py) -/
theorem uw_0 : u_ws RX0 TX0 6 = ([68, 70, 72, 74, 76, 78] : List Nat).filterMap (fun i => lw_tbl[i]?) := by decide +kernel
theorem uv_0 : ∀ w ∈ u_ws RX0 TX0 6, w ∈ TT := by
  intro w hw
  have hg : (u_ws RX0 TX0 6).all goodWord = true := by decide +kernel
  have h1 := List.all_eq_true.mp hg w hw
  rw [uw_0] at hw
  obtain ⟨j, -, hj⟩ := List.mem_filterMap.mp hw
  exact tt_of j hj h1
theorem uw_1 : u_ws RX1 TX1 7 = ([701, 703, 705, 707, 709, 711, 713] : List Nat).filterMap (fun i => lw_tbl[i]?) := by decide +kernel
theorem uv_1 : ∀ w ∈ u_ws RX1 TX1 7, w ∈ TT := by
  intro w hw
  have hg : (u_ws RX1 TX1 7).all goodWord = true := by decide +kernel
  have h1 := List.all_eq_true.mp hg w hw
  rw [uw_1] at hw
  obtain ⟨j, -, hj⟩ := List.mem_filterMap.mp hw
  exact tt_of j hj h1
theorem uw_2 : u_ws RX2 TX2 1 = ([90] : List Nat).filterMap (fun i => lw_tbl[i]?) := by decide +kernel
theorem uv_2 : ∀ w ∈ u_ws RX2 TX2 1, w ∈ TT := by
  intro w hw
  have hg : (u_ws RX2 TX2 1).all goodWord = true := by decide +kernel
  have h1 := List.all_eq_true.mp hg w hw
  rw [uw_2] at hw
  obtain ⟨j, -, hj⟩ := List.mem_filterMap.mp hw
  exact tt_of j hj h1
theorem uw_3 : u_ws RX3 TX3 4 = ([134, 136, 138, 140] : List Nat).filterMap (fun i => lw_tbl[i]?) := by decide +kernel
theorem uv_3 : ∀ w ∈ u_ws RX3 TX3 4, w ∈ TT := by
  intro w hw
  have hg : (u_ws RX3 TX3 4).all goodWord = true := by decide +kernel
  have h1 := List.all_eq_true.mp hg w hw
  rw [uw_3] at hw
  obtain ⟨j, -, hj⟩ := List.mem_filterMap.mp hw
  exact tt_of j hj h1
theorem uw_4 : u_ws RX4 TX4 4 = ([372, 374, 376, 378] : List Nat).filterMap (fun i => lw_tbl[i]?) := by decide +kernel
theorem uv_4 : ∀ w ∈ u_ws RX4 TX4 4, w ∈ TT := by
  intro w hw
  have hg : (u_ws RX4 TX4 4).all goodWord = true := by decide +kernel
  have h1 := List.all_eq_true.mp hg w hw
  rw [uw_4] at hw
  obtain ⟨j, -, hj⟩ := List.mem_filterMap.mp hw
  exact tt_of j hj h1
theorem uw_5 : u_ws RX5 TX5 3 = ([156, 158, 160] : List Nat).filterMap (fun i => lw_tbl[i]?) := by decide +kernel
theorem uv_5 : ∀ w ∈ u_ws RX5 TX5 3, w ∈ TT := by
  intro w hw
  have hg : (u_ws RX5 TX5 3).all goodWord = true := by decide +kernel
  have h1 := List.all_eq_true.mp hg w hw
  rw [uw_5] at hw
  obtain ⟨j, -, hj⟩ := List.mem_filterMap.mp hw
  exact tt_of j hj h1
theorem uw_6 : u_ws RX6 TX6 1 = ([126] : List Nat).filterMap (fun i => lw_tbl[i]?) := by decide +kernel
theorem uv_6 : ∀ w ∈ u_ws RX6 TX6 1, w ∈ TT := by
  intro w hw
  have hg : (u_ws RX6 TX6 1).all goodWord = true := by decide +kernel
  have h1 := List.all_eq_true.mp hg w hw
  rw [uw_6] at hw
  obtain ⟨j, -, hj⟩ := List.mem_filterMap.mp hw
  exact tt_of j hj h1
theorem uw_7 : u_ws RX7 TX7 4 = ([107, 109, 111, 113] : List Nat).filterMap (fun i => lw_tbl[i]?) := by decide +kernel
theorem uv_7 : ∀ w ∈ u_ws RX7 TX7 4, w ∈ TT := by
  intro w hw
  have hg : (u_ws RX7 TX7 4).all goodWord = true := by decide +kernel
  have h1 := List.all_eq_true.mp hg w hw
  rw [uw_7] at hw
  obtain ⟨j, -, hj⟩ := List.mem_filterMap.mp hw
  exact tt_of j hj h1
theorem uw_8 : u_ws RX8 TX8 9 = ([177, 179, 181, 183, 185, 187, 189, 191, 193] : List Nat).filterMap (fun i => lw_tbl[i]?) := by decide +kernel
theorem uv_8 : ∀ w ∈ u_ws RX8 TX8 9, w ∈ TT := by
  intro w hw
  have hg : (u_ws RX8 TX8 9).all goodWord = true := by decide +kernel
  have h1 := List.all_eq_true.mp hg w hw
  rw [uw_8] at hw
  obtain ⟨j, -, hj⟩ := List.mem_filterMap.mp hw
  exact tt_of j hj h1
theorem uw_9 : u_ws RX9 TX9 11 = ([507, 509, 511, 513, 515, 517, 519, 521, 523, 525, 527] : List Nat).filterMap (fun i => lw_tbl[i]?) := by decide +kernel
theorem uv_9 : ∀ w ∈ u_ws RX9 TX9 11, w ∈ TT := by
  intro w hw
  have hg : (u_ws RX9 TX9 11).all goodWord = true := by decide +kernel
  have h1 := List.all_eq_true.mp hg w hw
  rw [uw_9] at hw
  obtain ⟨j, -, hj⟩ := List.mem_filterMap.mp hw
  exact tt_of j hj h1
theorem uw_10 : u_ws RJx4a65c TJx4a65c 3 = ([484, 480, 482] : List Nat).filterMap (fun i => lw_tbl[i]?) := by decide +kernel
theorem uv_10 : ∀ w ∈ u_ws RJx4a65c TJx4a65c 3, w ∈ TT := by
  intro w hw
  have hg : (u_ws RJx4a65c TJx4a65c 3).all goodWord = true := by decide +kernel
  have h1 := List.all_eq_true.mp hg w hw
  rw [uw_10] at hw
  obtain ⟨j, -, hj⟩ := List.mem_filterMap.mp hw
  exact tt_of j hj h1
theorem cl_ok : ∀ (ci : Nat) (r : vw_C), vwCl[ci]? = some r → (∀ w ∈ u_ws r.1 r.2.1 r.2.2, w ∈ TT) ∧ (∀ k, k < r.2.2 → parseFieldDescriptor (r.2.1 k).2.2.1 = some (tyF ci k)) ∧ (∀ a, a < r.2.2 → ∀ b, b < r.2.2 → a ≠ b → (r.2.1 a).2.1 ≠ (r.2.1 b).2.1) ∧ r.2.2 = nF ci ∧ ci < 11 := by
  intro ci r h
  match ci, h with
  | 0, h => cases h; exact ⟨uv_0, tyX0_ok, nmX0, rfl, by decide⟩
  | 1, h => cases h; exact ⟨uv_1, tyX1_ok, nmX1, rfl, by decide⟩
  | 2, h => cases h; exact ⟨uv_2, tyX2_ok, nmX2, rfl, by decide⟩
  | 3, h => cases h; exact ⟨uv_3, tyX3_ok, nmX3, rfl, by decide⟩
  | 4, h => cases h; exact ⟨uv_4, tyX4_ok, nmX4, rfl, by decide⟩
  | 5, h => cases h; exact ⟨uv_5, tyX5_ok, nmX5, rfl, by decide⟩
  | 6, h => cases h; exact ⟨uv_6, tyX6_ok, nmX6, rfl, by decide⟩
  | 7, h => cases h; exact ⟨uv_7, tyX7_ok, nmX7, rfl, by decide⟩
  | 8, h => cases h; exact ⟨uv_8, tyX8_ok, nmX8, rfl, by decide⟩
  | 9, h => cases h; exact ⟨uv_9, tyX9_ok, nmX9, rfl, by decide⟩
  | 10, h => cases h; exact ⟨uv_10, tyJx4a65c_ok, nmJx4a65c, rfl, by decide⟩
  | n + 11, h => simp [vwCl] at h
/-- a field: through the constant ix of own's pool, field k of the class ci -/
def Fld (own : String) (ix ci k : Nat) (ty : FieldType) (fin : Bool) : Prop := ∃ r, vwCl[ci]? = some r ∧ k < r.2.2 ∧ (∃ ref : String, .fieldLink own ix ref (r.2.1 k).2.1 (r.2.1 k).2.2.1 ∈ TT ∧ (ref = (r.2.1 k).1 ∨ (.sameField ref (r.2.1 k).1 (r.2.1 k).2.1 (r.2.1 k).2.2.1 ∈ TT ∧ fin = false))) ∧ tyF ci k = ty ∧ (r.2.1 k).2.2.2 = fin ∧ (fin = true → (r.2.1 k).1 = r.1)
/-- a field of a nest mate's -/
def FldN (own : String) (ix ci k : Nat) (ty : FieldType) (fin : Bool) : Prop := ∃ r, vwCl[ci]? = some r ∧ k < r.2.2 ∧ (∃ H : String, .fieldLinkNest own ix (r.2.1 k).1 (r.2.1 k).2.1 (r.2.1 k).2.2.1 H ∈ nestW) ∧ tyF ci k = ty ∧ (r.2.1 k).2.2.2 = fin
theorem f_same {r : vw_C} {k : Nat} {ref : String} {fin : Bool} {args : Array Value} {s : State} (hts : ∀ w ∈ TT, w.before args s = true) (q : ref = (r.2.1 k).1 ∨ (.sameField ref (r.2.1 k).1 (r.2.1 k).2.1 (r.2.1 k).2.2.1 ∈ TT ∧ fin = false)) : ∀ x, s.fieldFound? (r.2.1 k).1 (r.2.1 k).2.1 (r.2.1 k).2.2.1 = some x → s.fieldFound? ref (r.2.1 k).2.1 (r.2.1 k).2.2.1 = some x := by
  rcases q with rfl | ⟨q, -⟩
  · exact fun _ z => z
  · exact fun x z => u_same (hts _ q) x z
theorem fs_at {X : EX} {h : HP} {a ci k : Nat} (hk : k < nF ci) : ((List.range (nF ci)).map (fun i => if isR ci i then va_rf ((hR h a i).map (ad X)) else .int (hI h a i)))[k]? = some (if isR ci k then va_rf ((hR h a k).map (ad X)) else .int (hI h a k)) := by
  rw [List.getElem?_map, List.getElem?_range hk]; rfl
theorem fs_set {X : EX} {h h' : HP} {a ci k : Nat} {v : Value} (hk : k < nF ci) (hv : (if isR ci k then va_rf ((hR h' a k).map (ad X)) else .int (hI h' a k)) = v) (ho : ∀ j, j ≠ k → hI h' a j = hI h a j ∧ hR h' a j = hR h a j) :
    ((List.range (nF ci)).map (fun i => if isR ci i then va_rf ((hR h a i).map (ad X)) else .int (hI h a i))).set k v = (List.range (nF ci)).map (fun i => if isR ci i then va_rf ((hR h' a i).map (ad X)) else .int (hI h' a i)) := by
  apply List.ext_getElem?
  intro j
  rw [List.getElem?_set]
  by_cases hj : j < nF ci
  · rw [fs_at hj, fs_at hj, List.length_map, List.length_range]
    by_cases hjk : k = j
    · subst hjk
      rw [if_pos rfl, if_pos hk, hv]
    · rw [if_neg hjk, (ho j (fun q => hjk q.symm)).1, (ho j (fun q => hjk q.symm)).2]
  · rw [if_neg (by omega), List.getElem?_eq_none (by simp; omega), List.getElem?_eq_none (by simp; omega)]
theorem corH_set {X : EX} {h h' : HP} {H H1 : Heap} {a : Nat} (hC : CorH X h H) (h1 : 32 ≤ a) (h2 : a < hZ h) (hz : hZ h' = hZ h) (he : va_at (xD X) vwCl (ad X a, ent X h' a) H1) (ho : ∀ k, k ≠ a → ent X h' k = ent X h k) (z : H1.size = H.size) (oq : ∀ q : Nat, q ≠ ad X a → H1[q]? = H[q]?) : CorH X h' H1 := by
  obtain ⟨q1, q2, q3⟩ := hC
  refine ⟨by rw [z, q1, hz], by rw [hz]; exact q2, ?_⟩
  rw [← wl_set h1 h2 hz rfl ho]
  exact q3.set (wl_D X h) (wl_get h1 h2) he oq
theorem corH_push {X : EX} {h h' : HP} {H H1 : Heap} (hC : CorH X h H) (hz : hZ h' = hZ h + 1) (he : va_at (xD X) vwCl (ad X (hZ h), ent X h' (hZ h)) H1) (ho : ∀ k, k < hZ h → ent X h' k = ent X h k) (z : H1.size = H.size + 1) (oq : ∀ q : Nat, q < H.size → H1[q]? = H[q]?) : CorH X h' H1 := by
  obtain ⟨q1, q2, q3⟩ := hC
  refine ⟨by rw [z, q1, hz]; omega, by omega, ?_⟩
  rw [← wl_push q2 hz rfl ho]
  refine (q3.kept (fun k q hq => oq _ ((q3 k q hq).lt))).app (fun k q hq => ?_)
  have hk : k = 0 := by
    have := (List.getElem?_eq_some_iff.mp hq).1
    simpa using this
  subst hk
  cases hq
  exact he
theorem ent_wI {X : EX} {h : HP} {a i k : Nat} {v : Int32} (hk : k ≠ a) : ent X (wI h a i v) k = ent X h k := by
  have e : hI (wI h a i v) k = hI h k := funext fun j => up2_a hk
  unfold ent
  rw [e]
  rfl
theorem ent_wL {X : EX} {h : HP} {a i k : Nat} {v : Int64} (hk : k ≠ a) : ent X (wL h a i v) k = ent X h k := by
  have e : hL (wL h a i v) k = hL h k := funext fun j => up2_a hk
  unfold ent
  rw [e]
  rfl
theorem ent_wR {X : EX} {h : HP} {a i k : Nat} {v : Option Nat} (hk : k ≠ a) : ent X (wR h a i v) k = ent X h k := by
  have e : hR (wR h a i v) k = hR h k := funext fun j => up2_a hk
  unfold ent
  rw [e]
  rfl
theorem ad_A {X : EX} {a : Nat} (h : 32 ≤ a) : AA X (ad X a) := by
  unfold ad AA
  rw [if_neg (by omega)]
  omega
theorem ad_sz {X : EX} {h : HP} {H : Heap} (hC : CorH X h H) : ad X (hZ h) = H.size := by
  unfold ad
  have := hC.2.1
  rw [if_neg (by omega), hC.1]
section R8
variable {X : EX} {y : MD} {d mc ms : Nat} {Q : Option VV → HP → Prop} {cells slots pc pc' : Nat} {ls : ZL} {st : List VV} {h : HP} {ix ci kf a : Nat}
theorem e_getI {ty : FieldType} {fin : Bool} (hd : At y.2.1 pc (.getfield ix) 3 pc') (F : Fld y.1.cls ix ci kf ty fin) (hr : isR ci kf = false) (ok : Is h a (ci + 1)) (k : Ev X y d mc ms Q cells slots pc' ls (vI (hI h a kf) :: st) h) : Ev X y d mc ms Q cells slots pc ls (vR (some a) :: st) h := by
  obtain ⟨hd, rfl⟩ := hd
  intro p e s m args below meth c H locs lsr C hC hS hl
  have kk := k p e s m args below meth c H locs lsr C hC hS hl
  obtain ⟨hx, hb, hmx, hret, hown, hts, hlk, hnm, hK, hP, hsz⟩ := C
  obtain ⟨r, q1, q2, ⟨ref, q3, qs⟩, q4, q5, q6⟩ := F
  obtain ⟨c1, c2, c3, c4, c5⟩ := cl_ok ci r q1
  have he := wl_get (X := X) ok.1 ok.2.1
  rw [ent_obj c5 ok.2.2] at he
  refine va_get (C := r.1) (T := r.2.1) (N := r.2.2) hx hb hts c1 hown hK.1 hC.2.2 _ he q1 kf q2 (hts _ q3) (f_same hts qs) (v := .int (hI h a kf)) ?_ hd kk
  rw [fs_at (by rw [← c4]; exact q2), hr]
  rfl
theorem e_getR {ty : FieldType} {fin : Bool} (hd : At y.2.1 pc (.getfield ix) 3 pc') (F : Fld y.1.cls ix ci kf ty fin) (hr : isR ci kf = true) (ok : Is h a (ci + 1)) (k : Ev X y d mc ms Q cells slots pc' ls (vR (hR h a kf) :: st) h) : Ev X y d mc ms Q cells slots pc ls (vR (some a) :: st) h := by
  obtain ⟨hd, rfl⟩ := hd
  intro p e s m args below meth c H locs lsr C hC hS hl
  have kk := k p e s m args below meth c H locs lsr C hC hS hl
  obtain ⟨hx, hb, hmx, hret, hown, hts, hlk, hnm, hK, hP, hsz⟩ := C
  obtain ⟨r, q1, q2, ⟨ref, q3, qs⟩, q4, q5, q6⟩ := F
  obtain ⟨c1, c2, c3, c4, c5⟩ := cl_ok ci r q1
  have he := wl_get (X := X) ok.1 ok.2.1
  rw [ent_obj c5 ok.2.2] at he
  refine va_get (C := r.1) (T := r.2.1) (N := r.2.2) hx hb hts c1 hown hK.1 hC.2.2 _ he q1 kf q2 (hts _ q3) (f_same hts qs) (v := va_rf ((hR h a kf).map (ad X))) ?_ hd kk
  rw [fs_at (by rw [← c4]; exact q2), hr]
  rfl
theorem e_getIN {ty : FieldType} {fin : Bool} (hd : At y.2.1 pc (.getfield ix) 3 pc') (F : FldN y.1.cls ix ci kf ty fin) (hr : isR ci kf = false) (ok : Is h a (ci + 1)) (k : Ev X y d mc ms Q cells slots pc' ls (vI (hI h a kf) :: st) h) : Ev X y d mc ms Q cells slots pc ls (vR (some a) :: st) h := by
  obtain ⟨hd, rfl⟩ := hd
  intro p e s m args below meth c H locs lsr C hC hS hl
  have kk := k p e s m args below meth c H locs lsr C hC hS hl
  obtain ⟨hx, hb, hmx, hret, hown, hts, hlk, hnm, hK, hP, hsz⟩ := C
  obtain ⟨r, q1, q2, ⟨H9, q3⟩, q4, q5⟩ := F
  obtain ⟨c1, c2, c3, c4, c5⟩ := cl_ok ci r q1
  have he := wl_get (X := X) ok.1 ok.2.1
  rw [ent_obj c5 ok.2.2] at he
  refine va_getN (C := r.1) (T := r.2.1) (N := r.2.2) hx hb hts c1 hown hK.1 hC.2.2 _ he q1 kf q2 (va_Nw.use rfl (hK.2.1 _ q3)) (fun _ z => z) (v := .int (hI h a kf)) ?_ hd kk
  rw [fs_at (by rw [← c4]; exact q2), hr]
  rfl
theorem e_getRN {ty : FieldType} {fin : Bool} (hd : At y.2.1 pc (.getfield ix) 3 pc') (F : FldN y.1.cls ix ci kf ty fin) (hr : isR ci kf = true) (ok : Is h a (ci + 1)) (k : Ev X y d mc ms Q cells slots pc' ls (vR (hR h a kf) :: st) h) : Ev X y d mc ms Q cells slots pc ls (vR (some a) :: st) h := by
  obtain ⟨hd, rfl⟩ := hd
  intro p e s m args below meth c H locs lsr C hC hS hl
  have kk := k p e s m args below meth c H locs lsr C hC hS hl
  obtain ⟨hx, hb, hmx, hret, hown, hts, hlk, hnm, hK, hP, hsz⟩ := C
  obtain ⟨r, q1, q2, ⟨H9, q3⟩, q4, q5⟩ := F
  obtain ⟨c1, c2, c3, c4, c5⟩ := cl_ok ci r q1
  have he := wl_get (X := X) ok.1 ok.2.1
  rw [ent_obj c5 ok.2.2] at he
  refine va_getN (C := r.1) (T := r.2.1) (N := r.2.2) hx hb hts c1 hown hK.1 hC.2.2 _ he q1 kf q2 (va_Nw.use rfl (hK.2.1 _ q3)) (fun _ z => z) (v := va_rf ((hR h a kf).map (ad X))) ?_ hd kk
  rw [fs_at (by rw [← c4]; exact q2), hr]
  rfl
/-- a field's store, of any kind -/
theorem put_core {v : VV} {h' : HP} {ty : FieldType} {fin : Bool} (hd : decode y.2.1 pc = .ok (.putfield ix, 3)) (F : Fld y.1.cls ix ci kf ty fin) (ok : Is h a (ci + 1)) (hfin : fin = false ∨ (y.1.name = "<init>" ∧ ∀ r, vwCl[ci]? = some r → r.1 = y.1.cls))
    (hn : narrow ty (cv X v) = cv X v) (hf : fits ty (cv X v) = true) (hz : hZ h' = hZ h) (hv : (if isR ci kf then va_rf ((hR h' a kf).map (ad X)) else .int (hI h' a kf)) = cv X v) (ho : ∀ j, j ≠ kf → hI h' a j = hI h a j ∧ hR h' a j = hR h a j) (ht : hT h' a = hT h a) (he' : ∀ q, q ≠ a → ent X h' q = ent X h q)
    (k : Ev X y d mc ms Q cells slots (pc + 3) ls st h') : Ev X y d mc ms Q cells slots pc ls (v :: vR (some a) :: st) h := by
  intro p e s m args below meth c H locs lsr C hC hS hl
  have kk := fun H1 locs1 hC1 hS1 => k p e s m args below meth c H1 locs1 lsr C hC1 hS1 hl
  obtain ⟨hx, hb, hmx, hret, hown, hts, hlk, hnm, hK, hP, hsz⟩ := C
  obtain ⟨r, q1, q2, ⟨ref, q3, qs⟩, q4, q5, q6⟩ := F
  obtain ⟨c1, c2, c3, c4, c5⟩ := cl_ok ci r q1
  have he := wl_get (X := X) ok.1 ok.2.1
  rw [ent_obj c5 ok.2.2] at he
  have hap := va_apart (own := y.1.cls) hts c1 (tyF ci) c2 c3 hK.1 q1
  obtain ⟨r', h1, cell, g1, g2, g3, g4⟩ := hC.2.2 _ _ he
  have hrr : r' = r := Option.some.inj (h1.symm.trans q1)
  subst hrr
  obtain ⟨hSl, hfc, kC, hkC, hkind⟩ := hK.1.1 ci _ q1
  obtain ⟨cf, kf0, fi, f, hi, hsl⟩ := hSl kf q2
  have hlay := hts _ (c1 _ (u_in_lay q2))
  have hst := (u_facts hfc hkC (u_lays hts c1 q2) hi).1
  have hd0 : parseFieldDescriptor (r'.2.1 kf).2.2.1 = some ty := by rw [c2 kf q2, q4]
  have hlen : kf < ((List.range (nF ci)).map (fun i => if isR ci i then va_rf ((hR h a i).map (ad X)) else .int (hI h a i))).length := by
    rw [List.length_map, List.length_range, ← c4]; exact q2
  have fin2 : ∀ H1 : Heap, H1[ad X a]? = some (cell.setSlot f.slot (cv X v)) → H1.size = H.size → (∀ q, q ≠ ad X a → H1[q]? = H[q]?) →
      W p (xl X) e (rmd d mc ms) s m args below meth c H1 (locs ++ [⟨ad X a, f.slot⟩]) cells slots (MQ below (Qm X Q) args s mc ms (AA X)) (F0 m (pc + 3) lsr (st.map (cv X))) := by
    intro H1 e1 e2 e3
    rw [hsl] at e1
    refine kk H1 _ (corH_set hC ok.1 ok.2.1 hz ?_ he' e2 e3) (hS.put e2 e3 (ad_A ok.1))
    rw [ent_obj c5 (ht.trans ok.2.2)]
    refine ⟨r', q1, ?_⟩
    have hset := fs_set (X := X) (h := h) (h' := h') (a := a) (ci := ci) (k := kf) (v := cv X v) (by rw [← c4]; exact q2) hv ho
    show t_OB (ad X a) _ _ _ H1 (vp_V ((List.range (nF ci)).map _))
    rw [← hset]
    exact t_OB.to (V := updV (vp_V _) kf (cv X v)) ⟨_, e1, g2, g3, t_set g4 hap q2 (cv X v)⟩ (fun j _ => vp_updV_set hlen (cv X v) j)
  have hslot : f.slot < cell.slots.size := by rw [hsl]; exact k2_hasslot (g4 kf q2)
  unfold u_lay at hlay
  rcases hfin with hfin | ⟨hin, hown2⟩
  · rw [if_neg (by rw [q5, hfin]; decide)] at hlay
    exact W.putK hx hb (f := f) ⟨hown, hts _ q3, ⟨_, _, _, f_same hts qs _ hi⟩, hst⟩ (by rw [g2]; exact u_store hfc hkC hkind hlay hi hd0 hn hf) g1 g3 hslot rfl rfl hd fin2
  · cases hfb : fin with
    | false =>
      rw [if_neg (by rw [q5, hfb]; decide)] at hlay
      exact W.putK hx hb (f := f) ⟨hown, hts _ q3, ⟨_, _, _, f_same hts qs _ hi⟩, hst⟩ (by rw [g2]; exact u_store hfc hkC hkind hlay hi hd0 hn hf) g1 g3 hslot rfl rfl hd fin2
    | true =>
      rw [if_pos (by rw [q5, hfb])] at hlay
      have hcf : m.cls = cf := by
        obtain ⟨_, _, c', _, _, _, -, -, hf', -, -, -, hown3, -⟩ := Cond.laysFinal_spec hlay
        have e1 : c' = cf := by have := hi.symm.trans hf'; simp at this; exact this.1.symm
        rw [q6 hfb, hown2 _ q1] at hown3
        rw [← e1]; exact Option.some.inj (hown.symm.trans hown3)
      exact W.putFinK hx hb hown (hts _ q3) (f_same hts qs _ hi) hst hcf (hnm.trans hin) (by rw [g2]; exact u_fits hfc hkC hkind (Or.inr hlay) hi hd0 hn hf) g1 g3 hslot rfl rfl hd fin2
theorem e_putI {x : Int32} {fin : Bool} (hd : At y.2.1 pc (.putfield ix) 3 pc') (F : Fld y.1.cls ix ci kf .int fin) (hr : isR ci kf = false) (ok : Is h a (ci + 1)) (hfin : fin = false ∨ (y.1.name = "<init>" ∧ ∀ r, vwCl[ci]? = some r → r.1 = y.1.cls)) (k : Ev X y d mc ms Q cells slots pc' ls st (wI h a kf x)) : Ev X y d mc ms Q cells slots pc ls (vI x :: vR (some a) :: st) h := by
  obtain ⟨hd, rfl⟩ := hd
  refine put_core (v := vI x) (h' := wI h a kf x) hd F ok hfin rfl rfl rfl ?_ (fun j hj => ⟨up2_i hj, rfl⟩) rfl (fun q hq => ent_wI hq) k
  rw [hr]
  show Value.int (up2 _ _ _ _ _ _) = _
  rw [up2_s]
  rfl
theorem e_putZ {x : Int32} {fin : Bool} (hd : At y.2.1 pc (.putfield ix) 3 pc') (F : Fld y.1.cls ix ci kf .boolean fin) (hr : isR ci kf = false) (ok : Is h a (ci + 1)) (hfin : fin = false ∨ (y.1.name = "<init>" ∧ ∀ r, vwCl[ci]? = some r → r.1 = y.1.cls)) (hx : x = 0 ∨ x = 1) (k : Ev X y d mc ms Q cells slots pc' ls st (wI h a kf x)) : Ev X y d mc ms Q cells slots pc ls (vI x :: vR (some a) :: st) h := by
  obtain ⟨hd, rfl⟩ := hd
  refine put_core (v := vI x) (h' := wI h a kf x) hd F ok hfin (by rcases hx with rfl | rfl <;> rfl) (by rcases hx with rfl | rfl <;> rfl) rfl ?_ (fun j hj => ⟨up2_i hj, rfl⟩) rfl (fun q hq => ent_wI hq) k
  rw [hr]
  show Value.int (up2 _ _ _ _ _ _) = _
  rw [up2_s]
  rfl
theorem e_putR {r0 : Option Nat} {ty : FieldType} {fin : Bool} (hd : At y.2.1 pc (.putfield ix) 3 pc') (F : Fld y.1.cls ix ci kf ty fin) (hr : isR ci kf = true) (ok : Is h a (ci + 1)) (hfin : fin = false ∨ (y.1.name = "<init>" ∧ ∀ r, vwCl[ci]? = some r → r.1 = y.1.cls)) (k : Ev X y d mc ms Q cells slots pc' ls st (wR h a kf r0)) : Ev X y d mc ms Q cells slots pc ls (vR r0 :: vR (some a) :: st) h := by
  obtain ⟨hd, rfl⟩ := hd
  have hty : (∃ n, ty = .object n) ∨ ∃ t, ty = .array t := by
    obtain ⟨r, q1, q2, q3, q4, q5, q6⟩ := F
    unfold isR at hr
    rw [q4] at hr
    cases ty <;> first | exact Or.inl ⟨_, rfl⟩ | exact Or.inr ⟨_, rfl⟩ | cases hr
  refine put_core (v := vR r0) (h' := wR h a kf r0) hd F ok hfin ?_ ?_ rfl ?_ (fun j hj => ⟨rfl, up2_i hj⟩) rfl (fun q hq => ent_wR hq) k
  · cases r0 <;> rcases hty with ⟨n, rfl⟩ | ⟨t, rfl⟩ <;> rfl
  · cases r0 <;> rcases hty with ⟨n, rfl⟩ | ⟨t, rfl⟩ <;> rfl
  · rw [hr]
    show va_rf (Option.map _ (up2 _ _ _ _ _ _)) = _
    rw [up2_s]
    rfl
theorem put_coreN {v : VV} {h' : HP} {ty : FieldType} (hd : decode y.2.1 pc = .ok (.putfield ix, 3)) (F : FldN y.1.cls ix ci kf ty false) (ok : Is h a (ci + 1))
    (hn : narrow ty (cv X v) = cv X v) (hf : fits ty (cv X v) = true) (hz : hZ h' = hZ h) (hv : (if isR ci kf then va_rf ((hR h' a kf).map (ad X)) else .int (hI h' a kf)) = cv X v) (ho : ∀ j, j ≠ kf → hI h' a j = hI h a j ∧ hR h' a j = hR h a j) (ht : hT h' a = hT h a) (he' : ∀ q, q ≠ a → ent X h' q = ent X h q)
    (k : Ev X y d mc ms Q cells slots (pc + 3) ls st h') : Ev X y d mc ms Q cells slots pc ls (v :: vR (some a) :: st) h := by
  intro p e s m args below meth c H locs lsr C hC hS hl
  have kk := fun H1 locs1 hC1 hS1 => k p e s m args below meth c H1 locs1 lsr C hC1 hS1 hl
  obtain ⟨hx, hb, hmx, hret, hown, hts, hlk, hnm, hK, hP, hsz⟩ := C
  obtain ⟨r, q1, q2, ⟨H9, q3⟩, q4, q5⟩ := F
  obtain ⟨c1, c2, c3, c4, c5⟩ := cl_ok ci r q1
  have he := wl_get (X := X) ok.1 ok.2.1
  rw [ent_obj c5 ok.2.2] at he
  have hap := va_apart (own := y.1.cls) hts c1 (tyF ci) c2 c3 hK.1 q1
  obtain ⟨r', h1, cell, g1, g2, g3, g4⟩ := hC.2.2 _ _ he
  have hrr : r' = r := Option.some.inj (h1.symm.trans q1)
  subst hrr
  obtain ⟨hSl, hfc, kC, hkC, hkind⟩ := hK.1.1 ci _ q1
  obtain ⟨cf, kf0, fi, f, hi, hsl⟩ := hSl kf q2
  have hlay := hts _ (c1 _ (u_in_lay q2))
  have hst := (u_facts hfc hkC (u_lays hts c1 q2) hi).1
  have hd0 : parseFieldDescriptor (r'.2.1 kf).2.2.1 = some ty := by rw [c2 kf q2, q4]
  have hlen : kf < ((List.range (nF ci)).map (fun i => if isR ci i then va_rf ((hR h a i).map (ad X)) else .int (hI h a i))).length := by
    rw [List.length_map, List.length_range, ← c4]; exact q2
  have fin2 : ∀ H1 : Heap, H1[ad X a]? = some (cell.setSlot f.slot (cv X v)) → H1.size = H.size → (∀ q, q ≠ ad X a → H1[q]? = H[q]?) →
      W p (xl X) e (rmd d mc ms) s m args below meth c H1 (locs ++ [⟨ad X a, f.slot⟩]) cells slots (MQ below (Qm X Q) args s mc ms (AA X)) (F0 m (pc + 3) lsr (st.map (cv X))) := by
    intro H1 e1 e2 e3
    rw [hsl] at e1
    refine kk H1 _ (corH_set hC ok.1 ok.2.1 hz ?_ he' e2 e3) (hS.put e2 e3 (ad_A ok.1))
    rw [ent_obj c5 (ht.trans ok.2.2)]
    refine ⟨r', q1, ?_⟩
    have hset := fs_set (X := X) (h := h) (h' := h') (a := a) (ci := ci) (k := kf) (v := cv X v) (by rw [← c4]; exact q2) hv ho
    show t_OB (ad X a) _ _ _ H1 (vp_V ((List.range (nF ci)).map _))
    rw [← hset]
    exact t_OB.to (V := updV (vp_V _) kf (cv X v)) ⟨_, e1, g2, g3, t_set g4 hap q2 (cv X v)⟩ (fun j _ => vp_updV_set hlen (cv X v) j)
  have hslot : f.slot < cell.slots.size := by rw [hsl]; exact k2_hasslot (g4 kf q2)
  unfold u_lay at hlay
  rw [if_neg (by rw [q5]; decide)] at hlay
  exact va_WputK hx hb (f := f) hown (va_Nw.use rfl (hK.2.1 _ q3)) hi hst (by rw [g2]; exact u_store hfc hkC hkind hlay hi hd0 hn hf) g1 g3 hslot rfl rfl hd fin2
theorem e_putIN {x : Int32} (hd : At y.2.1 pc (.putfield ix) 3 pc') (F : FldN y.1.cls ix ci kf .int false) (hr : isR ci kf = false) (ok : Is h a (ci + 1)) (k : Ev X y d mc ms Q cells slots pc' ls st (wI h a kf x)) : Ev X y d mc ms Q cells slots pc ls (vI x :: vR (some a) :: st) h := by
  obtain ⟨hd, rfl⟩ := hd
  refine put_coreN (v := vI x) (h' := wI h a kf x) hd F ok rfl rfl rfl ?_ (fun j hj => ⟨up2_i hj, rfl⟩) rfl (fun q hq => ent_wI hq) k
  rw [hr]
  show Value.int (up2 _ _ _ _ _ _) = _
  rw [up2_s]
  rfl
end R8
end
section
/-! RULES: arrays, new cells, statics, the pool's constants, JDK members (written by wip/p45/gen7.py) -/
section R9
variable {X : EX} {y : MD} {d mc ms : Nat} {Q : Option VV → HP → Prop} {cells slots pc pc' : Nat} {ls : ZL} {st : List VV} {h : HP} {ix a : Nat}
theorem e_iaload {i : Int32} (hd : At y.2.1 pc (.iaload) 1 pc') (ok : Is h a 13) (hin : vp_in i (hN h a)) (k : Ev X y d mc ms Q cells slots pc' ls (vI (hI h a i.toNatClampNeg) :: st) h) : Ev X y d mc ms Q cells slots pc ls (vI i :: vR (some a) :: st) h := by
  obtain ⟨hd, rfl⟩ := hd
  intro p e s m args below meth c H locs lsr C hC hS hl
  have kk := k p e s m args below meth c H locs lsr C hC hS hl
  obtain ⟨hx, hb, hmx, hret, hown, hts, hlk, hnm, hK, hP, hsz⟩ := C
  have he := wl_get (X := X) ok.1 ok.2.1
  rw [ent_int (by decide) ok.2.2] at he
  exact va_iald hx hb hK.1 hC.2.2 _ 2 he rfl hin hd kk
theorem e_baload {i : Int32} (hd : At y.2.1 pc (.baload) 1 pc') (ok : Is h a 12) (hin : vp_in i (hN h a)) (k : Ev X y d mc ms Q cells slots pc' ls (vI (hI h a i.toNatClampNeg) :: st) h) : Ev X y d mc ms Q cells slots pc ls (vI i :: vR (some a) :: st) h := by
  obtain ⟨hd, rfl⟩ := hd
  intro p e s m args below meth c H locs lsr C hC hS hl
  have kk := k p e s m args below meth c H locs lsr C hC hS hl
  obtain ⟨hx, hb, hmx, hret, hown, hts, hlk, hnm, hK, hP, hsz⟩ := C
  have he := wl_get (X := X) ok.1 ok.2.1
  rw [ent_int (by decide) ok.2.2] at he
  exact va_bald hx hb hK.1 hC.2.2 _ 1 he rfl hin hd kk
theorem e_laload {i : Int32} (hd : At y.2.1 pc (.laload) 1 pc') (ok : Is h a 14) (hin : vp_in i (hN h a)) (k : Ev X y d mc ms Q cells slots pc' ls (vL (hL h a i.toNatClampNeg) :: st) h) : Ev X y d mc ms Q cells slots pc ls (vI i :: vR (some a) :: st) h := by
  obtain ⟨hd, rfl⟩ := hd
  intro p e s m args below meth c H locs lsr C hC hS hl
  have kk := k p e s m args below meth c H locs lsr C hC hS hl
  obtain ⟨hx, hb, hmx, hret, hown, hts, hlk, hnm, hK, hP, hsz⟩ := C
  have he := wl_get (X := X) ok.1 ok.2.1
  rw [ent_long ok.2.2] at he
  exact va_lald hx hb hK.1 hC.2.2 _ 3 he rfl hin hd kk
/-- the kinds of arrays of references: their class -/
def rfC : Nat → Nat × String
  | 16 => (0, RX0) | 17 => (1, RX1) | 18 => (5, RX5) | 19 => (6, RX6) | _ => (11, "java/lang/Object")
theorem rf_ty {X : EX} {t : Nat} (h1 : 16 ≤ t) (h2 : t ≤ 20) : (tys X)[t - 11]? = some (xA X t, .object (rfC t).2) := by
  have : t = 16 ∨ t = 17 ∨ t = 18 ∨ t = 19 ∨ t = 20 := by omega
  rcases this with rfl | rfl | rfl | rfl | rfl <;> rfl
theorem rf_cl {t : Nat} (h1 : 16 ≤ t) (h2 : t ≤ 19) : ∃ r, vwCl[(rfC t).1]? = some r ∧ r.1 = (rfC t).2 ∧ (rfC t).1 < 11 := by
  have : t = 16 ∨ t = 17 ∨ t = 18 ∨ t = 19 := by omega
  rcases this with rfl | rfl | rfl | rfl <;> exact ⟨_, rfl, rfl, by decide⟩
theorem e_aaload {i : Int32} {t : Nat} (hd : At y.2.1 pc (.aaload) 1 pc') (ok : Is h a t) (h1 : 16 ≤ t) (h2 : t ≤ 20) (hin : vp_in i (hN h a)) (k : Ev X y d mc ms Q cells slots pc' ls (vR (hR h a i.toNatClampNeg) :: st) h) : Ev X y d mc ms Q cells slots pc ls (vI i :: vR (some a) :: st) h := by
  obtain ⟨hd, rfl⟩ := hd
  intro p e s m args below meth c H locs lsr C hC hS hl
  have kk := k p e s m args below meth c H locs lsr C hC hS hl
  obtain ⟨hx, hb, hmx, hret, hown, hts, hlk, hnm, hK, hP, hsz⟩ := C
  have he := wl_get (X := X) ok.1 ok.2.1
  rw [ent_ref h1 ok.2.2] at he
  exact va_aldq hx hb hK.1 hC.2.2 _ (t - 11) he (rf_ty h1 h2) hin hd kk
theorem cell_size {cA : ClassId} {i : Int32} {n : Nat} {f : Nat → Value} (hin : vp_in i n) : ¬ (i < 0 ∨ (arrV cA n f).slots.size ≤ i.toNatClampNeg) := by
  rw [arrV_size]; exact hin
theorem e_iastore {i x : Int32} (hd : At y.2.1 pc (.iastore) 1 pc') (ok : Is h a 13) (hin : vp_in i (hN h a)) (k : Ev X y d mc ms Q cells slots pc' ls st (wI h a i.toNatClampNeg x)) : Ev X y d mc ms Q cells slots pc ls (vI x :: vI i :: vR (some a) :: st) h := by
  obtain ⟨hd, rfl⟩ := hd
  intro p e s m args below meth c H locs lsr C hC hS hl
  have kk := fun H1 locs1 hC1 hS1 => k p e s m args below meth c H1 locs1 lsr C hC1 hS1 hl
  obtain ⟨hx, hb, hmx, hret, hown, hts, hlk, hnm, hK, hP, hsz⟩ := C
  have he := wl_get (X := X) ok.1 ok.2.1
  rw [ent_int (by decide) ok.2.2] at he
  refine W.iast hx hb (hC.2.2 _ _ he) ((hK.1.2 2 _ rfl).1 (hN h a) (fun j => .int (hI h a j))) (fun q => by cases q) (cell_size hin) rfl rfl hd fun H1 e1 z oq => ?_
  refine kk H1 _ (corH_set hC ok.1 ok.2.1 rfl ?_ (fun q hq => ent_wI hq) z oq) (hS.put z oq (ad_A ok.1))
  have ok' : hT (wI h a i.toNatClampNeg x) a = 13 := ok.2.2
  rw [ent_int (by decide) ok']
  show H1[ad X a]? = some (vp_cell _ _)
  rw [e1, vp_cell_i, vp_cell_i, arrV_store]
  congr 2
  funext q
  by_cases hq : q = i.toNatClampNeg
  · subst hq
    simp [updV, up2, hI, wI]
    try rfl
  · simp [updV, hI, wI, up2, hq]
theorem e_lastore {i : Int32} {x : Int64} (hd : At y.2.1 pc (.lastore) 1 pc') (ok : Is h a 14) (hin : vp_in i (hN h a)) (k : Ev X y d mc ms Q cells slots pc' ls st (wL h a i.toNatClampNeg x)) : Ev X y d mc ms Q cells slots pc ls (vL x :: vI i :: vR (some a) :: st) h := by
  obtain ⟨hd, rfl⟩ := hd
  intro p e s m args below meth c H locs lsr C hC hS hl
  have kk := fun H1 locs1 hC1 hS1 => k p e s m args below meth c H1 locs1 lsr C hC1 hS1 hl
  obtain ⟨hx, hb, hmx, hret, hown, hts, hlk, hnm, hK, hP, hsz⟩ := C
  have he := wl_get (X := X) ok.1 ok.2.1
  rw [ent_long ok.2.2] at he
  refine W.last hx hb (hC.2.2 _ _ he) ((hK.1.2 3 _ rfl).1 (hN h a) (fun j => .long (hL h a j))) (fun q => by cases q) (cell_size hin) rfl rfl hd fun H1 e1 z oq => ?_
  refine kk H1 _ (corH_set hC ok.1 ok.2.1 rfl ?_ (fun q hq => ent_wL hq) z oq) (hS.put z oq (ad_A ok.1))
  have ok' : hT (wL h a i.toNatClampNeg x) a = 14 := ok.2.2
  rw [ent_long ok']
  show H1[ad X a]? = some (vp_cell _ _)
  rw [e1, vp_cell_l, vp_cell_l, arrV_store]
  congr 2
  funext q
  by_cases hq : q = i.toNatClampNeg
  · subst hq
    simp [updV, up2, hL, wL]
    try rfl
  · simp [updV, hL, wL, up2, hq]
theorem e_aastoreN {i : Int32} {t : Nat} (hd : At y.2.1 pc (.aastore) 1 pc') (ok : Is h a t) (h1 : 16 ≤ t) (h2 : t ≤ 20) (hin : vp_in i (hN h a)) (k : Ev X y d mc ms Q cells slots pc' ls st (wR h a i.toNatClampNeg none)) : Ev X y d mc ms Q cells slots pc ls (vR none :: vI i :: vR (some a) :: st) h := by
  obtain ⟨hd, rfl⟩ := hd
  intro p e s m args below meth c H locs lsr C hC hS hl
  have kk := fun H1 locs1 hC1 hS1 => k p e s m args below meth c H1 locs1 lsr C hC1 hS1 hl
  obtain ⟨hx, hb, hmx, hret, hown, hts, hlk, hnm, hK, hP, hsz⟩ := C
  have he := wl_get (X := X) ok.1 ok.2.1
  rw [ent_ref h1 ok.2.2] at he
  refine va_WaastN (C := (rfC t).2) hx hb (hC.2.2 _ _ he) ((hK.1.2 (t - 11) _ (rf_ty h1 h2)).1 (hN h a) (fun j => va_rf ((hR h a j).map (ad X)))) (fun h => by cases h) (cell_size hin) rfl rfl hd fun H1 e1 z oq => ?_
  refine kk H1 _ (corH_set hC ok.1 ok.2.1 rfl ?_ (fun q hq => ent_wR hq) z oq) (hS.put z oq (ad_A ok.1))
  have ok' : hT (wR h a i.toNatClampNeg none) a = t := ok.2.2
  rw [ent_ref h1 ok']
  show H1[ad X a]? = some (vp_cell _ _)
  rw [e1, vp_cell_q, vp_cell_q, arrV_store]
  congr 2
  funext q
  by_cases hq : q = i.toNatClampNeg
  · subst hq
    simp [updV, up2, hR, wR, va_rf]
  · simp [updV, hR, wR, up2, hq]
theorem e_aastore {i : Int32} {t b : Nat} (hd : At y.2.1 pc (.aastore) 1 pc') (ok : Is h a t) (h1 : 16 ≤ t) (h2 : t ≤ 19) (ok2 : Is h b ((rfC t).1 + 1)) (hin : vp_in i (hN h a)) (k : Ev X y d mc ms Q cells slots pc' ls st (wR h a i.toNatClampNeg (some b))) : Ev X y d mc ms Q cells slots pc ls (vR (some b) :: vI i :: vR (some a) :: st) h := by
  obtain ⟨hd, rfl⟩ := hd
  intro p e s m args below meth c H locs lsr C hC hS hl
  have kk := fun H1 locs1 hC1 hS1 => k p e s m args below meth c H1 locs1 lsr C hC1 hS1 hl
  obtain ⟨hx, hb, hmx, hret, hown, hts, hlk, hnm, hK, hP, hsz⟩ := C
  have he := wl_get (X := X) ok.1 ok.2.1
  rw [ent_ref h1 ok.2.2] at he
  obtain ⟨r, hr, hr2, hr3⟩ := rf_cl h1 h2
  have hv := wl_get (X := X) ok2.1 ok2.2.1
  rw [ent_obj hr3 ok2.2.2] at hv
  obtain ⟨r', hr', cellV, g1, g2, g3, -⟩ := hC.2.2 _ _ hv
  have hcls := (hK.1.1 _ r hr).2
  rw [hr2] at hcls
  obtain ⟨kA, comp, k1, k2, k3, -⟩ := (hK.1.2 (t - 11) _ (rf_ty h1 (Nat.le_succ_of_le h2))).2
  have hcomp : comp = (xD X).1 (rfC t).1 := Option.some.inj (k3.symm.trans hcls.1)
  subst hcomp
  obtain ⟨kC, hkC, -⟩ := hcls.2
  have hlt : i.toNatClampNeg < hN h a := Nat.not_le.mp fun q => hin (Or.inr q)
  have h0 : ¬ i < 0 := fun q => hin (Or.inl q)
  refine W.aast hx hb (hC.2.2 _ _ he) (fun q h => by cases h) (fun h => by cases h) k1 k2 rfl hkC ⟨h0, by show _ < (arrV _ _ _).slots.size; rw [arrV_size]; exact hlt⟩ g1 (fun q h => by rw [g3] at h; cases h) (by rw [g2]; exact hkC) (by rw [g2]; exact va_assign hcls) rfl rfl hd fun H1 e1 z oq => ?_
  refine kk H1 _ (corH_set hC ok.1 ok.2.1 rfl ?_ (fun q hq => ent_wR hq) z oq) (hS.put z oq (ad_A ok.1))
  have ok' : hT (wR h a i.toNatClampNeg (some b)) a = t := ok.2.2
  rw [ent_ref h1 ok']
  show H1[ad X a]? = some (vp_cell _ _)
  rw [e1, vp_cell_q, vp_cell_q, arrV_store]
  congr 2
  funext q
  by_cases hq : q = i.toNatClampNeg
  · subst hq
    simp [updV, up2, hR, wR, va_rf]
  · simp [updV, hR, wR, up2, hq]
theorem e_alen {t : Nat} (hd : At y.2.1 pc (.arraylength) 1 pc') (ok : Is h a t) (h1 : 12 ≤ t) (h2 : t ≤ 20) (h15 : t ≠ 15) (k : Ev X y d mc ms Q cells slots pc' ls (vI (Int32.ofNat (hN h a)) :: st) h) : Ev X y d mc ms Q cells slots pc ls (vR (some a) :: st) h := by
  obtain ⟨hd, rfl⟩ := hd
  intro p e s m args below meth c H locs lsr C hC hS hl
  have kk := k p e s m args below meth c H locs lsr C hC hS hl
  obtain ⟨hx, hb, hmx, hret, hown, hts, hlk, hnm, hK, hP, hsz⟩ := C
  have he := wl_get (X := X) ok.1 ok.2.1
  by_cases h14 : t = 14
  · subst h14
    rw [ent_long ok.2.2] at he
    exact va_alen hx hb hK.1 hC.2.2 _ 3 he rfl rfl hd kk
  · by_cases h16 : 16 ≤ t
    · rw [ent_ref h16 ok.2.2] at he
      exact va_alen hx hb hK.1 hC.2.2 _ (t - 11) he (rf_ty h16 h2) rfl hd kk
    · have : t = 12 ∨ t = 13 := by omega
      rw [ent_int this ok.2.2] at he
      rcases this with rfl | rfl
      · exact va_alen hx hb hK.1 hC.2.2 _ 0 he rfl rfl hd kk
      · exact va_alen hx hb hK.1 hC.2.2 _ 2 he rfl rfl hd kk
/-! new cells -/
theorem ent_nw {X : EX} {h : HP} {t n k : Nat} (hk : k < hZ h) : ent X (nw h t n) k = ent X h k := by
  have hne : k ≠ hZ h := Nat.ne_of_lt hk
  have e1 : hI (nw h t n) k = hI h k := by funext j; simp [nw, hI, hne]
  have e2 : hL (nw h t n) k = hL h k := by funext j; simp [nw, hL, hne]
  have e3 : hR (nw h t n) k = hR h k := by funext j; simp [nw, hR, hne]
  have e4 : hT (nw h t n) k = hT h k := by simp [nw, hT, hne]
  have e5 : hN (nw h t n) k = hN h k := by simp [nw, hN, hne]
  unfold ent
  rw [e1, e2, e3, e4, e5]
def NewOk (own : String) (ix ci : Nat) : Prop := ∃ r, vwCl[ci]? = some r ∧ .classLink own ix r.1 ∈ TT ∧ .instantiable r.1 r.2.2 ∈ TT ∧ .initialized r.1 ∈ TT
theorem dflt_ok : ∀ (ci : Nat) (r : vw_C), vwCl[ci]? = some r → ∀ k, k < r.2.2 → defaultValue (tyF ci k) = (if isR ci k then va_rf none else .int 0) := by
  intro ci r h
  match ci, h with
  | 0, h => cases h; decide +kernel
  | 1, h => cases h; decide +kernel
  | 2, h => cases h; decide +kernel
  | 3, h => cases h; decide +kernel
  | 4, h => cases h; decide +kernel
  | 5, h => cases h; decide +kernel
  | 6, h => cases h; decide +kernel
  | 7, h => cases h; decide +kernel
  | 8, h => cases h; decide +kernel
  | 9, h => cases h; decide +kernel
  | 10, h => cases h; decide +kernel
  | n + 11, h => simp [vwCl] at h
theorem e_new {ci : Nat} (hd : At y.2.1 pc (.new ix) 3 pc') (N : NewOk y.1.cls ix ci) (hcc : cells + 1 ≤ mc) (hss : slots + nF ci ≤ ms) (k : Ev X y d mc ms Q (cells + 1) (slots + nF ci) pc' ls (vR (some (hZ h)) :: st) (nw h (ci + 1) 0)) : Ev X y d mc ms Q cells slots pc ls st h := by
  obtain ⟨hd, rfl⟩ := hd
  intro p e s m args below meth c H locs lsr C hC hS hl
  have kk := fun H1 hC1 hS1 => k p e s m args below meth c H1 locs lsr C hC1 hS1 hl
  obtain ⟨hx, hb, hmx, hret, hown, hts, hlk, hnm, hK, hP, hsz⟩ := C
  obtain ⟨r, hr, w1, w2, w3⟩ := N
  obtain ⟨c1, c2, c3, c4, c5⟩ := cl_ok ci r hr
  have hKn := hK.1.1 ci _ hr
  refine W.newcK (n := nF ci) hx hb hown (hts _ w1) (by rw [← c4]; exact hts _ w2) (hts _ w3) rfl hd hcc hss hKn.2.1 rfl fun H1 kC hkC e1 z1 o1 => ?_
  have hH : (F0 m (pc + 3) lsr (.ref H.size :: st.map (cv X))) = F0 m (pc + 3) lsr ((vR (some (hZ h)) :: st).map (cv X)) := by
    show _ = F0 m (pc + 3) lsr (.ref (ad X (hZ h)) :: st.map (cv X))
    rw [ad_sz hC]
  refine W.eq hH (kk H1 (corH_push hC rfl ?_ (fun q hq => ent_nw hq) z1 o1) ⟨Nat.le_trans hS.1 (by omega), fun x h1 h2 => (o1 x (Nat.lt_of_lt_of_le h1 hS.1)).trans (hS.2.1 x h1 h2), hS.2.2⟩)
  rw [ent_obj (ci := ci) c5 (by simp [nw, hT])]
  refine ⟨r, hr, ?_⟩
  rw [ad_sz hC]
  refine (u_born (tyF ci) hts c1 hKn hkC e1 c2).to (fun j hj => ?_)
  dsimp only
  rw [dflt_ok ci r hr j hj]
  have hv : ((List.range (nF ci)).map (fun i => if isR ci i then va_rf ((hR (nw h (ci + 1) 0) (hZ h) i).map (ad X)) else .int (hI (nw h (ci + 1) 0) (hZ h) i)))[j]? = some (if isR ci j then va_rf none else .int 0) := by
    rw [fs_at (by rw [← c4]; exact hj)]
    simp [nw, hI, hR]
  show _ = List.getD _ j Value.null
  rw [List.getD_eq_getElem?_getD, hv]
  rfl
theorem e_newI {n : Int32} {N' : Nat} (hd : At y.2.1 pc (.newarray .int) 2 pc') (w : .arrayClass .int ∈ TT) (hn : ¬ n < 0) (hN' : n.toNatClampNeg = N') (hbig : N' ≤ 60000000) (hcc : cells + 1 ≤ mc) (hss : slots + N' ≤ ms) (k : Ev X y d mc ms Q (cells + 1) (slots + N') pc' ls (vR (some (hZ h)) :: st) (nw h 13 N')) : Ev X y d mc ms Q cells slots pc ls (vI n :: st) h := by
  obtain ⟨hd, rfl⟩ := hd
  intro p e s m args below meth c H locs lsr C hC hS hl
  have kk := fun H1 hC1 hS1 => k p e s m args below meth c H1 locs lsr C hC1 hS1 hl
  obtain ⟨hx, hb, hmx, hret, hown, hts, hlk, hnm, hK, hP, hsz⟩ := C
  refine va_newaK (atype := .int) hx hb (hts _ w) rfl hd rfl hn hN' (by show N' * _ ≤ _; simp only [newarray.typeOf, componentBytes]; omega) hcc hss rfl fun H1 cA e1 z1 o1 hAr hNm => ?_
  have hcA : cA = xA X 13 := Option.some.inj (hNm.symm.trans (hK.1.2 2 _ rfl).2)
  have hH : (F0 m (pc + 2) lsr (.ref H.size :: st.map (cv X))) = F0 m (pc + 2) lsr ((vR (some (hZ h)) :: st).map (cv X)) := by
    show _ = F0 m (pc + 2) lsr (.ref (ad X (hZ h)) :: st.map (cv X))
    rw [ad_sz hC]
  refine W.eq hH (kk H1 (corH_push hC rfl ?_ (fun q hq => ent_nw hq) z1 o1) ⟨Nat.le_trans hS.1 (by omega), fun x h1 h2 => (o1 x (Nat.lt_of_lt_of_le h1 hS.1)).trans (hS.2.1 x h1 h2), hS.2.2⟩)
  rw [ent_int (t := 13) (by decide) (by simp [nw, hT])]
  show H1[ad X (hZ h)]? = some (vp_cell _ _)
  rw [ad_sz hC, e1, vp_cell_i, hcA]
  have e5 : hN (nw h 13 N') (hZ h) = N' := by simp [nw, hN]
  rw [e5]
  congr 2
  funext q
  simp [hI, nw, newarray.typeOf, defaultValue]
theorem e_newB {n : Int32} {N' : Nat} (hd : At y.2.1 pc (.newarray .byte) 2 pc') (w : .arrayClass .byte ∈ TT) (hn : ¬ n < 0) (hN' : n.toNatClampNeg = N') (hbig : N' ≤ 60000000) (hcc : cells + 1 ≤ mc) (hss : slots + N' ≤ ms) (k : Ev X y d mc ms Q (cells + 1) (slots + N') pc' ls (vR (some (hZ h)) :: st) (nw h 12 N')) : Ev X y d mc ms Q cells slots pc ls (vI n :: st) h := by
  obtain ⟨hd, rfl⟩ := hd
  intro p e s m args below meth c H locs lsr C hC hS hl
  have kk := fun H1 hC1 hS1 => k p e s m args below meth c H1 locs lsr C hC1 hS1 hl
  obtain ⟨hx, hb, hmx, hret, hown, hts, hlk, hnm, hK, hP, hsz⟩ := C
  refine va_newaK (atype := .byte) hx hb (hts _ w) rfl hd rfl hn hN' (by show N' * _ ≤ _; simp only [newarray.typeOf, componentBytes]; omega) hcc hss rfl fun H1 cA e1 z1 o1 hAr hNm => ?_
  have hcA : cA = xA X 12 := Option.some.inj (hNm.symm.trans (hK.1.2 1 _ rfl).2)
  have hH : (F0 m (pc + 2) lsr (.ref H.size :: st.map (cv X))) = F0 m (pc + 2) lsr ((vR (some (hZ h)) :: st).map (cv X)) := by
    show _ = F0 m (pc + 2) lsr (.ref (ad X (hZ h)) :: st.map (cv X))
    rw [ad_sz hC]
  refine W.eq hH (kk H1 (corH_push hC rfl ?_ (fun q hq => ent_nw hq) z1 o1) ⟨Nat.le_trans hS.1 (by omega), fun x h1 h2 => (o1 x (Nat.lt_of_lt_of_le h1 hS.1)).trans (hS.2.1 x h1 h2), hS.2.2⟩)
  rw [ent_int (t := 12) (by decide) (by simp [nw, hT])]
  show H1[ad X (hZ h)]? = some (vp_cell _ _)
  rw [ad_sz hC, e1, vp_cell_i, hcA]
  have e5 : hN (nw h 12 N') (hZ h) = N' := by simp [nw, hN]
  rw [e5]
  congr 2
  funext q
  simp [hI, nw, newarray.typeOf, defaultValue]
theorem e_newL {n : Int32} {N' : Nat} (hd : At y.2.1 pc (.newarray .long) 2 pc') (w : .arrayClass .long ∈ TT) (hn : ¬ n < 0) (hN' : n.toNatClampNeg = N') (hbig : N' ≤ 60000000) (hcc : cells + 1 ≤ mc) (hss : slots + N' ≤ ms) (k : Ev X y d mc ms Q (cells + 1) (slots + N') pc' ls (vR (some (hZ h)) :: st) (nw h 14 N')) : Ev X y d mc ms Q cells slots pc ls (vI n :: st) h := by
  obtain ⟨hd, rfl⟩ := hd
  intro p e s m args below meth c H locs lsr C hC hS hl
  have kk := fun H1 hC1 hS1 => k p e s m args below meth c H1 locs lsr C hC1 hS1 hl
  obtain ⟨hx, hb, hmx, hret, hown, hts, hlk, hnm, hK, hP, hsz⟩ := C
  refine va_newaK (atype := .long) hx hb (hts _ w) rfl hd rfl hn hN' (by show N' * _ ≤ _; simp only [newarray.typeOf, componentBytes]; omega) hcc hss rfl fun H1 cA e1 z1 o1 hAr hNm => ?_
  have hcA : cA = xA X 14 := Option.some.inj (hNm.symm.trans (hK.1.2 3 _ rfl).2)
  have hH : (F0 m (pc + 2) lsr (.ref H.size :: st.map (cv X))) = F0 m (pc + 2) lsr ((vR (some (hZ h)) :: st).map (cv X)) := by
    show _ = F0 m (pc + 2) lsr (.ref (ad X (hZ h)) :: st.map (cv X))
    rw [ad_sz hC]
  refine W.eq hH (kk H1 (corH_push hC rfl ?_ (fun q hq => ent_nw hq) z1 o1) ⟨Nat.le_trans hS.1 (by omega), fun x h1 h2 => (o1 x (Nat.lt_of_lt_of_le h1 hS.1)).trans (hS.2.1 x h1 h2), hS.2.2⟩)
  rw [ent_long (by simp [nw, hT])]
  show H1[ad X (hZ h)]? = some (vp_cell _ _)
  rw [ad_sz hC, e1, vp_cell_l, hcA]
  have e5 : hN (nw h 14 N') (hZ h) = N' := by simp [nw, hN]
  rw [e5]
  congr 2
  funext q
  simp [hL, nw, newarray.typeOf, defaultValue]
theorem e_newR {n : Int32} {N' t : Nat} (hd : At y.2.1 pc (.anewarray ix) 3 pc') (h1 : 16 ≤ t) (h2 : t ≤ 20) (w : .classLink y.1.cls ix (rfC t).2 ∈ TT) (hn : ¬ n < 0) (hN' : n.toNatClampNeg = N') (hbig : N' ≤ 60000000) (hcc : cells + 1 ≤ mc) (hss : slots + N' ≤ ms) (k : Ev X y d mc ms Q (cells + 1) (slots + N') pc' ls (vR (some (hZ h)) :: st) (nw h t N')) : Ev X y d mc ms Q cells slots pc ls (vI n :: st) h := by
  obtain ⟨hd, rfl⟩ := hd
  intro p e s m args below meth c H locs lsr C hC hS hl
  have kk := fun H1 hC1 hS1 => k p e s m args below meth c H1 locs lsr C hC1 hS1 hl
  obtain ⟨hx, hb, hmx, hret, hown, hts, hlk, hnm, hK, hP, hsz⟩ := C
  have hao : va_AO (rfC t).2 s := hK.2.2.1 _ (by
    have : t = 16 ∨ t = 17 ∨ t = 18 ∨ t = 19 ∨ t = 20 := by omega
    rcases this with rfl | rfl | rfl | rfl | rfl <;> simp [aoW, rfC])
  subst hN'
  refine W.anew hx hb hown (hts _ w) (va_AO.use hao) rfl hd rfl hn (by omega) hcc hss fun cA kA comp f1 f2 f3 f4 => ?_
  generalize hH1 : H.push ({ cls := cA, slots := Array.replicate n.toNatClampNeg .null, vm := .none } : Cell) = H1
  have z1 : H1.size = H.size + 1 := by rw [← hH1, Array.size_push]
  have e1 : H1[H.size]? = some (arrV cA n.toNatClampNeg (fun _ => .null)) := by rw [← hH1, Array.getElem?_push_size, ← arrV_new]
  have o1 : ∀ q : Nat, q < H.size → H1[q]? = H[q]? := fun q hq => by rw [← hH1, Array.getElem?_push, if_neg (Nat.ne_of_lt hq)]
  obtain ⟨kA2, comp2, k1, k2, k3, k4⟩ := (hK.1.2 (t - 11) _ (rf_ty h1 h2)).2
  have hcA : cA = xA X t := by first | exact Option.some.inj (f1.symm.trans k4) | exact Option.some.inj (f4.symm.trans k4)
  have hH : (F0 m (pc + 3) lsr (.ref H.size :: st.map (cv X))) = F0 m (pc + 3) lsr ((vR (some (hZ h)) :: st).map (cv X)) := by
    show _ = F0 m (pc + 3) lsr (.ref (ad X (hZ h)) :: st.map (cv X))
    rw [ad_sz hC]
  refine W.eq hH (kk H1 (corH_push hC rfl ?_ (fun q hq => ent_nw hq) z1 o1) ⟨Nat.le_trans hS.1 (by omega), fun x h1 h2 => (o1 x (Nat.lt_of_lt_of_le h1 hS.1)).trans (hS.2.1 x h1 h2), hS.2.2⟩)
  rw [ent_ref (t := t) h1 (by simp [nw, hT])]
  show H1[ad X (hZ h)]? = some (vp_cell _ _)
  rw [ad_sz hC, e1, vp_cell_q, hcA]
  have e5 : hN (nw h t n.toNatClampNeg) (hZ h) = n.toNatClampNeg := by simp [nw, hN]
  rw [e5]
  congr 2
  funext q
  simp [hR, nw, va_rf]
/-! statics, the pool's constants -/
theorem e_gets {i : Nat} {q : String × List Int32} (hd : At y.2.1 pc (.getstatic ix) 3 pc') (hq : stW[i]? = some q) (w : .fieldLink y.1.cls ix RX8 q.1 "[I" ∈ TT) (k : Ev X y d mc ms Q cells slots pc' ls (vR (some (i + 1)) :: st) h) : Ev X y d mc ms Q cells slots pc ls st h := by
  obtain ⟨hd, rfl⟩ := hd
  intro p e s m args below meth c H locs lsr C hC hS hl
  have kk := k p e s m args below meth c H locs lsr C hC hS hl
  obtain ⟨hx, hb, hmx, hret, hown, hts, hlk, hnm, hK, hP, hsz⟩ := C
  have hi : i < 3 := (List.getElem?_eq_some_iff.mp hq).1
  have e0 : ad X (i + 1) = xS X (i + 1) := by unfold ad; rw [if_pos (by omega)]
  have e1 : (vR (some (i + 1)) :: st).map (cv X) = .ref (xS X (i + 1)) :: st.map (cv X) := by rw [← e0]; rfl
  rw [e1] at kk
  exact va_gets hx hb (hP.1 i q hq).1 hS hown (hts _ w) (fun _ z => z) hd kk
theorem e_getsN {i : Nat} {q : String × List Int32} (hd : At y.2.1 pc (.getstatic ix) 3 pc') (hq : stW[i]? = some q) (w : .fieldLinkNest y.1.cls ix RX8 q.1 "[I" RX8 ∈ nestW) (k : Ev X y d mc ms Q cells slots pc' ls (vR (some (i + 1)) :: st) h) : Ev X y d mc ms Q cells slots pc ls st h := by
  obtain ⟨hd, rfl⟩ := hd
  intro p e s m args below meth c H locs lsr C hC hS hl
  have kk := k p e s m args below meth c H locs lsr C hC hS hl
  obtain ⟨hx, hb, hmx, hret, hown, hts, hlk, hnm, hK, hP, hsz⟩ := C
  have hi : i < 3 := (List.getElem?_eq_some_iff.mp hq).1
  have e0 : ad X (i + 1) = xS X (i + 1) := by unfold ad; rw [if_pos (by omega)]
  have e1 : (vR (some (i + 1)) :: st).map (cv X) = .ref (xS X (i + 1)) :: st.map (cv X) := by rw [← e0]; rfl
  rw [e1] at kk
  exact va_getsN hx hb (hP.1 i q hq).1 hS hown (va_Nw.use rfl (hK.2.1 _ w)) (fun _ z => z) hd kk
/-- an element of a static array -/
theorem e_ialoadS {i0 : Nat} {q : String × List Int32} {i : Int32} (hd : At y.2.1 pc (.iaload) 1 pc') (hq : stW[i0]? = some q) (hin : vp_in i q.2.length) (k : Ev X y d mc ms Q cells slots pc' ls (vI (q.2.getD i.toNatClampNeg 0) :: st) h) : Ev X y d mc ms Q cells slots pc ls (vI i :: vR (some (i0 + 1)) :: st) h := by
  obtain ⟨hd, rfl⟩ := hd
  intro p e s m args below meth c H locs lsr C hC hS hl
  have kk := k p e s m args below meth c H locs lsr C hC hS hl
  obtain ⟨hx, hb, hmx, hret, hown, hts, hlk, hnm, hK, hP, hsz⟩ := C
  have hi : i0 < 3 := (List.getElem?_eq_some_iff.mp hq).1
  have e0 : ad X (i0 + 1) = xS X (i0 + 1) := by unfold ad; rw [if_pos (by omega)]
  show W _ _ _ _ _ _ _ _ _ _ _ _ _ _ _ (F0 m pc lsr (.int i :: .ref (ad X (i0 + 1)) :: st.map (cv X)))
  rw [e0]
  exact va_ti hx hb (hP.1 i0 q hq).2 hS hin rfl hd kk
theorem e_ialoadX {i : Int32} (hd : At y.2.1 pc (.iaload) 1 pc') (hin : vp_in i (xN X)) (k : Ev X y d mc ms Q cells slots pc' ls (vI (xs X i.toNatClampNeg) :: st) h) : Ev X y d mc ms Q cells slots pc ls (vI i :: vR (some 6) :: st) h := by
  obtain ⟨hd, rfl⟩ := hd
  intro p e s m args below meth c H locs lsr C hC hS hl
  have kk := k p e s m args below meth c H locs lsr C hC hS hl
  obtain ⟨hx, hb, hmx, hret, hown, hts, hlk, hnm, hK, hP, hsz⟩ := C
  exact va_ti hx hb hP.2.1 hS hin rfl hd kk
theorem e_alenX (hd : At y.2.1 pc (.arraylength) 1 pc') (k : Ev X y d mc ms Q cells slots pc' ls (vI (Int32.ofNat (xN X)) :: st) h) : Ev X y d mc ms Q cells slots pc ls (vR (some 6) :: st) h := by
  obtain ⟨hd, rfl⟩ := hd
  intro p e s m args below meth c H locs lsr C hC hS hl
  have kk := k p e s m args below meth c H locs lsr C hC hS hl
  obtain ⟨hx, hb, hmx, hret, hown, hts, hlk, hnm, hK, hP, hsz⟩ := C
  exact va_tlen hx hb hP.2.1 hS rfl hd kk
theorem e_ldc {v : Int32} (hd : At y.2.1 pc (.ldc ix) 2 pc') (w : .constant y.1.cls ix v ∈ TT) (k : Ev X y d mc ms Q cells slots pc' ls (vI v :: st) h) : Ev X y d mc ms Q cells slots pc ls st h := by
  obtain ⟨hd, rfl⟩ := hd
  intro p e s m args below meth c H locs lsr C hC hS hl
  have kk := k p e s m args below meth c H locs lsr C hC hS hl
  exact lv_ldc C.1 C.2.1 C.2.2.2.2.1 (C.2.2.2.2.2.1 _ w) hd kk
theorem e_ldcw {v : Int32} (hd : At y.2.1 pc (.ldc_w ix) 3 pc') (w : .constant y.1.cls ix v ∈ TT) (k : Ev X y d mc ms Q cells slots pc' ls (vI v :: st) h) : Ev X y d mc ms Q cells slots pc ls st h := by
  obtain ⟨hd, rfl⟩ := hd
  intro p e s m args below meth c H locs lsr C hC hS hl
  have kk := k p e s m args below meth c H locs lsr C hC hS hl
  exact lv_ldcw C.1 C.2.1 C.2.2.2.2.1 (C.2.2.2.2.2.1 _ w) hd kk
theorem e_ldc2 {v : Int64} (hd : At y.2.1 pc (.ldc2_w ix) 3 pc') (w : .constantLong y.1.cls ix v ∈ TT) (k : Ev X y d mc ms Q cells slots pc' ls (vL v :: st) h) : Ev X y d mc ms Q cells slots pc ls st h := by
  obtain ⟨hd, rfl⟩ := hd
  intro p e s m args below meth c H locs lsr C hC hS hl
  have kk := k p e s m args below meth c H locs lsr C hC hS hl
  exact lv_ldc2 C.1 C.2.1 C.2.2.2.2.1 (C.2.2.2.2.2.1 _ w) hd kk
/-! two references -/
theorem ad_inj {X : EX} {a b : Nat} (h1 : 32 ≤ a) (h2 : 32 ≤ b) : ad X a = ad X b ↔ a = b := by
  unfold ad
  rw [if_neg (by omega), if_neg (by omega)]
  omega
theorem e_acmpne {r1 r2 : Option Nat} {off : Int} {tgt : Nat} (hd : Br y.2.1 pc (.if_acmp .ne off) off pc' tgt) (g1 : ∀ a, r1 = some a → 32 ≤ a) (g2 : ∀ a, r2 = some a → 32 ≤ a) (kt : ¬ r1 = r2 → Ev X y d mc ms Q cells slots tgt ls st h) (kf : r1 = r2 → Ev X y d mc ms Q cells slots pc' ls st h) : Ev X y d mc ms Q cells slots pc ls (vR r2 :: vR r1 :: st) h := by
  obtain ⟨hd, rfl, ht⟩ := hd
  intro p e s m args below meth c H locs lsr C hC hS hl
  have key : r1.map (ad X) = r2.map (ad X) ↔ r1 = r2 := by
    cases r1 with
    | none => cases r2 <;> simp
    | some a => cases r2 with
      | none => simp
      | some b =>
        have := ad_inj (X := X) (g1 a rfl) (g2 b rfl)
        simp [this]
  exact lv_acmp_ne C.1 C.2.1 hd ht (fun q => kt (fun z => q (key.mpr z)) p e s m args below meth c H locs lsr C hC hS hl) (fun q => kf (key.mp q) p e s m args below meth c H locs lsr C hC hS hl)
theorem e_acmpeqT {r0 : Option Nat} {off : Int} {tgt : Nat} (hd : Br y.2.1 pc (.if_acmp .eq off) off pc' tgt) (kt : Ev X y d mc ms Q cells slots tgt ls st h) : Ev X y d mc ms Q cells slots pc ls (vR r0 :: vR r0 :: st) h := by
  obtain ⟨hd, rfl, ht⟩ := hd
  intro p e s m args below meth c H locs lsr C hC hS hl
  exact lv_acmp_eq C.1 C.2.1 hd ht (fun q => kt p e s m args below meth c H locs lsr C hC hS hl) (fun q => absurd rfl q)
/-! the law's ORDERS; the platform's empty row -/
theorem e_getsO (hd : At y.2.1 pc (.getstatic ix) 3 pc') (w : .fieldLink y.1.cls ix RL "ORDERS" "[[I" ∈ TT) (k : Ev X y d mc ms Q cells slots pc' ls (vR (some 7) :: st) h) : Ev X y d mc ms Q cells slots pc ls st h := by
  obtain ⟨hd, rfl⟩ := hd
  intro p e s m args below meth c H locs lsr C hC hS hl
  have kk := k p e s m args below meth c H locs lsr C hC hS hl
  obtain ⟨hx, hb, hmx, hret, hown, hts, hlk, hnm, hK, hP, hsz⟩ := C
  exact va_gets hx hb hP.2.2.1.1 hS hown (hts _ w) (fun _ z => z) hd kk
theorem e_getsD (hd : At y.2.1 pc (.getstatic ix) 3 pc') (w : .fieldLink y.1.cls ix RJx4a65c "DEFAULTCAPACITY_EMPTY_ELEMENTDATA" "[Ljava/lang/Object;" ∈ TT) (k : Ev X y d mc ms Q cells slots pc' ls (vR (some 14) :: st) h) : Ev X y d mc ms Q cells slots pc ls st h := by
  obtain ⟨hd, rfl⟩ := hd
  intro p e s m args below meth c H locs lsr C hC hS hl
  have kk := k p e s m args below meth c H locs lsr C hC hS hl
  obtain ⟨hx, hb, hmx, hret, hown, hts, hlk, hnm, hK, hP, hsz⟩ := C
  exact va_gets hx hb hP.2.2.2.2.1 hS hown (hts _ w) (fun _ z => z) hd kk
theorem e_alenD (hd : At y.2.1 pc (.arraylength) 1 pc') (k : Ev X y d mc ms Q cells slots pc' ls (vI 0 :: st) h) : Ev X y d mc ms Q cells slots pc ls (vR (some 14) :: st) h := by
  obtain ⟨hd, rfl⟩ := hd
  intro p e s m args below meth c H locs lsr C hC hS hl
  have kk := k p e s m args below meth c H locs lsr C hC hS hl
  obtain ⟨hx, hb, hmx, hret, hown, hts, hlk, hnm, hK, hP, hsz⟩ := C
  exact va_tlen hx hb hP.2.2.2.2.2 hS rfl hd kk
theorem va_tq {p : Program} {l : Launch} {e : Env} {R : Room} {s : State} {m : MethodId} {args : Array Value} {below : List Frame} {meth : Method} {c : Code} {H : Heap} {locs : List Loc} {Qs : State → Prop} {cc : ByteArray} {lsr : Array Slot} {rest : List Value} {A : Nat → Prop} {t N : Nat} {f : Nat → Value} (hexec : p.tables.exec = Jvm.exec) (hb : c.code = cc) (hT : va_T (.array .int) t N f A s s.heap) (hS : va_S A s.heap H locs) {i : Int32} (hin : vp_in i N) {v : Value} (hv : f i.toNatClampNeg = v) (hdg : decode cc pc = .ok (.aaload, 1))
    (kk : W p l e R s m args below meth c H locs cells slots Qs (F0 m (pc + 1) lsr (v :: rest))) : W p l e R s m args below meth c H locs cells slots Qs (F0 m pc lsr (.int i :: .ref t :: rest)) := by
  obtain ⟨cell, h1, h2, h3, h4, h5, h6, h7⟩ := hT
  have hlt : i.toNatClampNeg < N := Nat.not_le.mp fun q => hin (Or.inr q)
  have hin' : ¬ (i < 0 ∨ cell.slots.size ≤ i.toNatClampNeg) := by
    intro q
    rcases q with q | q
    · exact hin (Or.inl q)
    · omega
  exact W.aald (v := v) (ty := .array .int) hexec hb (by rw [hS.2.1 t (Array.getElem?_eq_some_iff.mp h1).1 h7]; exact h1) h2 rfl h3 hin' (by rw [h6 _ hlt, hv]) rfl rfl hdg kk
theorem e_aaloadO {i : Int32} {i0 : Nat} (hd : At y.2.1 pc (.aaload) 1 pc') (hin : vp_in i 6) (hi : i.toNatClampNeg = i0) (k : Ev X y d mc ms Q cells slots pc' ls (vR (some (i0 + 8)) :: st) h) : Ev X y d mc ms Q cells slots pc ls (vI i :: vR (some 7) :: st) h := by
  obtain ⟨hd, rfl⟩ := hd
  intro p e s m args below meth c H locs lsr C hC hS hl
  have kk := k p e s m args below meth c H locs lsr C hC hS hl
  obtain ⟨hx, hb, hmx, hret, hown, hts, hlk, hnm, hK, hP, hsz⟩ := C
  have h6 : i.toNatClampNeg < 6 := Nat.not_le.mp fun q => hin (Or.inr q)
  have e0 : ad X (i0 + 8) = xS X (i0 + 8) := by unfold ad; rw [if_pos (by omega)]
  refine va_tq hx hb hP.2.2.1.2 hS hin (v := .ref (xS X (i0 + 8))) (by rw [hi]) hd ?_
  rw [← e0]
  exact kk
theorem e_ialoadO {i0 : Nat} {q : List Int32} {i : Int32} (hd : At y.2.1 pc (.iaload) 1 pc') (hq : orW[i0]? = some q) (hin : vp_in i q.length) (k : Ev X y d mc ms Q cells slots pc' ls (vI (q.getD i.toNatClampNeg 0) :: st) h) : Ev X y d mc ms Q cells slots pc ls (vI i :: vR (some (i0 + 8)) :: st) h := by
  obtain ⟨hd, rfl⟩ := hd
  intro p e s m args below meth c H locs lsr C hC hS hl
  have kk := k p e s m args below meth c H locs lsr C hC hS hl
  obtain ⟨hx, hb, hmx, hret, hown, hts, hlk, hnm, hK, hP, hsz⟩ := C
  have hi : i0 < 6 := (List.getElem?_eq_some_iff.mp hq).1
  have e0 : ad X (i0 + 8) = xS X (i0 + 8) := by unfold ad; rw [if_pos (by omega)]
  show W _ _ _ _ _ _ _ _ _ _ _ _ _ _ _ (F0 m pc lsr (.int i :: .ref (ad X (i0 + 8)) :: st.map (cv X)))
  rw [e0]
  exact va_ti hx hb (hP.2.2.2.1 i0 q hq) hS hin rfl hd kk
/-! rows of Object: a store of a row of ints; casts to it -/
theorem e_aastoreO {i : Int32} {b : Nat} (hd : At y.2.1 pc (.aastore) 1 pc') (ok : Is h a 20) (ok2 : Is h b 13) (hin : vp_in i (hN h a)) (k : Ev X y d mc ms Q cells slots pc' ls st (wR h a i.toNatClampNeg (some b))) : Ev X y d mc ms Q cells slots pc ls (vR (some b) :: vI i :: vR (some a) :: st) h := by
  obtain ⟨hd, rfl⟩ := hd
  intro p e s m args below meth c H locs lsr C hC hS hl
  have kk := fun H1 locs1 hC1 hS1 => k p e s m args below meth c H1 locs1 lsr C hC1 hS1 hl
  obtain ⟨hx, hb, hmx, hret, hown, hts, hlk, hnm, hK, hP, hsz⟩ := C
  have he := wl_get (X := X) ok.1 ok.2.1
  rw [ent_ref (by decide) ok.2.2] at he
  have hv := wl_get (X := X) ok2.1 ok2.2.1
  rw [ent_int (by decide) ok2.2.2] at hv
  have hc2 : H[ad X b]? = some (vp_cell (xA X 13) (hN h b, .inl (hI h b))) := hC.2.2 _ _ hv
  obtain ⟨kA, comp, k1, k2, k3, -⟩ := (hK.1.2 9 _ rfl).2
  obtain ⟨kE, hkE, -⟩ := Vm.findClass_spec k3
  obtain ⟨c0, t1, f1, f2, f3⟩ := Cond.castable_spec (va_Nw.use (A := args) rfl hK.2.2.2)
  obtain ⟨-, kI, hkI, -⟩ := (hK.1.2 2 _ rfl).1 0 (fun _ => .null)
  have hkI : s.vm.classes[xA X 13]? = some kI := hkI
  have e1 : xA X 13 = c0 := Option.some.inj ((hK.1.2 2 _ rfl).2.symm.trans f1)
  have e2 : comp = t1 := Option.some.inj (k3.symm.trans f2)
  have hlt : i.toNatClampNeg < hN h a := Nat.not_le.mp fun q => hin (Or.inr q)
  have h0 : ¬ i < 0 := fun q => hin (Or.inl q)
  refine W.aast hx hb (hC.2.2 _ _ he) (fun q h => by cases h) (fun h => by cases h) k1 k2 rfl hkE ⟨h0, by show _ < (arrV _ _ _).slots.size; rw [arrV_size]; exact hlt⟩ hc2 (fun q h => by cases h) hkI (by rw [e2]; show s.vm.assignable (xA X 13) t1 = true; rw [e1]; exact f3) rfl rfl hd fun H1 e1 z oq => ?_
  refine kk H1 _ (corH_set hC ok.1 ok.2.1 rfl ?_ (fun q hq => ent_wR hq) z oq) (hS.put z oq (ad_A ok.1))
  have ok' : hT (wR h a i.toNatClampNeg (some b)) a = 20 := ok.2.2
  rw [ent_ref (by decide) ok']
  show H1[ad X a]? = some (vp_cell _ _)
  rw [e1, vp_cell_q, vp_cell_q, arrV_store]
  congr 2
  funext q
  by_cases hq : q = i.toNatClampNeg
  · subst hq
    simp [updV, up2, hR, wR, va_rf]
  · simp [updV, hR, wR, up2, hq]
theorem e_castA {b : Nat} (hd : At y.2.1 pc (.checkcast ix) 3 pc') (w : .classLink y.1.cls ix "[I" ∈ TT) (ok : Is h b 13) (k : Ev X y d mc ms Q cells slots pc' ls (vR (some b) :: st) h) : Ev X y d mc ms Q cells slots pc ls (vR (some b) :: st) h := by
  obtain ⟨hd, rfl⟩ := hd
  intro p e s m args below meth c H locs lsr C hC hS hl
  have kk := k p e s m args below meth c H locs lsr C hC hS hl
  obtain ⟨hx, hb, hmx, hret, hown, hts, hlk, hnm, hK, hP, hsz⟩ := C
  have he := wl_get (X := X) ok.1 ok.2.1
  rw [ent_int (by decide) ok.2.2] at he
  exact va_castA hx hb hown (hts _ w) hC.2.2 _ he (hK.1.2 2 _ rfl).2 hd kk
theorem e_castN (hd : At y.2.1 pc (.checkcast ix) 3 pc') (k : Ev X y d mc ms Q cells slots pc' ls (vR none :: st) h) : Ev X y d mc ms Q cells slots pc ls (vR none :: st) h := by
  obtain ⟨hd, rfl⟩ := hd
  intro p e s m args below meth c H locs lsr C hC hS hl
  have kk := k p e s m args below meth c H locs lsr C hC hS hl
  exact lv_castN C.1 C.2.1 hd kk
/-! Math.min -/
theorem e_min {x y0 : Int32} (hd : At y.2.1 pc (.invokestatic ix) 3 pc') (w1 : .methodLink y.1.cls ix Lib.Math.min.name ∈ TT) (w2 : .static Lib.Math.min.name ∈ TT) (w3 : .initialized "java/lang/Math" ∈ TT) (w4 : .code Lib.Math.min.name Lib.Math.min.code 2 (some .int) ∈ TT) (hdd : 1 ≤ d) (hcc : cells ≤ mc) (hss : slots ≤ ms) (hcat : catL st ≤ 8) (k : Ev X y d mc ms Q cells slots pc' ls (vI (if y0 < x then y0 else x) :: st) h) : Ev X y d mc ms Q cells slots pc ls (vI y0 :: vI x :: st) h := by
  obtain ⟨hd, rfl⟩ := hd
  intro p e s m args below meth c H locs lsr C hC hS hl
  have kk := k p e s m args below meth c H locs lsr C hC hS hl
  obtain ⟨lv, hv, -⟩ := id hl
  obtain ⟨hx, hb, hmx, hret, hown, hts, hlk, hnm, hK, hP, hsz⟩ := C
  exact va_mmin hx hb (by rw [hmx]; exact hv.1.symm) hown (hts _ w1) (hts _ w2) (hts _ w3) (hts _ w4) hdd (by rw [catL_eq]; show catL st + 13 ≤ 40 * d; omega) hcc hss hd kk
end R9
end
section
/-! System.arraycopy (ints, longs) (written by wip/p45/gen8.py) -/
def cpI (h : HP) (a b sp dp n : Nat) : HP := (fun q j => if q = b then va_cpy (hI h a) (hI h b) sp dp n j else hI h q j, h.2)
def cpL (h : HP) (a b sp dp n : Nat) : HP := (h.1, fun q j => if q = b then va_cpy (hL h a) (hL h b) sp dp n j else hL h q j, h.2.2)
theorem nn_int {z : Int32} (hz : ¬ z < 0) : z.toInt = (z.toNatClampNeg : Int) := by
  have h0 : (0 : Int) ≤ z.toInt := by
    have := Int32.le_iff_toInt_le.mp (Int32.not_lt.mp hz)
    simpa using this
  show z.toInt = ((z.toInt.toNat : Nat) : Int)
  omega
section R10
variable {X : EX} {y : MD} {d mc ms : Nat} {Q : Option VV → HP → Prop} {cells slots pc pc' : Nat} {ls : ZL} {st : List VV} {h : HP} {ix a b : Nat}
theorem e_copyI {sp dp n : Int32} (hd : At y.2.1 pc (.invokestatic ix) 3 pc') (w1 : .methodLink y.1.cls ix arraycopyName ∈ TT) (w2 : .native arraycopyName ∈ TT) (w3 : .static arraycopyName ∈ TT) (w4 : .initialized "java/lang/System" ∈ TT) (ok1 : Is h a 13) (ok2 : Is h b 13) (h1 : ¬ sp < 0) (h2 : ¬ dp < 0) (h3 : ¬ n < 0) (h4 : sp.toNatClampNeg + n.toNatClampNeg ≤ hN h a) (h5 : dp.toNatClampNeg + n.toNatClampNeg ≤ hN h b)
    (hdd : 1 ≤ d) (hcat : catL st ≤ 8) (k : Ev X y d mc ms Q cells slots pc' ls st (cpI h a b sp.toNatClampNeg dp.toNatClampNeg n.toNatClampNeg)) : Ev X y d mc ms Q cells slots pc ls (vI n :: vI dp :: vR (some b) :: vI sp :: vR (some a) :: st) h := by
  obtain ⟨hd, rfl⟩ := hd
  intro p e s m args below meth c H locs lsr C hC hS hl
  have kk := fun H1 locs1 hC1 hS1 => k p e s m args below meth c H1 locs1 lsr C hC1 hS1 hl
  obtain ⟨lv, hv, -⟩ := id hl
  obtain ⟨hx, hb, hmx, hret, hown, hts, hlk, hnm, hK, hP, hsz⟩ := C
  have he1 := wl_get (X := X) ok1.1 ok1.2.1
  have he2 := wl_get (X := X) ok2.1 ok2.2.1
  rw [ent_int (t := 13) (by decide) ok1.2.2] at he1
  rw [ent_int (t := 13) (by decide) ok2.2.2] at he2
  have hc1 : H[ad X a]? = some (vp_cell (xA X 13) (hN h a, .inl (hI h a))) := hC.2.2 _ _ he1
  have hc2 : H[ad X b]? = some (vp_cell (xA X 13) (hN h b, .inl (hI h b))) := hC.2.2 _ _ he2
  obtain ⟨-, k1, hk1, cm1, hkk1⟩ := (hK.1.2 2 _ rfl).1 0 (fun _ => .null)
  have hk1 : s.vm.classes[xA X 13]? = some k1 := hk1
  have hkk1 : k1.kind = .array cm1 .int := hkk1
  intro T hT X0
  obtain ⟨vm', X', step⟩ := X0.arraycopy hx hown (hts _ w1) (hts _ w2) (hts _ w3) (hts _ w4) (src := ad X a) (dst := ad X b) (cs := vp_cell (xA X 13) (hN h a, .inl (hI h a))) (cd := vp_cell (xA X 13) (hN h b, .inl (hI h b))) (srcPos := sp) (destPos := dp) (n := n) (by rw [hT]; exact hc1) (by rw [hT]; exact hc2)
    (fun _ h => by cases h) (fun _ h => by cases h) (fun h => by cases h) (fun h => by cases h) hk1 hk1 hkk1 hkk1 (by simp [refKind]) h1 h2 h3
    (by rw [nn_int h1, nn_int h3]; show ¬ _ > ((arrV _ _ (fun j => .int (hI h a j))).slots.size : Int); rw [arrV_size]; omega)
    (by rw [nn_int h2, nn_int h3]; show ¬ _ > ((arrV _ _ (fun j => .int (hI h b j))).slots.size : Int); rw [arrV_size]; omega)
    (fun vm₁ _ i hi => by
      have e9 : (vp_cell (xA X 13) (hN h a, .inl (hI h a))).slots.getD (sp.toNatClampNeg + i) .null = .int (hI h a (sp.toNatClampNeg + i)) := by
        show (arrV _ _ (fun j => .int (hI h a j))).slots.getD _ _ = _
        rw [Array.getD_eq_getD_getElem?, arrV_read _ _ (by omega)]
        rfl
      refine ⟨?_, ?_⟩
      · rw [e9]; rfl
      · rw [e9]; exact trivial)
    (g := F0 m pc lsr (.int n :: .int dp :: .ref (ad X b) :: .int sp :: .ref (ad X a) :: st.map (cv X))) rfl (by rw [hmx]; exact hv.1) (rest := st.map (cv X)) rfl (by rw [hb]; exact hd) hdd
    (by rw [catL_eq]; have hnf : nativeFrameWords "java/lang/System" "arraycopy" 5 ≤ 20 := by decide
        show 2 * 0 + catL st + (nativeFrameWords "java/lang/System" "arraycopy" 5 + 11) ≤ 40 * d; omega)
  have e1 : copied (vp_cell (xA X 13) (hN h a, .inl (hI h a))) (vp_cell (xA X 13) (hN h b, .inl (hI h b))) sp dp n = vp_cell (xA X 13) (hN h b, .inl (va_cpy (hI h a) (hI h b) sp.toNatClampNeg dp.toNatClampNeg n.toNatClampNeg)) := va_copied (fun z => .int z) _ _ (hI h a) (hI h b) h4
  rw [e1] at X' step
  have hlt : ad X b < H.size := (Array.getElem?_eq_some_iff.mp hc2).1
  generalize hnew : vp_cell (xA X 13) (hN h b, .inl (va_cpy (hI h a) (hI h b) sp.toNatClampNeg dp.toNatClampNeg n.toNatClampNeg)) = cN at X' step
  have hheap : ((T.setVm vm').setCell (ad X b) cN).heap = H.setIfInBounds (ad X b) cN := by rw [← hT]; rfl
  have oq : ∀ q : Nat, q ≠ ad X b → (H.setIfInBounds (ad X b) cN)[q]? = H[q]? := fun q hq => by simp [Array.getElem?_setIfInBounds, Ne.symm hq]
  have hz : (H.setIfInBounds (ad X b) cN).size = H.size := by simp
  have hcor : CorH X (cpI h a b sp.toNatClampNeg dp.toNatClampNeg n.toNatClampNeg) (H.setIfInBounds (ad X b) cN) := by
    refine corH_set (a := b) hC ok2.1 ok2.2.1 rfl ?_ ?_ hz oq
    · have ok' : (cpI h a b sp.toNatClampNeg dp.toNatClampNeg n.toNatClampNeg).2.2.2.1 b = 13 := ok2.2.2
      rw [ent_int (t := 13) (by decide) ok']
      have e5 : hI (cpI h a b sp.toNatClampNeg dp.toNatClampNeg n.toNatClampNeg) b = va_cpy (hI h a) (hI h b) sp.toNatClampNeg dp.toNatClampNeg n.toNatClampNeg := by
        funext j
        exact if_pos rfl
      rw [e5]
      show (H.setIfInBounds (ad X b) cN)[ad X b]? = some (vp_cell (xA X 13) (hN h b, _))
      rw [hnew]
      simp [Array.getElem?_setIfInBounds, hlt]
    · intro q hq
      have e5 : hI (cpI h a b sp.toNatClampNeg dp.toNatClampNeg n.toNatClampNeg) q = hI h q := by
        funext j
        exact if_neg hq
      unfold ent
      rw [e5]
      rfl
  obtain ⟨t, a1, b1⟩ := kk (H.setIfInBounds (ad X b) cN) _ hcor ⟨by rw [hz]; exact hS.1, fun q g1 g2 => by
      rw [oq q (fun e => g2 (by rw [e]; exact ad_A ok2.1))]
      exact hS.2.1 q g1 g2, fun q hq => by
      rcases List.mem_append.mp hq with h | h
      · exact hS.2.2 q h
      · obtain ⟨z, -, hz⟩ := List.mem_map.mp h
        rw [← hz]
        exact ad_A ok2.1⟩ _ hheap X'
  exact ⟨t, step t a1, b1⟩
theorem e_copyL {sp dp n : Int32} (hd : At y.2.1 pc (.invokestatic ix) 3 pc') (w1 : .methodLink y.1.cls ix arraycopyName ∈ TT) (w2 : .native arraycopyName ∈ TT) (w3 : .static arraycopyName ∈ TT) (w4 : .initialized "java/lang/System" ∈ TT) (ok1 : Is h a 14) (ok2 : Is h b 14) (h1 : ¬ sp < 0) (h2 : ¬ dp < 0) (h3 : ¬ n < 0) (h4 : sp.toNatClampNeg + n.toNatClampNeg ≤ hN h a) (h5 : dp.toNatClampNeg + n.toNatClampNeg ≤ hN h b)
    (hdd : 1 ≤ d) (hcat : catL st ≤ 8) (k : Ev X y d mc ms Q cells slots pc' ls st (cpL h a b sp.toNatClampNeg dp.toNatClampNeg n.toNatClampNeg)) : Ev X y d mc ms Q cells slots pc ls (vI n :: vI dp :: vR (some b) :: vI sp :: vR (some a) :: st) h := by
  obtain ⟨hd, rfl⟩ := hd
  intro p e s m args below meth c H locs lsr C hC hS hl
  have kk := fun H1 locs1 hC1 hS1 => k p e s m args below meth c H1 locs1 lsr C hC1 hS1 hl
  obtain ⟨lv, hv, -⟩ := id hl
  obtain ⟨hx, hb, hmx, hret, hown, hts, hlk, hnm, hK, hP, hsz⟩ := C
  have he1 := wl_get (X := X) ok1.1 ok1.2.1
  have he2 := wl_get (X := X) ok2.1 ok2.2.1
  rw [ent_long ok1.2.2] at he1
  rw [ent_long ok2.2.2] at he2
  have hc1 : H[ad X a]? = some (vp_cell (xA X 14) (hN h a, .inr (.inl (hL h a)))) := hC.2.2 _ _ he1
  have hc2 : H[ad X b]? = some (vp_cell (xA X 14) (hN h b, .inr (.inl (hL h b)))) := hC.2.2 _ _ he2
  obtain ⟨-, k1, hk1, cm1, hkk1⟩ := (hK.1.2 3 _ rfl).1 0 (fun _ => .null)
  have hk1 : s.vm.classes[xA X 14]? = some k1 := hk1
  have hkk1 : k1.kind = .array cm1 .long := hkk1
  intro T hT X0
  obtain ⟨vm', X', step⟩ := X0.arraycopy hx hown (hts _ w1) (hts _ w2) (hts _ w3) (hts _ w4) (src := ad X a) (dst := ad X b) (cs := vp_cell (xA X 14) (hN h a, .inr (.inl (hL h a)))) (cd := vp_cell (xA X 14) (hN h b, .inr (.inl (hL h b)))) (srcPos := sp) (destPos := dp) (n := n) (by rw [hT]; exact hc1) (by rw [hT]; exact hc2)
    (fun _ h => by cases h) (fun _ h => by cases h) (fun h => by cases h) (fun h => by cases h) hk1 hk1 hkk1 hkk1 (by simp [refKind]) h1 h2 h3
    (by rw [nn_int h1, nn_int h3]; show ¬ _ > ((arrV _ _ (fun j => .long (hL h a j))).slots.size : Int); rw [arrV_size]; omega)
    (by rw [nn_int h2, nn_int h3]; show ¬ _ > ((arrV _ _ (fun j => .long (hL h b j))).slots.size : Int); rw [arrV_size]; omega)
    (fun vm₁ _ i hi => by
      have e9 : (vp_cell (xA X 14) (hN h a, .inr (.inl (hL h a)))).slots.getD (sp.toNatClampNeg + i) .null = .long (hL h a (sp.toNatClampNeg + i)) := by
        show (arrV _ _ (fun j => .long (hL h a j))).slots.getD _ _ = _
        rw [Array.getD_eq_getD_getElem?, arrV_read _ _ (by omega)]
        rfl
      refine ⟨?_, ?_⟩
      · rw [e9]; rfl
      · rw [e9]; exact trivial)
    (g := F0 m pc lsr (.int n :: .int dp :: .ref (ad X b) :: .int sp :: .ref (ad X a) :: st.map (cv X))) rfl (by rw [hmx]; exact hv.1) (rest := st.map (cv X)) rfl (by rw [hb]; exact hd) hdd
    (by rw [catL_eq]; have hnf : nativeFrameWords "java/lang/System" "arraycopy" 5 ≤ 20 := by decide
        show 2 * 0 + catL st + (nativeFrameWords "java/lang/System" "arraycopy" 5 + 11) ≤ 40 * d; omega)
  have e1 : copied (vp_cell (xA X 14) (hN h a, .inr (.inl (hL h a)))) (vp_cell (xA X 14) (hN h b, .inr (.inl (hL h b)))) sp dp n = vp_cell (xA X 14) (hN h b, .inr (.inl (va_cpy (hL h a) (hL h b) sp.toNatClampNeg dp.toNatClampNeg n.toNatClampNeg))) := va_copied (fun z => .long z) _ _ (hL h a) (hL h b) h4
  rw [e1] at X' step
  have hlt : ad X b < H.size := (Array.getElem?_eq_some_iff.mp hc2).1
  generalize hnew : vp_cell (xA X 14) (hN h b, .inr (.inl (va_cpy (hL h a) (hL h b) sp.toNatClampNeg dp.toNatClampNeg n.toNatClampNeg))) = cN at X' step
  have hheap : ((T.setVm vm').setCell (ad X b) cN).heap = H.setIfInBounds (ad X b) cN := by rw [← hT]; rfl
  have oq : ∀ q : Nat, q ≠ ad X b → (H.setIfInBounds (ad X b) cN)[q]? = H[q]? := fun q hq => by simp [Array.getElem?_setIfInBounds, Ne.symm hq]
  have hz : (H.setIfInBounds (ad X b) cN).size = H.size := by simp
  have hcor : CorH X (cpL h a b sp.toNatClampNeg dp.toNatClampNeg n.toNatClampNeg) (H.setIfInBounds (ad X b) cN) := by
    refine corH_set (a := b) hC ok2.1 ok2.2.1 rfl ?_ ?_ hz oq
    · have ok' : (cpL h a b sp.toNatClampNeg dp.toNatClampNeg n.toNatClampNeg).2.2.2.1 b = 14 := ok2.2.2
      rw [ent_long ok']
      have e5 : hL (cpL h a b sp.toNatClampNeg dp.toNatClampNeg n.toNatClampNeg) b = va_cpy (hL h a) (hL h b) sp.toNatClampNeg dp.toNatClampNeg n.toNatClampNeg := by
        funext j
        exact if_pos rfl
      rw [e5]
      show (H.setIfInBounds (ad X b) cN)[ad X b]? = some (vp_cell (xA X 14) (hN h b, _))
      rw [hnew]
      simp [Array.getElem?_setIfInBounds, hlt]
    · intro q hq
      have e5 : hL (cpL h a b sp.toNatClampNeg dp.toNatClampNeg n.toNatClampNeg) q = hL h q := by
        funext j
        exact if_neg hq
      unfold ent
      rw [e5]
      rfl
  obtain ⟨t, a1, b1⟩ := kk (H.setIfInBounds (ad X b) cN) _ hcor ⟨by rw [hz]; exact hS.1, fun q g1 g2 => by
      rw [oq q (fun e => g2 (by rw [e]; exact ad_A ok2.1))]
      exact hS.2.1 q g1 g2, fun q hq => by
      rcases List.mem_append.mp hq with h | h
      · exact hS.2.2 q h
      · obtain ⟨z, -, hz⟩ := List.mem_map.mp h
        rw [← hz]
        exact ad_A ok2.1⟩ _ hheap X'
  exact ⟨t, step t a1, b1⟩
end R10
end
section
/-! numbers and words of the document, as mathematics -/
/-- fewer locals -/
def subL : ZL → ZL → Prop
  | [], _ => True
  | (i, v) :: r, ls => gL ls i = v ∧ subL r ls
theorem subL_ok {ls' ls : ZL} (h : subL ls' ls) : ∀ i v, gL ls' i = some v → gL ls i = some v := by
  induction ls' with
  | nil => intro i v h; cases h
  | cons q r ih =>
    intro i v hv
    obtain ⟨j, w⟩ := q
    obtain ⟨h1, h2⟩ := h
    simp only [gL] at hv
    by_cases hi : i = j
    · subst hi
      rw [if_pos rfl] at hv
      rw [h1, hv]
    · rw [if_neg hi] at hv
      exact ih h2 i v hv
theorem e_ls {X : EX} {y : MD} {d mc ms : Nat} {Q : Option VV → HP → Prop} {cells slots pc : Nat} {ls ls' : ZL} {st : List VV} {h : HP} (hs : subL ls' ls) (k : Ev X y d mc ms Q cells slots pc ls' st h) : Ev X y d mc ms Q cells slots pc ls st h := by
  intro p e s m args below meth c H locs lsr C hC hS hl
  obtain ⟨lv, hv, hg⟩ := hl
  exact k p e s m args below meth c H locs lsr C hC hS ⟨lv, hv, fun i v q => hg i v (subL_ok hs i v q)⟩
theorem nI_small {n N : Nat} (h : n < N) (hN : N ≤ 2147483648) : n < 2 ^ 31 := Nat.lt_of_lt_of_le h hN
theorem vin {n N : Nat} (h : n < N) (hN : N ≤ 1073741824 := by decide) : vp_in (nI n) N := vp_in_nI h (Nat.lt_of_le_of_lt hN (by decide))
theorem cl {n : Nat} (h : n < 1073741824) : (nI n).toNatClampNeg = n := nI_clamp (Nat.lt_trans h (by decide))
/-- a place's number, or -1 -/
def oI : Option Nat → Int32
  | some p => nI p
  | none => -1
/-- what one ORDER more of a YEAR adds; how many STANDINGS are OPEN -/
def stp (y : Nat) : Nat := [216, 36, 6, 1].getD y 0
def om (f : Nat) : Nat := [1296, 216, 36, 6, 1].getD f 0
/-- the first OPEN STANDING -/
def fo (o : Nat → Nat) : Nat → Nat
  | 0 => 0
  | f + 1 => fo o f + o f * stp f
/-- the place of a PICK under a STANDING -/
def pl (s p : Nat) : Nat := [0, 1, 2, 0, 2, 1, 1, 0, 2, 2, 0, 1, 1, 2, 0, 2, 1, 0].getD (s / stp (p / 3) % 6 * 3 + p % 3) 0
theorem om_fo {o : Nat → Nat} : ∀ {f : Nat}, f ≤ 4 → (∀ y, y < f → o y < 6) → fo o f + om f ≤ 1296
  | 0, _, _ => by show 0 + om 0 ≤ 1296; decide
  | f + 1, h, ho => by
    have h1 := om_fo (f := f) (by omega) (fun y hy => ho y (by omega))
    have h2 := ho f (by omega)
    have hf : f = 0 ∨ f = 1 ∨ f = 2 ∨ f = 3 := by omega
    unfold fo
    rcases hf with rfl | rfl | rfl | rfl <;> simp [om, stp] at h1 ⊢ <;> omega
theorem om_pos {f : Nat} (h : f ≤ 4) : 0 < om f := by
  have hf : f = 0 ∨ f = 1 ∨ f = 2 ∨ f = 3 ∨ f = 4 := by omega
  rcases hf with rfl | rfl | rfl | rfl | rfl <;> decide
theorem stp_om {f : Nat} (h : f < 4) : stp f = om (f + 1) ∧ om f = 6 * om (f + 1) := by
  have hf : f = 0 ∨ f = 1 ∨ f = 2 ∨ f = 3 := by omega
  rcases hf with rfl | rfl | rfl | rfl <;> decide
theorem stp_pos {y : Nat} (h : y < 4) : 0 < stp y ∧ stp y ≤ 216 := by
  have hf : y = 0 ∨ y = 1 ∨ y = 2 ∨ y = 3 := by omega
  rcases hf with rfl | rfl | rfl | rfl <;> decide
theorem pl_lt (s p : Nat) : pl s p < 3 := by
  unfold pl
  have h1 : s / stp (p / 3) % 6 < 6 := Nat.mod_lt _ (by decide)
  have h2 : p % 3 < 3 := Nat.mod_lt _ (by decide)
  generalize s / stp (p / 3) % 6 = a at h1
  generalize p % 3 = b at h2
  have key : ∀ a, a < 6 → ∀ b, b < 3 → [0, 1, 2, 0, 2, 1, 1, 0, 2, 2, 0, 1, 1, 2, 0, 2, 1, 0].getD (a * 3 + b) 0 < 3 := by decide
  exact key a h1 b h2
theorem nI_div {a b : Nat} (ha : a < 1073741824) (h0 : 0 < b) (hb : b < 1073741824) : nI a / nI b = nI (a / b) := pk_div (by omega) h0 (by omega)
theorem nI_rem {a b : Nat} (ha : a < 1073741824) (h0 : 0 < b) (hb : b < 1073741824) : nI a - nI a / nI b * nI b = nI (a % b) := pk_rem (by omega) h0 (by omega)
theorem nI_mul (a b : Nat) : nI a * nI b = nI (a * b) := pk_mul a b
theorem nI_subN {a b : Nat} (h : b ≤ a) : nI a - nI b = nI (a - b) := pk_sub h
section R13
variable {X : EX} {y : MD} {d mc ms : Nat} {Q : Option VV → HP → Prop} {cells slots pc pc' : Nat} {ls : ZL} {st : List VV} {h : HP}
theorem e_top {x v : Int32} (he : x = v) (k : Ev X y d mc ms Q cells slots pc ls (vI v :: st) h) : Ev X y d mc ms Q cells slots pc ls (vI x :: st) h := by rw [he]; exact k
theorem e_topL {x v : Int64} (he : x = v) (k : Ev X y d mc ms Q cells slots pc ls (vL v :: st) h) : Ev X y d mc ms Q cells slots pc ls (vL x :: st) h := by rw [he]; exact k
theorem e_topR {x v : Option Nat} (he : x = v) (k : Ev X y d mc ms Q cells slots pc ls (vR v :: st) h) : Ev X y d mc ms Q cells slots pc ls (vR x :: st) h := by rw [he]; exact k
theorem e_hp {h2 : HP} (he : h = h2) (k : Ev X y d mc ms Q cells slots pc ls st h2) : Ev X y d mc ms Q cells slots pc ls st h := by rw [he]; exact k
end R13
/-- the elements of a static array -/
theorem st_step {i : Nat} (h : i < 4) : ([216, 36, 6, 1] : List Int32).getD (nI i).toNatClampNeg 0 = nI (stp i) := by
  rw [cl (by omega)]
  have : i = 0 ∨ i = 1 ∨ i = 2 ∨ i = 3 := by omega
  rcases this with rfl | rfl | rfl | rfl <;> rfl
theorem st_left {i : Nat} (h : i ≤ 4) : ([1296, 216, 36, 6, 1] : List Int32).getD (nI i).toNatClampNeg 0 = nI (om i) := by
  rw [cl (by omega)]
  have : i = 0 ∨ i = 1 ∨ i = 2 ∨ i = 3 ∨ i = 4 := by omega
  rcases this with rfl | rfl | rfl | rfl | rfl <;> rfl
theorem st_place {i : Nat} (h : i < 18) : ([0, 1, 2, 0, 2, 1, 1, 0, 2, 2, 0, 1, 1, 2, 0, 2, 1, 0] : List Int32).getD (nI i).toNatClampNeg 0 = nI ([0, 1, 2, 0, 2, 1, 1, 0, 2, 2, 0, 1, 1, 2, 0, 2, 1, 0].getD i 0) := by
  rw [cl (by omega)]
  have key : ∀ i, i < 18 → ([0, 1, 2, 0, 2, 1, 1, 0, 2, 2, 0, 1, 1, 2, 0, 2, 1, 0] : List Int32).getD i 0 = nI ([0, 1, 2, 0, 2, 1, 1, 0, 2, 2, 0, 1, 1, 2, 0, 2, 1, 0].getD i 0) := by decide
  exact key i h
theorem st_club {i : Nat} (h : i < 18) : ([0, 1, 2, 0, 2, 1, 1, 0, 2, 1, 2, 0, 2, 0, 1, 2, 1, 0] : List Int32).getD (nI i).toNatClampNeg 0 = nI ([0, 1, 2, 0, 2, 1, 1, 0, 2, 1, 2, 0, 2, 0, 1, 2, 1, 0].getD i 0) := by
  rw [cl (by omega)]
  have key : ∀ i, i < 18 → ([0, 1, 2, 0, 2, 1, 1, 0, 2, 1, 2, 0, 2, 0, 1, 2, 1, 0] : List Int32).getD i 0 = nI ([0, 1, 2, 0, 2, 1, 1, 0, 2, 1, 2, 0, 2, 0, 1, 2, 1, 0].getD i 0) := by decide
  exact key i h
end
section
/-! deals, as mathematics -/
/-- KIND, FROM, TO, PICK, the other PICK, n, whether a CONDITION was told, where it holds -/
abbrev DD : Type := Nat × Nat × Nat × Nat × Option Nat × Nat × Bool × (Nat → Bool)
abbrev dK (d : DD) : Nat := d.1
abbrev dF (d : DD) : Nat := d.2.1
abbrev dT (d : DD) : Nat := d.2.2.1
abbrev dP (d : DD) : Nat := d.2.2.2.1
abbrev dO (d : DD) : Option Nat := d.2.2.2.2.1
abbrev dN (d : DD) : Nat := d.2.2.2.2.2.1
abbrev dC (d : DD) : Bool := d.2.2.2.2.2.2.1
abbrev dB (d : DD) : Nat → Bool := d.2.2.2.2.2.2.2
abbrev dV (d : DD) : Nat := (dO d).getD 0
/-- a deal as the acts make them -/
def dWf (d : DD) : Prop := dK d < 6 ∧ dF d < 3 ∧ dT d < 3 ∧ dF d ≠ dT d ∧ dP d < 12 ∧ ((dK d = 2 ∨ dK d = 5) ↔ (dO d).isSome = true) ∧ (∀ q, dO d = some q → q < 12 ∧ q ≠ dP d ∧ q / 3 = dP d / 3) ∧ dN d ≤ 2 ∧ (dK d = 0 ∨ dK d = 2 ↔ dN d = 0) ∧ (dC d = false → ∀ s, dB d s = true)
def roll (s : Nat) : Nat → Nat → Nat → Option Nat
  | 0, _, _ => none
  | k + 1, p, n => if 12 ≤ p then none else if n ≤ pl s p then some p else roll s k (p + 3) (n - 1)
/-- what a deal gives with a CONDITION that holds -/
def gvk (d : DD) (s : Nat) : Option Nat :=
  if dK d = 1 then (if dN d ≤ pl s (dP d) then some (dP d) else none)
  else if dK d = 2 then (if pl s (dV d) + 1 ≤ pl s (dP d) then some (dP d) else none)
  else if dK d = 3 then roll s 4 (dP d) (dN d)
  else if dK d = 4 then (if pl s (dP d) < dN d then some (dP d) else none)
  else if dK d = 5 then (if pl s (dV d) + dN d ≤ pl s (dP d) then some (dP d) else none)
  else some (dP d)
def gv (d : DD) (s : Nat) : Option Nat := if dB d s = true then gvk d s else none
def gb (d : DD) (s : Nat) : Option Nat := if (gv d s).isSome = true then dO d else none
/-- to whom it conveys a PICK, and from whom -/
def tk (d : DD) (s p : Nat) : Option Nat := if dO d = some p then (if (gv d s).isSome = true then some (dF d) else none) else if gv d s = some p then some (dT d) else none
def gr (d : DD) (p : Nat) : Nat := if dO d = some p then dT d else dF d
theorem roll_lt {s : Nat} : ∀ {k p n q : Nat}, roll s k p n = some q → q < 12 ∧ p ≤ q ∧ q % 3 = p % 3
  | 0, _, _, _, h => by cases h
  | k + 1, p, n, q, h => by
    unfold roll at h
    split at h
    · cases h
    · split at h
      · cases h; omega
      · have := roll_lt h; omega
theorem gv_ok {d : DD} (w : dWf d) {s q : Nat} (h : gv d s = some q) : q < 12 ∧ (q = dP d ∨ (dK d = 3 ∧ dP d ≤ q ∧ q % 3 = dP d % 3)) := by
  obtain ⟨w1, w2, w3, w4, w5, w6, w7, w8, w9⟩ := w
  unfold gv at h
  split at h
  · unfold gvk at h
    split at h
    · split at h
      · cases h; exact ⟨w5, Or.inl rfl⟩
      · cases h
    · split at h
      · split at h
        · cases h; exact ⟨w5, Or.inl rfl⟩
        · cases h
      · split at h
        · next h3 =>
          have := roll_lt h
          exact ⟨this.1, Or.inr ⟨h3, this.2⟩⟩
        · split at h
          · split at h
            · cases h; exact ⟨w5, Or.inl rfl⟩
            · cases h
          · split at h
            · split at h
              · cases h; exact ⟨w5, Or.inl rfl⟩
              · cases h
            · cases h; exact ⟨w5, Or.inl rfl⟩
  · cases h
theorem gb_ok {d : DD} (w : dWf d) {s q : Nat} (h : gb d s = some q) : q < 12 ∧ dO d = some q ∧ ∃ g, gv d s = some g ∧ g = dP d ∧ g ≠ q := by
  unfold gb at h
  split at h
  · next hs =>
    obtain ⟨g, hg⟩ := Option.isSome_iff_exists.mp hs
    have h1 := w.2.2.2.2.2.2.1 q h
    refine ⟨h1.1, h, g, hg, ?_⟩
    rcases (gv_ok w hg).2 with e | ⟨e, -⟩
    · exact ⟨e, fun z => h1.2.1 (by rw [← z, e])⟩
    · have := w.2.2.2.2.2.1.mpr (by rw [h]; rfl)
      omega
  · cases h
theorem tk_lt {d : DD} (w : dWf d) {s p t : Nat} (h : tk d s p = some t) : t < 3 ∧ gr d p < 3 ∧ gr d p ≠ t := by
  unfold tk at h
  unfold gr
  split at h
  · next ho =>
    split at h
    · cases h
      rw [if_pos ho]
      exact ⟨w.2.1, w.2.2.1, fun z => w.2.2.2.1 z.symm⟩
    · cases h
  · next ho =>
    split at h
    · cases h
      rw [if_neg ho]
      exact ⟨w.2.2.1, w.2.1, w.2.2.2.1⟩
    · cases h
/-- the last of the CHAIN, and who was in it, as the first k deals have it; the latter as a set -/
def ow (D : Nat → DD) (s p : Nat) : Nat → Nat
  | 0 => p % 3
  | k + 1 => (tk (D k) s p).getD (ow D s p k)
def vs (D : Nat → DD) (s p : Nat) : Nat → Nat → Bool
  | 0, c => decide (c = p % 3)
  | k + 1, c => vs D s p k c || decide (tk (D k) s p = some c)
def hm (D : Nat → DD) (s p : Nat) : Nat → Nat
  | 0 => 2 ^ (p % 3)
  | k + 1 => match tk (D k) s p with
    | some t => hm D s p k ||| 2 ^ t
    | none => hm D s p k
theorem ow_lt {D : Nat → DD} {s p : Nat} : ∀ {k : Nat}, (∀ j, j < k → dWf (D j)) → ow D s p k < 3
  | 0, _ => Nat.mod_lt _ (by decide)
  | k + 1, w => by
    unfold ow
    cases h : tk (D k) s p with
    | none => exact ow_lt (fun j hj => w j (by omega))
    | some t => exact (tk_lt (w k (by omega)) h).1
theorem hm_lt {D : Nat → DD} {s p : Nat} : ∀ {k : Nat}, (∀ j, j < k → dWf (D j)) → hm D s p k < 8
  | 0, _ => by
    have h1 : p % 3 < 3 := Nat.mod_lt _ (by decide)
    unfold hm
    have : p % 3 = 0 ∨ p % 3 = 1 ∨ p % 3 = 2 := by omega
    rcases this with h | h | h <;> rw [h] <;> decide
  | k + 1, w => by
    have ih := hm_lt (D := D) (s := s) (p := p) (k := k) (fun j hj => w j (by omega))
    unfold hm
    cases h : tk (D k) s p with
    | none => exact ih
    | some t =>
      have ht := (tk_lt (w k (by omega)) h).1
      exact Nat.or_lt_two_pow (n := 3) ih (Nat.pow_lt_pow_right (by decide) ht)
theorem hm_vs {D : Nat → DD} {s p c : Nat} : ∀ {k : Nat}, (hm D s p k).testBit c = vs D s p k c
  | 0 => by
    unfold hm vs
    rw [Nat.testBit_two_pow]
    exact decide_eq_decide.mpr ⟨fun h => h.symm, fun h => h.symm⟩
  | k + 1 => by
    have ih := hm_vs (D := D) (s := s) (p := p) (c := c) (k := k)
    unfold hm vs
    cases h : tk (D k) s p with
    | none => simp [ih]
    | some t =>
      rw [Nat.testBit_or, ih, Nat.testBit_two_pow]
      congr 1
      simp
/-- how one more move of p from g to t would CLASH -/
def cls (D : Nat → DD) (n s p g t : Nat) : Option Nat := if vs D s p n g = false then some 2 else if ow D s p n ≠ g then some 0 else if vs D s p n t = true then some 1 else none
end
section
/-! bits of longs -/
def bitL (x : Int64) (j : Nat) : Bool := x.toBitVec.getLsbD j
theorem sm64 : ∀ j, j < 64 → (((nI j).toInt64 &&& 63).toBitVec.smod 64).toNat = j := by decide +kernel
theorem bitL_and {x : Int64} {j : Nat} (hj : j < 64) : (x >>> ((nI j).toInt64 &&& 63)) &&& 1 = if bitL x j = true then 1 else 0 := by
  apply Int64.toBitVec_inj.mp
  rw [Int64.toBitVec_and, Int64.toBitVec_shiftRight]
  have h1 : (1 : Int64).toBitVec = 1#64 := rfl
  have hs := sm64 j hj
  apply BitVec.eq_of_getLsbD_eq
  intro i hi
  have e0 : ((if bitL x j = true then (1 : Int64) else 0).toBitVec).getLsbD i = (decide (i = 0) && bitL x j) := by
    by_cases hb : bitL x j = true
    · rw [if_pos hb, h1, hb, BitVec.getLsbD_one]
      simp [hi]
    · rw [if_neg hb]
      have : bitL x j = false := by simpa using hb
      rw [this, Bool.and_false]
      show (0#64).getLsbD i = false
      simp
  rw [e0, h1, BitVec.getLsbD_and, BitVec.getLsbD_one]
  by_cases hi0 : i = 0
  · subst hi0
    have e1 : (x.toBitVec.sshiftRight' (((nI j).toInt64 &&& 63).toBitVec.smod 64)).getLsbD 0 = bitL x j := by
      unfold BitVec.sshiftRight'
      rw [hs, BitVec.getLsbD_sshiftRight]
      have : j < 64 := hj
      simp [bitL, hj]
    rw [e1]
    simp
  · simp [hi0]
theorem lg_0 {x : Int64} : lg_cmp x 0 = 0 ↔ x = 0 := by
  unfold lg_cmp
  by_cases h1 : x > 0
  · rw [if_pos h1]
    refine ⟨fun h => absurd h (by decide), fun h => ?_⟩
    subst h
    exact absurd h1 (by decide)
  · rw [if_neg h1]
    by_cases h2 : x = 0
    · rw [if_pos h2]; exact ⟨fun _ => h2, fun _ => rfl⟩
    · rw [if_neg h2]
      exact ⟨fun h => absurd h (by decide), fun h => absurd h h2⟩
theorem bit_q {b : Bool} : lg_cmp (if b = true then (1 : Int64) else 0) 0 = 0 ↔ b = false := by
  rw [lg_0]
  cases b
  · exact ⟨fun _ => rfl, fun _ => rfl⟩
  · exact ⟨fun h => absurd h (by decide), fun h => absurd h (by decide)⟩
/-- a set of STANDINGS at sb -/
def StC (h : HP) (sb : Nat) (b : Nat → Bool) : Prop := Is h sb 7 ∧ ∃ wb, hR h sb 0 = some wb ∧ Is h wb 14 ∧ hN h wb = 21 ∧ ∀ s, s < 1296 → bitL (hL h wb (s / 64)) (s % 64) = b s
/-- a deal's object at a -/
def DealC (h : HP) (a : Nat) (d : DD) : Prop := 116 ≤ a ∧ Is h a 2 ∧ dWf d ∧ hI h a 0 = nI (dK d) ∧ hI h a 1 = nI (dF d) ∧ hI h a 2 = nI (dT d) ∧ hI h a 3 = nI (dP d) ∧ hI h a 4 = oI (dO d) ∧ hI h a 5 = nI (dN d) ∧
  ((dC d = false ∧ hR h a 6 = none) ∨ (dC d = true ∧ ∃ sb, hR h a 6 = some sb ∧ 116 ≤ sb ∧ StC h sb (dB d) ∧ ∀ wb, hR h sb 0 = some wb → 116 ≤ wb))
/-- what lies from 116 on stays -/
def Up (h h' : HP) : Prop := hZ h ≤ hZ h' ∧ ∀ a, 116 ≤ a → a < hZ h → (∀ i, hI h' a i = hI h a i ∧ hL h' a i = hL h a i ∧ hR h' a i = hR h a i) ∧ hT h' a = hT h a ∧ hN h' a = hN h a
theorem Up.rf (h : HP) : Up h h := ⟨Nat.le_refl _, fun _ _ _ => ⟨fun _ => ⟨rfl, rfl, rfl⟩, rfl, rfl⟩⟩
theorem Up.tr {h1 h2 h3 : HP} (a : Up h1 h2) (b : Up h2 h3) : Up h1 h3 := by
  refine ⟨Nat.le_trans a.1 b.1, fun x hx hx2 => ?_⟩
  obtain ⟨p1, p2, p3⟩ := a.2 x hx hx2
  obtain ⟨q1, q2, q3⟩ := b.2 x hx (Nat.lt_of_lt_of_le hx2 a.1)
  exact ⟨fun i => ⟨(q1 i).1.trans (p1 i).1, (q1 i).2.1.trans (p1 i).2.1, (q1 i).2.2.trans (p1 i).2.2⟩, q2.trans p2, q3.trans p3⟩
theorem Up.wI {h : HP} {b i : Nat} {v : Int32} (hb : b < 116) : Up h (wI h b i v) := ⟨Nat.le_refl _, fun a ha _ => ⟨fun j => ⟨up2_a (by omega), rfl, rfl⟩, rfl, rfl⟩⟩
theorem Up.wL {h : HP} {b i : Nat} {v : Int64} (hb : b < 116) : Up h (wL h b i v) := ⟨Nat.le_refl _, fun a ha _ => ⟨fun j => ⟨rfl, up2_a (by omega), rfl⟩, rfl, rfl⟩⟩
theorem Up.wR {h : HP} {b i : Nat} {v : Option Nat} (hb : b < 116) : Up h (wR h b i v) := ⟨Nat.le_refl _, fun a ha _ => ⟨fun j => ⟨rfl, rfl, up2_a (by omega)⟩, rfl, rfl⟩⟩
theorem Is.up {h h' : HP} (u : Up h h') {a t : Nat} (ha : 116 ≤ a) (k : Is h a t) : Is h' a t := ⟨k.1, Nat.lt_of_lt_of_le k.2.1 u.1, (u.2 a ha k.2.1).2.1.trans k.2.2⟩
theorem StC.up {h h' : HP} (u : Up h h') {sb : Nat} {b : Nat → Bool} (h1 : 116 ≤ sb) (h2 : ∀ wb, hR h sb 0 = some wb → 116 ≤ wb) (k : StC h sb b) : StC h' sb b := by
  obtain ⟨k1, wb, k2, k3, k4, k5⟩ := k
  have hw := h2 wb k2
  refine ⟨k1.up u h1, wb, ((u.2 sb h1 k1.2.1).1 0).2.2.trans k2, k3.up u hw, (u.2 wb hw k3.2.1).2.2.trans k4, fun s hs => ?_⟩
  rw [((u.2 wb hw k3.2.1).1 _).2.1]
  exact k5 s hs
theorem DealC.up {h h' : HP} (u : Up h h') {a : Nat} {d : DD} (k : DealC h a d) : DealC h' a d := by
  obtain ⟨k0, k1, k2, e0, e1, e2, e3, e4, e5, k3⟩ := k
  have q := (u.2 a k0 k1.2.1).1
  refine ⟨k0, k1.up u k0, k2, (q 0).1.trans e0, (q 1).1.trans e1, (q 2).1.trans e2, (q 3).1.trans e3, (q 4).1.trans e4, (q 5).1.trans e5, ?_⟩
  rcases k3 with ⟨c1, c2⟩ | ⟨c1, sb, c2, c3, c4, c5⟩
  · exact Or.inl ⟨c1, (q 6).2.2.trans c2⟩
  · refine Or.inr ⟨c1, sb, (q 6).2.2.trans c2, c3, c4.up u c3 c5, fun wb hw => c5 wb ?_⟩
    rw [← ((u.2 sb c3 c4.1.2.1).1 0).2.2]
    exact hw
end
