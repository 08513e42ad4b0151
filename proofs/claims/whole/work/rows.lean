section
-- ===== PART A: goes FIRST, ahead of the names: the tables' words, and 'selects' of the private methods out of them =====
/-- a private method of a class that the tables say can be made, by its rows of tables_1 -/
def lw_okq (q : MethodName × Nat) : Prop := (q.1.cls ≠ "java/lang/invoke/MethodHandle" ∧ q.1.cls ≠ "java/lang/invoke/VarHandle") ∧ Cond.instantiable q.1.cls q.2 ∈ tables_1 ∧ Cond.privateMethod q.1 ∈ tables_1 ∧ Cond.instanceMethod q.1 ∈ tables_1
theorem lw_p0 : lw_okq (⟨"RolledPicks", "finding", "(I)I"⟩, 9) := ⟨⟨by decide +kernel, by decide +kernel⟩, List.mem_of_getElem? (i := 18) (by decide +kernel), List.mem_of_getElem? (i := 188) (by decide +kernel), List.mem_of_getElem? (i := 189) (by decide +kernel)⟩
theorem lw_p1 : lw_okq (⟨"RolledPicks", "enter", "(LRolledPicks$Deal;)I"⟩, 9) := ⟨⟨by decide +kernel, by decide +kernel⟩, List.mem_of_getElem? (i := 18) (by decide +kernel), List.mem_of_getElem? (i := 276) (by decide +kernel), List.mem_of_getElem? (i := 277) (by decide +kernel)⟩
theorem lw_p2 : lw_okq (⟨"RolledPicks", "takes", "(LRolledPicks$Deal;)Z"⟩, 9) := ⟨⟨by decide +kernel, by decide +kernel⟩, List.mem_of_getElem? (i := 18) (by decide +kernel), List.mem_of_getElem? (i := 280) (by decide +kernel), List.mem_of_getElem? (i := 281) (by decide +kernel)⟩
theorem lw_p3 : lw_okq (⟨"RolledPicks", "clashesUnder", "(ILRolledPicks$Deal;)Z"⟩, 9) := ⟨⟨by decide +kernel, by decide +kernel⟩, List.mem_of_getElem? (i := 18) (by decide +kernel), List.mem_of_getElem? (i := 290) (by decide +kernel), List.mem_of_getElem? (i := 291) (by decide +kernel)⟩
theorem lw_p4 : lw_okq (⟨"RolledPicks$Deal", "mayGive", "(I)Z"⟩, 7) := ⟨⟨by decide +kernel, by decide +kernel⟩, List.mem_of_getElem? (i := 236) (by decide +kernel), List.mem_of_getElem? (i := 321) (by decide +kernel), List.mem_of_getElem? (i := 322) (by decide +kernel)⟩
theorem lw_p5 : lw_okq (⟨"RolledPicks$Owners", "give", "(III)V"⟩, 1) := ⟨⟨by decide +kernel, by decide +kernel⟩, List.mem_of_getElem? (i := 63) (by decide +kernel), List.mem_of_getElem? (i := 330) (by decide +kernel), List.mem_of_getElem? (i := 331) (by decide +kernel)⟩
theorem lw_p6 : lw_okq (⟨"RolledPicks$Tape", "step", "()V"⟩, 4) := ⟨⟨by decide +kernel, by decide +kernel⟩, List.mem_of_getElem? (i := 79) (by decide +kernel), List.mem_of_getElem? (i := 350) (by decide +kernel), List.mem_of_getElem? (i := 351) (by decide +kernel)⟩
theorem lw_p7 : lw_okq (⟨"RolledPicks$Reader", "readItem", "(LRolledPicks$Book;)Z"⟩, 4) := ⟨⟨by decide +kernel, by decide +kernel⟩, List.mem_of_getElem? (i := 73) (by decide +kernel), List.mem_of_getElem? (i := 360) (by decide +kernel), List.mem_of_getElem? (i := 361) (by decide +kernel)⟩
theorem lw_p8 : lw_okq (⟨"RolledPicks$Tape", "tokenNumber", "()I"⟩, 4) := ⟨⟨by decide +kernel, by decide +kernel⟩, List.mem_of_getElem? (i := 79) (by decide +kernel), List.mem_of_getElem? (i := 425) (by decide +kernel), List.mem_of_getElem? (i := 426) (by decide +kernel)⟩
theorem lw_p9 : lw_okq (⟨"RolledPicks$Reader", "readKind", "()I"⟩, 4) := ⟨⟨by decide +kernel, by decide +kernel⟩, List.mem_of_getElem? (i := 73) (by decide +kernel), List.mem_of_getElem? (i := 434) (by decide +kernel), List.mem_of_getElem? (i := 435) (by decide +kernel)⟩
theorem lw_p10 : lw_okq (⟨"RolledPicks$Reader", "readAny", "(LRolledPicks$Book;LRolledPicks$Standings;I)Z"⟩, 4) := ⟨⟨by decide +kernel, by decide +kernel⟩, List.mem_of_getElem? (i := 73) (by decide +kernel), List.mem_of_getElem? (i := 444) (by decide +kernel), List.mem_of_getElem? (i := 445) (by decide +kernel)⟩
theorem lw_p11 : lw_okq (⟨"RolledPicks$Reader", "readOne", "(LRolledPicks$Book;LRolledPicks$Standings;I)Z"⟩, 4) := ⟨⟨by decide +kernel, by decide +kernel⟩, List.mem_of_getElem? (i := 73) (by decide +kernel), List.mem_of_getElem? (i := 452) (by decide +kernel), List.mem_of_getElem? (i := 453) (by decide +kernel)⟩
theorem lw_p12 : lw_okq (⟨"RolledPicks$Reader", "dealByThen", "(LRolledPicks$Book;I)LRolledPicks$Deal;"⟩, 4) := ⟨⟨by decide +kernel, by decide +kernel⟩, List.mem_of_getElem? (i := 73) (by decide +kernel), List.mem_of_getElem? (i := 465) (by decide +kernel), List.mem_of_getElem? (i := 466) (by decide +kernel)⟩
theorem lw_p13 : lw_okq (⟨"RolledPicks$Standings", "set", "(IZ)V"⟩, 1) := ⟨⟨by decide +kernel, by decide +kernel⟩, List.mem_of_getElem? (i := 102) (by decide +kernel), List.mem_of_getElem? (i := 480) (by decide +kernel), List.mem_of_getElem? (i := 481) (by decide +kernel)⟩
theorem lw_p14 : lw_okq (⟨"RolledPicks", "settleAll", "()V"⟩, 9) := ⟨⟨by decide +kernel, by decide +kernel⟩, List.mem_of_getElem? (i := 18) (by decide +kernel), List.mem_of_getElem? (i := 513) (by decide +kernel), List.mem_of_getElem? (i := 514) (by decide +kernel)⟩
theorem lw_p15 : lw_okq (⟨"RolledPicks", "countConveying", "(LRolledPicks$Deal;)I"⟩, 9) := ⟨⟨by decide +kernel, by decide +kernel⟩, List.mem_of_getElem? (i := 18) (by decide +kernel), List.mem_of_getElem? (i := 522) (by decide +kernel), List.mem_of_getElem? (i := 523) (by decide +kernel)⟩
def lw_privs_1 : List (MethodName × Nat) := [(⟨"RolledPicks", "finding", "(I)I"⟩, 9), (⟨"RolledPicks", "enter", "(LRolledPicks$Deal;)I"⟩, 9), (⟨"RolledPicks", "takes", "(LRolledPicks$Deal;)Z"⟩, 9), (⟨"RolledPicks", "clashesUnder", "(ILRolledPicks$Deal;)Z"⟩, 9), (⟨"RolledPicks$Deal", "mayGive", "(I)Z"⟩, 7), (⟨"RolledPicks$Owners", "give", "(III)V"⟩, 1), (⟨"RolledPicks$Tape", "step", "()V"⟩, 4), (⟨"RolledPicks$Reader", "readItem", "(LRolledPicks$Book;)Z"⟩, 4), (⟨"RolledPicks$Tape", "tokenNumber", "()I"⟩, 4), (⟨"RolledPicks$Reader", "readKind", "()I"⟩, 4), (⟨"RolledPicks$Reader", "readAny", "(LRolledPicks$Book;LRolledPicks$Standings;I)Z"⟩, 4), (⟨"RolledPicks$Reader", "readOne", "(LRolledPicks$Book;LRolledPicks$Standings;I)Z"⟩, 4), (⟨"RolledPicks$Reader", "dealByThen", "(LRolledPicks$Book;I)LRolledPicks$Deal;"⟩, 4), (⟨"RolledPicks$Standings", "set", "(IZ)V"⟩, 1), (⟨"RolledPicks", "settleAll", "()V"⟩, 9), (⟨"RolledPicks", "countConveying", "(LRolledPicks$Deal;)I"⟩, 9)]
theorem lw_r1 : ∀ q ∈ lw_privs_1, lw_okq q := List.forall_mem_cons.mpr ⟨lw_p0, List.forall_mem_cons.mpr ⟨lw_p1, List.forall_mem_cons.mpr ⟨lw_p2, List.forall_mem_cons.mpr ⟨lw_p3, List.forall_mem_cons.mpr ⟨lw_p4, List.forall_mem_cons.mpr ⟨lw_p5, List.forall_mem_cons.mpr ⟨lw_p6, List.forall_mem_cons.mpr ⟨lw_p7, List.forall_mem_cons.mpr ⟨lw_p8, List.forall_mem_cons.mpr ⟨lw_p9, List.forall_mem_cons.mpr ⟨lw_p10, List.forall_mem_cons.mpr ⟨lw_p11, List.forall_mem_cons.mpr ⟨lw_p12, List.forall_mem_cons.mpr ⟨lw_p13, List.forall_mem_cons.mpr ⟨lw_p14, List.forall_mem_cons.mpr ⟨lw_p15, fun _ h => absurd h List.not_mem_nil⟩⟩⟩⟩⟩⟩⟩⟩⟩⟩⟩⟩⟩⟩⟩⟩
theorem lw_p16 : lw_okq (⟨"RolledPicks", "everOwners", "(I)I"⟩, 9) := ⟨⟨by decide +kernel, by decide +kernel⟩, List.mem_of_getElem? (i := 18) (by decide +kernel), List.mem_of_getElem? (i := 576) (by decide +kernel), List.mem_of_getElem? (i := 577) (by decide +kernel)⟩
theorem lw_p17 : lw_okq (⟨"RolledPicks", "worthUnder", "(II)I"⟩, 9) := ⟨⟨by decide +kernel, by decide +kernel⟩, List.mem_of_getElem? (i := 18) (by decide +kernel), List.mem_of_getElem? (i := 600) (by decide +kernel), List.mem_of_getElem? (i := 601) (by decide +kernel)⟩
theorem lw_p18 : lw_okq (⟨"RolledPicks", "longFinding", "(I)J"⟩, 9) := ⟨⟨by decide +kernel, by decide +kernel⟩, List.mem_of_getElem? (i := 18) (by decide +kernel), List.mem_of_getElem? (i := 608) (by decide +kernel), List.mem_of_getElem? (i := 609) (by decide +kernel)⟩
theorem lw_p19 : lw_okq (⟨"RolledPicks", "worthOver", "(III)J"⟩, 9) := ⟨⟨by decide +kernel, by decide +kernel⟩, List.mem_of_getElem? (i := 18) (by decide +kernel), List.mem_of_getElem? (i := 613) (by decide +kernel), List.mem_of_getElem? (i := 614) (by decide +kernel)⟩
theorem lw_p20 : lw_okq (⟨"RolledPicks", "tellsEachDeal", "(LRolledPicks$Sheet;)Z"⟩, 9) := ⟨⟨by decide +kernel, by decide +kernel⟩, List.mem_of_getElem? (i := 18) (by decide +kernel), List.mem_of_getElem? (i := 634) (by decide +kernel), List.mem_of_getElem? (i := 635) (by decide +kernel)⟩
theorem lw_p21 : lw_okq (⟨"RolledPicks", "countRounds", "(LRolledPicks$Sheet;I)I"⟩, 9) := ⟨⟨by decide +kernel, by decide +kernel⟩, List.mem_of_getElem? (i := 18) (by decide +kernel), List.mem_of_getElem? (i := 638) (by decide +kernel), List.mem_of_getElem? (i := 639) (by decide +kernel)⟩
theorem lw_p22 : lw_okq (⟨"RolledPicks", "goesOver", "(LRolledPicks$Sheet;LRolledPicks$Rounds;)Z"⟩, 9) := ⟨⟨by decide +kernel, by decide +kernel⟩, List.mem_of_getElem? (i := 18) (by decide +kernel), List.mem_of_getElem? (i := 661) (by decide +kernel), List.mem_of_getElem? (i := 662) (by decide +kernel)⟩
theorem lw_p23 : lw_okq (⟨"RolledPicks", "countHeld", "()I"⟩, 9) := ⟨⟨by decide +kernel, by decide +kernel⟩, List.mem_of_getElem? (i := 18) (by decide +kernel), List.mem_of_getElem? (i := 761) (by decide +kernel), List.mem_of_getElem? (i := 762) (by decide +kernel)⟩
theorem lw_p24 : lw_okq (⟨"RolledPicksModel", "finds", "(I)I"⟩, 39) := ⟨⟨by decide +kernel, by decide +kernel⟩, List.mem_of_getElem? (i := 769) (by decide +kernel), List.mem_of_getElem? (i := 906) (by decide +kernel), List.mem_of_getElem? (i := 907) (by decide +kernel)⟩
theorem lw_p25 : lw_okq (⟨"RolledPicksModel", "openFrom", "()I"⟩, 39) := ⟨⟨by decide +kernel, by decide +kernel⟩, List.mem_of_getElem? (i := 769) (by decide +kernel), List.mem_of_getElem? (i := 946) (by decide +kernel), List.mem_of_getElem? (i := 947) (by decide +kernel)⟩
theorem lw_p26 : lw_okq (⟨"RolledPicksModel", "openMany", "()I"⟩, 39) := ⟨⟨by decide +kernel, by decide +kernel⟩, List.mem_of_getElem? (i := 769) (by decide +kernel), List.mem_of_getElem? (i := 950) (by decide +kernel), List.mem_of_getElem? (i := 951) (by decide +kernel)⟩
theorem lw_p27 : lw_okq (⟨"RolledPicksModel", "comes", "(IIIIII)I"⟩, 39) := ⟨⟨by decide +kernel, by decide +kernel⟩, List.mem_of_getElem? (i := 769) (by decide +kernel), List.mem_of_getElem? (i := 964) (by decide +kernel), List.mem_of_getElem? (i := 965) (by decide +kernel)⟩
theorem lw_p28 : lw_okq (⟨"RolledPicksModel", "holdsAlways", "()V"⟩, 39) := ⟨⟨by decide +kernel, by decide +kernel⟩, List.mem_of_getElem? (i := 769) (by decide +kernel), List.mem_of_getElem? (i := 968) (by decide +kernel), List.mem_of_getElem? (i := 969) (by decide +kernel)⟩
theorem lw_p29 : lw_okq (⟨"RolledPicksModel", "lays", "(IIIIIII)V"⟩, 39) := ⟨⟨by decide +kernel, by decide +kernel⟩, List.mem_of_getElem? (i := 769) (by decide +kernel), List.mem_of_getElem? (i := 972) (by decide +kernel), List.mem_of_getElem? (i := 973) (by decide +kernel)⟩
theorem lw_p30 : lw_okq (⟨"RolledPicksModel", "isClashing", "()Z"⟩, 39) := ⟨⟨by decide +kernel, by decide +kernel⟩, List.mem_of_getElem? (i := 769) (by decide +kernel), List.mem_of_getElem? (i := 976) (by decide +kernel), List.mem_of_getElem? (i := 977) (by decide +kernel)⟩
theorem lw_p31 : lw_okq (⟨"RolledPicksModel", "laysOut", "(I)V"⟩, 39) := ⟨⟨by decide +kernel, by decide +kernel⟩, List.mem_of_getElem? (i := 769) (by decide +kernel), List.mem_of_getElem? (i := 980) (by decide +kernel), List.mem_of_getElem? (i := 981) (by decide +kernel)⟩
def lw_privs_2 : List (MethodName × Nat) := [(⟨"RolledPicks", "everOwners", "(I)I"⟩, 9), (⟨"RolledPicks", "worthUnder", "(II)I"⟩, 9), (⟨"RolledPicks", "longFinding", "(I)J"⟩, 9), (⟨"RolledPicks", "worthOver", "(III)J"⟩, 9), (⟨"RolledPicks", "tellsEachDeal", "(LRolledPicks$Sheet;)Z"⟩, 9), (⟨"RolledPicks", "countRounds", "(LRolledPicks$Sheet;I)I"⟩, 9), (⟨"RolledPicks", "goesOver", "(LRolledPicks$Sheet;LRolledPicks$Rounds;)Z"⟩, 9), (⟨"RolledPicks", "countHeld", "()I"⟩, 9), (⟨"RolledPicksModel", "finds", "(I)I"⟩, 39), (⟨"RolledPicksModel", "openFrom", "()I"⟩, 39), (⟨"RolledPicksModel", "openMany", "()I"⟩, 39), (⟨"RolledPicksModel", "comes", "(IIIIII)I"⟩, 39), (⟨"RolledPicksModel", "holdsAlways", "()V"⟩, 39), (⟨"RolledPicksModel", "lays", "(IIIIIII)V"⟩, 39), (⟨"RolledPicksModel", "isClashing", "()Z"⟩, 39), (⟨"RolledPicksModel", "laysOut", "(I)V"⟩, 39)]
theorem lw_r2 : ∀ q ∈ lw_privs_2, lw_okq q := List.forall_mem_cons.mpr ⟨lw_p16, List.forall_mem_cons.mpr ⟨lw_p17, List.forall_mem_cons.mpr ⟨lw_p18, List.forall_mem_cons.mpr ⟨lw_p19, List.forall_mem_cons.mpr ⟨lw_p20, List.forall_mem_cons.mpr ⟨lw_p21, List.forall_mem_cons.mpr ⟨lw_p22, List.forall_mem_cons.mpr ⟨lw_p23, List.forall_mem_cons.mpr ⟨lw_p24, List.forall_mem_cons.mpr ⟨lw_p25, List.forall_mem_cons.mpr ⟨lw_p26, List.forall_mem_cons.mpr ⟨lw_p27, List.forall_mem_cons.mpr ⟨lw_p28, List.forall_mem_cons.mpr ⟨lw_p29, List.forall_mem_cons.mpr ⟨lw_p30, List.forall_mem_cons.mpr ⟨lw_p31, fun _ h => absurd h List.not_mem_nil⟩⟩⟩⟩⟩⟩⟩⟩⟩⟩⟩⟩⟩⟩⟩⟩
theorem lw_p32 : lw_okq (⟨"RolledPicksModel", "conveyed", "(III)I"⟩, 39) := ⟨⟨by decide +kernel, by decide +kernel⟩, List.mem_of_getElem? (i := 769) (by decide +kernel), List.mem_of_getElem? (i := 984) (by decide +kernel), List.mem_of_getElem? (i := 985) (by decide +kernel)⟩
theorem lw_p33 : lw_okq (⟨"RolledPicksModel", "isHolding", "(II)Z"⟩, 39) := ⟨⟨by decide +kernel, by decide +kernel⟩, List.mem_of_getElem? (i := 769) (by decide +kernel), List.mem_of_getElem? (i := 988) (by decide +kernel), List.mem_of_getElem? (i := 989) (by decide +kernel)⟩
theorem lw_p34 : lw_okq (⟨"RolledPicksModel", "goesOn", "(II)I"⟩, 39) := ⟨⟨by decide +kernel, by decide +kernel⟩, List.mem_of_getElem? (i := 769) (by decide +kernel), List.mem_of_getElem? (i := 992) (by decide +kernel), List.mem_of_getElem? (i := 993) (by decide +kernel)⟩
theorem lw_p35 : lw_okq (⟨"RolledPicksModel", "its", "(II)I"⟩, 39) := ⟨⟨by decide +kernel, by decide +kernel⟩, List.mem_of_getElem? (i := 769) (by decide +kernel), List.mem_of_getElem? (i := 996) (by decide +kernel), List.mem_of_getElem? (i := 997) (by decide +kernel)⟩
theorem lw_p36 : lw_okq (⟨"RolledPicksModel", "clashOf", "(I)I"⟩, 39) := ⟨⟨by decide +kernel, by decide +kernel⟩, List.mem_of_getElem? (i := 769) (by decide +kernel), List.mem_of_getElem? (i := 1003) (by decide +kernel), List.mem_of_getElem? (i := 1004) (by decide +kernel)⟩
theorem lw_p37 : lw_okq (⟨"RolledPicksModel", "goesTo", "(II)I"⟩, 39) := ⟨⟨by decide +kernel, by decide +kernel⟩, List.mem_of_getElem? (i := 769) (by decide +kernel), List.mem_of_getElem? (i := 1007) (by decide +kernel), List.mem_of_getElem? (i := 1008) (by decide +kernel)⟩
theorem lw_p38 : lw_okq (⟨"RolledPicksModel", "chains", "(I)Z"⟩, 39) := ⟨⟨by decide +kernel, by decide +kernel⟩, List.mem_of_getElem? (i := 769) (by decide +kernel), List.mem_of_getElem? (i := 1011) (by decide +kernel), List.mem_of_getElem? (i := 1012) (by decide +kernel)⟩
theorem lw_p39 : lw_okq (⟨"RolledPicksModel", "isDeal", "(I)Z"⟩, 39) := ⟨⟨by decide +kernel, by decide +kernel⟩, List.mem_of_getElem? (i := 769) (by decide +kernel), List.mem_of_getElem? (i := 1026) (by decide +kernel), List.mem_of_getElem? (i := 1027) (by decide +kernel)⟩
theorem lw_p40 : lw_okq (⟨"RolledPicksModel", "standing", "(I)I"⟩, 39) := ⟨⟨by decide +kernel, by decide +kernel⟩, List.mem_of_getElem? (i := 769) (by decide +kernel), List.mem_of_getElem? (i := 1031) (by decide +kernel), List.mem_of_getElem? (i := 1032) (by decide +kernel)⟩
theorem lw_p41 : lw_okq (⟨"RolledPicksModel", "isLapsing", "(II)Z"⟩, 39) := ⟨⟨by decide +kernel, by decide +kernel⟩, List.mem_of_getElem? (i := 769) (by decide +kernel), List.mem_of_getElem? (i := 1035) (by decide +kernel), List.mem_of_getElem? (i := 1036) (by decide +kernel)⟩
theorem lw_p42 : lw_okq (⟨"RolledPicksModel", "moves", "(II)V"⟩, 39) := ⟨⟨by decide +kernel, by decide +kernel⟩, List.mem_of_getElem? (i := 769) (by decide +kernel), List.mem_of_getElem? (i := 1055) (by decide +kernel), List.mem_of_getElem? (i := 1056) (by decide +kernel)⟩
theorem lw_p43 : lw_okq (⟨"RolledPicksModel", "isOpen", "(I)Z"⟩, 39) := ⟨⟨by decide +kernel, by decide +kernel⟩, List.mem_of_getElem? (i := 769) (by decide +kernel), List.mem_of_getElem? (i := 1067) (by decide +kernel), List.mem_of_getElem? (i := 1068) (by decide +kernel)⟩
theorem lw_p44 : lw_okq (⟨"RolledPicksModel", "ownerUnder", "(II)I"⟩, 39) := ⟨⟨by decide +kernel, by decide +kernel⟩, List.mem_of_getElem? (i := 769) (by decide +kernel), List.mem_of_getElem? (i := 1071) (by decide +kernel), List.mem_of_getElem? (i := 1072) (by decide +kernel)⟩
theorem lw_p45 : lw_okq (⟨"RolledPicksModel", "ownerOf", "(I)I"⟩, 39) := ⟨⟨by decide +kernel, by decide +kernel⟩, List.mem_of_getElem? (i := 769) (by decide +kernel), List.mem_of_getElem? (i := 1075) (by decide +kernel), List.mem_of_getElem? (i := 1076) (by decide +kernel)⟩
theorem lw_p46 : lw_okq (⟨"RolledPicksModel", "chanceOf", "(II)I"⟩, 39) := ⟨⟨by decide +kernel, by decide +kernel⟩, List.mem_of_getElem? (i := 769) (by decide +kernel), List.mem_of_getElem? (i := 1091) (by decide +kernel), List.mem_of_getElem? (i := 1092) (by decide +kernel)⟩
theorem lw_p47 : lw_okq (⟨"RolledPicksModel", "worthOf", "(II)I"⟩, 39) := ⟨⟨by decide +kernel, by decide +kernel⟩, List.mem_of_getElem? (i := 769) (by decide +kernel), List.mem_of_getElem? (i := 1116) (by decide +kernel), List.mem_of_getElem? (i := 1117) (by decide +kernel)⟩
def lw_privs_3 : List (MethodName × Nat) := [(⟨"RolledPicksModel", "conveyed", "(III)I"⟩, 39), (⟨"RolledPicksModel", "isHolding", "(II)Z"⟩, 39), (⟨"RolledPicksModel", "goesOn", "(II)I"⟩, 39), (⟨"RolledPicksModel", "its", "(II)I"⟩, 39), (⟨"RolledPicksModel", "clashOf", "(I)I"⟩, 39), (⟨"RolledPicksModel", "goesTo", "(II)I"⟩, 39), (⟨"RolledPicksModel", "chains", "(I)Z"⟩, 39), (⟨"RolledPicksModel", "isDeal", "(I)Z"⟩, 39), (⟨"RolledPicksModel", "standing", "(I)I"⟩, 39), (⟨"RolledPicksModel", "isLapsing", "(II)Z"⟩, 39), (⟨"RolledPicksModel", "moves", "(II)V"⟩, 39), (⟨"RolledPicksModel", "isOpen", "(I)Z"⟩, 39), (⟨"RolledPicksModel", "ownerUnder", "(II)I"⟩, 39), (⟨"RolledPicksModel", "ownerOf", "(I)I"⟩, 39), (⟨"RolledPicksModel", "chanceOf", "(II)I"⟩, 39), (⟨"RolledPicksModel", "worthOf", "(II)I"⟩, 39)]
theorem lw_r3 : ∀ q ∈ lw_privs_3, lw_okq q := List.forall_mem_cons.mpr ⟨lw_p32, List.forall_mem_cons.mpr ⟨lw_p33, List.forall_mem_cons.mpr ⟨lw_p34, List.forall_mem_cons.mpr ⟨lw_p35, List.forall_mem_cons.mpr ⟨lw_p36, List.forall_mem_cons.mpr ⟨lw_p37, List.forall_mem_cons.mpr ⟨lw_p38, List.forall_mem_cons.mpr ⟨lw_p39, List.forall_mem_cons.mpr ⟨lw_p40, List.forall_mem_cons.mpr ⟨lw_p41, List.forall_mem_cons.mpr ⟨lw_p42, List.forall_mem_cons.mpr ⟨lw_p43, List.forall_mem_cons.mpr ⟨lw_p44, List.forall_mem_cons.mpr ⟨lw_p45, List.forall_mem_cons.mpr ⟨lw_p46, List.forall_mem_cons.mpr ⟨lw_p47, fun _ h => absurd h List.not_mem_nil⟩⟩⟩⟩⟩⟩⟩⟩⟩⟩⟩⟩⟩⟩⟩⟩
theorem lw_p48 : lw_okq (⟨"RolledPicksModel", "valueFrom", "(III)J"⟩, 39) := ⟨⟨by decide +kernel, by decide +kernel⟩, List.mem_of_getElem? (i := 769) (by decide +kernel), List.mem_of_getElem? (i := 1124) (by decide +kernel), List.mem_of_getElem? (i := 1125) (by decide +kernel)⟩
theorem lw_p49 : lw_okq (⟨"RolledPicksModel", "findsFar", "(I)J"⟩, 39) := ⟨⟨by decide +kernel, by decide +kernel⟩, List.mem_of_getElem? (i := 769) (by decide +kernel), List.mem_of_getElem? (i := 1128) (by decide +kernel), List.mem_of_getElem? (i := 1129) (by decide +kernel)⟩
theorem lw_p50 : lw_okq (⟨"RolledPicksModel", "isTextClashing", "()Z"⟩, 39) := ⟨⟨by decide +kernel, by decide +kernel⟩, List.mem_of_getElem? (i := 769) (by decide +kernel), List.mem_of_getElem? (i := 1155) (by decide +kernel), List.mem_of_getElem? (i := 1156) (by decide +kernel)⟩
theorem lw_p51 : lw_okq (⟨"RolledPicksModel", "token", "()V"⟩, 39) := ⟨⟨by decide +kernel, by decide +kernel⟩, List.mem_of_getElem? (i := 769) (by decide +kernel), List.mem_of_getElem? (i := 1159) (by decide +kernel), List.mem_of_getElem? (i := 1160) (by decide +kernel)⟩
theorem lw_p52 : lw_okq (⟨"RolledPicksModel", "byteAt", "(I)I"⟩, 39) := ⟨⟨by decide +kernel, by decide +kernel⟩, List.mem_of_getElem? (i := 769) (by decide +kernel), List.mem_of_getElem? (i := 1163) (by decide +kernel), List.mem_of_getElem? (i := 1164) (by decide +kernel)⟩
theorem lw_p53 : lw_okq (⟨"RolledPicksModel", "isItemClashing", "()Z"⟩, 39) := ⟨⟨by decide +kernel, by decide +kernel⟩, List.mem_of_getElem? (i := 769) (by decide +kernel), List.mem_of_getElem? (i := 1177) (by decide +kernel), List.mem_of_getElem? (i := 1178) (by decide +kernel)⟩
theorem lw_p54 : lw_okq (⟨"RolledPicksModel", "isWord", "(I)Z"⟩, 39) := ⟨⟨by decide +kernel, by decide +kernel⟩, List.mem_of_getElem? (i := 769) (by decide +kernel), List.mem_of_getElem? (i := 1181) (by decide +kernel), List.mem_of_getElem? (i := 1182) (by decide +kernel)⟩
theorem lw_p55 : lw_okq (⟨"RolledPicksModel", "must", "(Z)V"⟩, 39) := ⟨⟨by decide +kernel, by decide +kernel⟩, List.mem_of_getElem? (i := 769) (by decide +kernel), List.mem_of_getElem? (i := 1185) (by decide +kernel), List.mem_of_getElem? (i := 1186) (by decide +kernel)⟩
theorem lw_p56 : lw_okq (⟨"RolledPicksModel", "number", "(II)I"⟩, 39) := ⟨⟨by decide +kernel, by decide +kernel⟩, List.mem_of_getElem? (i := 769) (by decide +kernel), List.mem_of_getElem? (i := 1189) (by decide +kernel), List.mem_of_getElem? (i := 1190) (by decide +kernel)⟩
theorem lw_p57 : lw_okq (⟨"RolledPicksModel", "numberHere", "()I"⟩, 39) := ⟨⟨by decide +kernel, by decide +kernel⟩, List.mem_of_getElem? (i := 769) (by decide +kernel), List.mem_of_getElem? (i := 1193) (by decide +kernel), List.mem_of_getElem? (i := 1194) (by decide +kernel)⟩
theorem lw_p58 : lw_okq (⟨"RolledPicksModel", "takes", "(I)Z"⟩, 39) := ⟨⟨by decide +kernel, by decide +kernel⟩, List.mem_of_getElem? (i := 769) (by decide +kernel), List.mem_of_getElem? (i := 1197) (by decide +kernel), List.mem_of_getElem? (i := 1198) (by decide +kernel)⟩
theorem lw_p59 : lw_okq (⟨"RolledPicksModel", "either", "()V"⟩, 39) := ⟨⟨by decide +kernel, by decide +kernel⟩, List.mem_of_getElem? (i := 769) (by decide +kernel), List.mem_of_getElem? (i := 1201) (by decide +kernel), List.mem_of_getElem? (i := 1202) (by decide +kernel)⟩
theorem lw_p60 : lw_okq (⟨"RolledPicksModel", "both", "()V"⟩, 39) := ⟨⟨by decide +kernel, by decide +kernel⟩, List.mem_of_getElem? (i := 769) (by decide +kernel), List.mem_of_getElem? (i := 1205) (by decide +kernel), List.mem_of_getElem? (i := 1206) (by decide +kernel)⟩
theorem lw_p61 : lw_okq (⟨"RolledPicksModel", "factor", "()V"⟩, 39) := ⟨⟨by decide +kernel, by decide +kernel⟩, List.mem_of_getElem? (i := 769) (by decide +kernel), List.mem_of_getElem? (i := 1209) (by decide +kernel), List.mem_of_getElem? (i := 1210) (by decide +kernel)⟩
theorem lw_p62 : lw_okq (⟨"RolledPicksModel", "isSign", "(I)Z"⟩, 39) := ⟨⟨by decide +kernel, by decide +kernel⟩, List.mem_of_getElem? (i := 769) (by decide +kernel), List.mem_of_getElem? (i := 1213) (by decide +kernel), List.mem_of_getElem? (i := 1214) (by decide +kernel)⟩
theorem lw_p63 : lw_okq (⟨"RolledPicksModel", "codes", "(I)V"⟩, 39) := ⟨⟨by decide +kernel, by decide +kernel⟩, List.mem_of_getElem? (i := 769) (by decide +kernel), List.mem_of_getElem? (i := 1217) (by decide +kernel), List.mem_of_getElem? (i := 1218) (by decide +kernel)⟩
def lw_privs_4 : List (MethodName × Nat) := [(⟨"RolledPicksModel", "valueFrom", "(III)J"⟩, 39), (⟨"RolledPicksModel", "findsFar", "(I)J"⟩, 39), (⟨"RolledPicksModel", "isTextClashing", "()Z"⟩, 39), (⟨"RolledPicksModel", "token", "()V"⟩, 39), (⟨"RolledPicksModel", "byteAt", "(I)I"⟩, 39), (⟨"RolledPicksModel", "isItemClashing", "()Z"⟩, 39), (⟨"RolledPicksModel", "isWord", "(I)Z"⟩, 39), (⟨"RolledPicksModel", "must", "(Z)V"⟩, 39), (⟨"RolledPicksModel", "number", "(II)I"⟩, 39), (⟨"RolledPicksModel", "numberHere", "()I"⟩, 39), (⟨"RolledPicksModel", "takes", "(I)Z"⟩, 39), (⟨"RolledPicksModel", "either", "()V"⟩, 39), (⟨"RolledPicksModel", "both", "()V"⟩, 39), (⟨"RolledPicksModel", "factor", "()V"⟩, 39), (⟨"RolledPicksModel", "isSign", "(I)Z"⟩, 39), (⟨"RolledPicksModel", "codes", "(I)V"⟩, 39)]
theorem lw_r4 : ∀ q ∈ lw_privs_4, lw_okq q := List.forall_mem_cons.mpr ⟨lw_p48, List.forall_mem_cons.mpr ⟨lw_p49, List.forall_mem_cons.mpr ⟨lw_p50, List.forall_mem_cons.mpr ⟨lw_p51, List.forall_mem_cons.mpr ⟨lw_p52, List.forall_mem_cons.mpr ⟨lw_p53, List.forall_mem_cons.mpr ⟨lw_p54, List.forall_mem_cons.mpr ⟨lw_p55, List.forall_mem_cons.mpr ⟨lw_p56, List.forall_mem_cons.mpr ⟨lw_p57, List.forall_mem_cons.mpr ⟨lw_p58, List.forall_mem_cons.mpr ⟨lw_p59, List.forall_mem_cons.mpr ⟨lw_p60, List.forall_mem_cons.mpr ⟨lw_p61, List.forall_mem_cons.mpr ⟨lw_p62, List.forall_mem_cons.mpr ⟨lw_p63, fun _ h => absurd h List.not_mem_nil⟩⟩⟩⟩⟩⟩⟩⟩⟩⟩⟩⟩⟩⟩⟩⟩
theorem lw_p64 : lw_okq (⟨"RolledPicksModel", "three", "(IZ)V"⟩, 39) := ⟨⟨by decide +kernel, by decide +kernel⟩, List.mem_of_getElem? (i := 769) (by decide +kernel), List.mem_of_getElem? (i := 1221) (by decide +kernel), List.mem_of_getElem? (i := 1222) (by decide +kernel)⟩
theorem lw_p65 : lw_okq (⟨"RolledPicksModel", "laysCondition", "()V"⟩, 39) := ⟨⟨by decide +kernel, by decide +kernel⟩, List.mem_of_getElem? (i := 769) (by decide +kernel), List.mem_of_getElem? (i := 1225) (by decide +kernel), List.mem_of_getElem? (i := 1226) (by decide +kernel)⟩
theorem lw_p66 : lw_okq (⟨"RolledPicksModel", "isTrue", "(I)Z"⟩, 39) := ⟨⟨by decide +kernel, by decide +kernel⟩, List.mem_of_getElem? (i := 769) (by decide +kernel), List.mem_of_getElem? (i := 1229) (by decide +kernel), List.mem_of_getElem? (i := 1230) (by decide +kernel)⟩
theorem lw_p67 : lw_okq (⟨"RolledPicksModel", "isTest", "(II)Z"⟩, 39) := ⟨⟨by decide +kernel, by decide +kernel⟩, List.mem_of_getElem? (i := 769) (by decide +kernel), List.mem_of_getElem? (i := 1233) (by decide +kernel), List.mem_of_getElem? (i := 1234) (by decide +kernel)⟩
theorem lw_p68 : lw_okq (⟨"RolledPicksModel", "areAll", "(I)Z"⟩, 39) := ⟨⟨by decide +kernel, by decide +kernel⟩, List.mem_of_getElem? (i := 769) (by decide +kernel), List.mem_of_getElem? (i := 1263) (by decide +kernel), List.mem_of_getElem? (i := 1264) (by decide +kernel)⟩
theorem lw_p69 : lw_okq (⟨"RolledPicksModel", "goesOver", "(I)Z"⟩, 39) := ⟨⟨by decide +kernel, by decide +kernel⟩, List.mem_of_getElem? (i := 769) (by decide +kernel), List.mem_of_getElem? (i := 1267) (by decide +kernel), List.mem_of_getElem? (i := 1268) (by decide +kernel)⟩
theorem lw_p70 : lw_okq (⟨"RolledPicksModel", "goesBy", "(II)Z"⟩, 39) := ⟨⟨by decide +kernel, by decide +kernel⟩, List.mem_of_getElem? (i := 769) (by decide +kernel), List.mem_of_getElem? (i := 1271) (by decide +kernel), List.mem_of_getElem? (i := 1272) (by decide +kernel)⟩
def lw_privs_5 : List (MethodName × Nat) := [(⟨"RolledPicksModel", "three", "(IZ)V"⟩, 39), (⟨"RolledPicksModel", "laysCondition", "()V"⟩, 39), (⟨"RolledPicksModel", "isTrue", "(I)Z"⟩, 39), (⟨"RolledPicksModel", "isTest", "(II)Z"⟩, 39), (⟨"RolledPicksModel", "areAll", "(I)Z"⟩, 39), (⟨"RolledPicksModel", "goesOver", "(I)Z"⟩, 39), (⟨"RolledPicksModel", "goesBy", "(II)Z"⟩, 39)]
theorem lw_r5 : ∀ q ∈ lw_privs_5, lw_okq q := List.forall_mem_cons.mpr ⟨lw_p64, List.forall_mem_cons.mpr ⟨lw_p65, List.forall_mem_cons.mpr ⟨lw_p66, List.forall_mem_cons.mpr ⟨lw_p67, List.forall_mem_cons.mpr ⟨lw_p68, List.forall_mem_cons.mpr ⟨lw_p69, List.forall_mem_cons.mpr ⟨lw_p70, fun _ h => absurd h List.not_mem_nil⟩⟩⟩⟩⟩⟩⟩
def lw_privs : List (MethodName × Nat) := lw_privs_1 ++ (lw_privs_2 ++ (lw_privs_3 ++ (lw_privs_4 ++ (lw_privs_5))))
def lw_tbl : List Cond := k2_sels lw_privs ++ tables_1
theorem lw_privs_ok : ∀ q ∈ lw_privs, lw_okq q := by
  show ∀ q ∈ lw_privs_1 ++ (lw_privs_2 ++ (lw_privs_3 ++ (lw_privs_4 ++ (lw_privs_5)))), lw_okq q
  exact List.forall_mem_append.mpr ⟨lw_r1, List.forall_mem_append.mpr ⟨lw_r2, List.forall_mem_append.mpr ⟨lw_r3, List.forall_mem_append.mpr ⟨lw_r4, lw_r5⟩⟩⟩⟩
end
section
-- names: classes, fields in the order of the slots, methods
def RX0 : String := "RolledPicks$Book"
def TX0 : u_T := fun k => match k with
  | 0 => ("RolledPicks$Book", "deals", "[LRolledPicks$Deal;", true)
  | 1 => ("RolledPicks$Book", "dealCount", "I", false)
  | 2 => ("RolledPicks$Book", "orders", "[I", true)
  | 3 => ("RolledPicks$Book", "fallenYears", "I", false)
  | 4 => ("RolledPicks$Book", "worths", "[I", true)
  | _ => ("RolledPicks$Book", "z", "I", false)
def tyX0 : Nat → FieldType := fun k => match k with
  | 0 => .array (.object "RolledPicks$Deal")
  | 1 => .int
  | 2 => .array .int
  | 3 => .int
  | 4 => .array .int
  | _ => .int
theorem nmX0 : ∀ a, a < 6 → ∀ b, b < 6 → a ≠ b → (TX0 a).2.1 ≠ (TX0 b).2.1 := by decide +kernel
theorem tyX0_ok : ∀ k, k < 6 → parseFieldDescriptor (TX0 k).2.2.1 = some (tyX0 k) := by decide +kernel
def RX1 : String := "RolledPicks$Deal"
def TX1 : u_T := fun k => match k with
  | 0 => ("RolledPicks$Deal", "kind", "I", true)
  | 1 => ("RolledPicks$Deal", "from", "I", true)
  | 2 => ("RolledPicks$Deal", "to", "I", true)
  | 3 => ("RolledPicks$Deal", "pick", "I", true)
  | 4 => ("RolledPicks$Deal", "other", "I", true)
  | 5 => ("RolledPicks$Deal", "n", "I", true)
  | _ => ("RolledPicks$Deal", "condition", "LRolledPicks$Standings;", true)
def tyX1 : Nat → FieldType := fun k => match k with
  | 0 => .int
  | 1 => .int
  | 2 => .int
  | 3 => .int
  | 4 => .int
  | 5 => .int
  | _ => .object "RolledPicks$Standings"
theorem nmX1 : ∀ a, a < 7 → ∀ b, b < 7 → a ≠ b → (TX1 a).2.1 ≠ (TX1 b).2.1 := by decide +kernel
theorem tyX1_ok : ∀ k, k < 7 → parseFieldDescriptor (TX1 k).2.2.1 = some (tyX1 k) := by decide +kernel
def RX2 : String := "RolledPicks$Owners"
def TX2 : u_T := fun k => match k with
  | _ => ("RolledPicks$Owners", "rows", "[I", true)
def tyX2 : Nat → FieldType := fun k => match k with
  | _ => .array .int
theorem nmX2 : ∀ a, a < 1 → ∀ b, b < 1 → a ≠ b → (TX2 a).2.1 ≠ (TX2 b).2.1 := by decide +kernel
theorem tyX2_ok : ∀ k, k < 1 → parseFieldDescriptor (TX2 k).2.2.1 = some (tyX2 k) := by decide +kernel
def RX3 : String := "RolledPicks$Reader"
def TX3 : u_T := fun k => match k with
  | 0 => ("RolledPicks$Reader", "tape", "LRolledPicks$Tape;", true)
  | 1 => ("RolledPicks$Reader", "came", "[LRolledPicks$Deal;", true)
  | 2 => ("RolledPicks$Reader", "cameCount", "I", false)
  | _ => ("RolledPicks$Reader", "spare", "[LRolledPicks$Standings;", true)
def tyX3 : Nat → FieldType := fun k => match k with
  | 0 => .object "RolledPicks$Tape"
  | 1 => .array (.object "RolledPicks$Deal")
  | 2 => .int
  | _ => .array (.object "RolledPicks$Standings")
theorem nmX3 : ∀ a, a < 4 → ∀ b, b < 4 → a ≠ b → (TX3 a).2.1 ≠ (TX3 b).2.1 := by decide +kernel
theorem tyX3_ok : ∀ k, k < 4 → parseFieldDescriptor (TX3 k).2.2.1 = some (tyX3 k) := by decide +kernel
def RX4 : String := "RolledPicks$Rounds"
def TX4 : u_T := fun k => match k with
  | 0 => ("RolledPicks$Rounds", "standing", "I", true)
  | 1 => ("RolledPicks$Rounds", "has", "[I", true)
  | 2 => ("RolledPicks$Rounds", "givenBy", "I", false)
  | _ => ("RolledPicks$Rounds", "gotBackBy", "I", false)
def tyX4 : Nat → FieldType := fun k => match k with
  | 0 => .int
  | 1 => .array .int
  | 2 => .int
  | _ => .int
theorem nmX4 : ∀ a, a < 4 → ∀ b, b < 4 → a ≠ b → (TX4 a).2.1 ≠ (TX4 b).2.1 := by decide +kernel
theorem tyX4_ok : ∀ k, k < 4 → parseFieldDescriptor (TX4 k).2.2.1 = some (tyX4 k) := by decide +kernel
def RX5 : String := "RolledPicks$Sheet"
def TX5 : u_T := fun k => match k with
  | 0 => ("RolledPicks$Sheet", "numbers", "[J", true)
  | 1 => ("RolledPicks$Sheet", "sort", "I", false)
  | _ => ("RolledPicks$Sheet", "length", "I", false)
def tyX5 : Nat → FieldType := fun k => match k with
  | 0 => .array .long
  | 1 => .int
  | _ => .int
theorem nmX5 : ∀ a, a < 3 → ∀ b, b < 3 → a ≠ b → (TX5 a).2.1 ≠ (TX5 b).2.1 := by decide +kernel
theorem tyX5_ok : ∀ k, k < 3 → parseFieldDescriptor (TX5 k).2.2.1 = some (tyX5 k) := by decide +kernel
def RX6 : String := "RolledPicks$Standings"
def TX6 : u_T := fun k => match k with
  | _ => ("RolledPicks$Standings", "words", "[J", true)
def tyX6 : Nat → FieldType := fun k => match k with
  | _ => .array .long
theorem nmX6 : ∀ a, a < 1 → ∀ b, b < 1 → a ≠ b → (TX6 a).2.1 ≠ (TX6 b).2.1 := by decide +kernel
theorem tyX6_ok : ∀ k, k < 1 → parseFieldDescriptor (TX6 k).2.2.1 = some (tyX6 k) := by decide +kernel
def RX7 : String := "RolledPicks$Tape"
def TX7 : u_T := fun k => match k with
  | 0 => ("RolledPicks$Tape", "bytes", "[B", true)
  | 1 => ("RolledPicks$Tape", "length", "I", false)
  | 2 => ("RolledPicks$Tape", "tokenAt", "I", false)
  | _ => ("RolledPicks$Tape", "tokenEnd", "I", false)
def tyX7 : Nat → FieldType := fun k => match k with
  | 0 => .array .byte
  | 1 => .int
  | 2 => .int
  | _ => .int
theorem nmX7 : ∀ a, a < 4 → ∀ b, b < 4 → a ≠ b → (TX7 a).2.1 ≠ (TX7 b).2.1 := by decide +kernel
theorem tyX7_ok : ∀ k, k < 4 → parseFieldDescriptor (TX7 k).2.2.1 = some (tyX7 k) := by decide +kernel
def RX8 : String := "RolledPicks"
def TX8 : u_T := fun k => match k with
  | 0 => ("RolledPicks", "book", "LRolledPicks$Book;", true)
  | 1 => ("RolledPicks", "pile", "[LRolledPicks$Book;", true)
  | 2 => ("RolledPicks", "images", "I", false)
  | 3 => ("RolledPicks", "owners", "LRolledPicks$Owners;", true)
  | 4 => ("RolledPicks", "reader", "LRolledPicks$Reader;", true)
  | 5 => ("RolledPicks", "sheets", "[LRolledPicks$Sheet;", true)
  | 6 => ("RolledPicks", "spots", "[LRolledPicks$Deal;", true)
  | 7 => ("RolledPicks", "told", "[I", true)
  | _ => ("RolledPicks", "findings", "[I", true)
def tyX8 : Nat → FieldType := fun k => match k with
  | 0 => .object "RolledPicks$Book"
  | 1 => .array (.object "RolledPicks$Book")
  | 2 => .int
  | 3 => .object "RolledPicks$Owners"
  | 4 => .object "RolledPicks$Reader"
  | 5 => .array (.object "RolledPicks$Sheet")
  | 6 => .array (.object "RolledPicks$Deal")
  | 7 => .array .int
  | _ => .array .int
theorem nmX8 : ∀ a, a < 9 → ∀ b, b < 9 → a ≠ b → (TX8 a).2.1 ≠ (TX8 b).2.1 := by decide +kernel
theorem tyX8_ok : ∀ k, k < 9 → parseFieldDescriptor (TX8 k).2.2.1 = some (tyX8 k) := by decide +kernel
def RX9 : String := "RolledPicksModel"
def TX9 : u_T := fun k => match k with
  | 0 => ("RolledPicksModel", "findings", "[I", true)
  | 1 => ("RolledPicksModel", "fallen", "I", false)
  | 2 => ("RolledPicksModel", "orderOf", "[I", true)
  | 3 => ("RolledPicksModel", "z", "I", false)
  | 4 => ("RolledPicksModel", "many", "I", false)
  | 5 => ("RolledPicksModel", "deal", "[I", true)
  | 6 => ("RolledPicksModel", "where", "[I", true)
  | 7 => ("RolledPicksModel", "born", "I", false)
  | 8 => ("RolledPicksModel", "clashed", "[I", true)
  | 9 => ("RolledPicksModel", "sent", "[I", true)
  | 10 => ("RolledPicksModel", "chainOf", "[I", true)
  | 11 => ("RolledPicksModel", "chainLong", "I", false)
  | 12 => ("RolledPicksModel", "price", "[I", true)
  | 13 => ("RolledPicksModel", "tape", "[I", true)
  | 14 => ("RolledPicksModel", "taped", "I", false)
  | 15 => ("RolledPicksModel", "from", "I", false)
  | 16 => ("RolledPicksModel", "end", "I", false)
  | 17 => ("RolledPicksModel", "value", "I", false)
  | 18 => ("RolledPicksModel", "isWrong", "Z", false)
  | 19 => ("RolledPicksModel", "comesTrue", "Z", false)
  | 20 => ("RolledPicksModel", "found", "I", false)
  | 21 => ("RolledPicksModel", "opened", "I", false)
  | 22 => ("RolledPicksModel", "code", "[I", true)
  | 23 => ("RolledPicksModel", "codeLong", "I", false)
  | 24 => ("RolledPicksModel", "stack", "[Z", true)
  | 25 => ("RolledPicksModel", "words", "[C", true)
  | 26 => ("RolledPicksModel", "sortOf", "[I", true)
  | 27 => ("RolledPicksModel", "sizeOf", "[I", true)
  | 28 => ("RolledPicksModel", "numbers", "[J", true)
  | 29 => ("RolledPicksModel", "moved", "[J", true)
  | 30 => ("RolledPicksModel", "has", "[I", true)
  | 31 => ("RolledPicksModel", "gone", "[I", true)
  | 32 => ("RolledPicksModel", "spotHas", "[I", true)
  | 33 => ("RolledPicksModel", "spotWho", "[I", true)
  | 34 => ("RolledPicksModel", "spotKind", "[I", true)
  | 35 => ("RolledPicksModel", "piled", "I", false)
  | 36 => ("RolledPicksModel", "pileDeals", "[I", true)
  | 37 => ("RolledPicksModel", "pileWhere", "[I", true)
  | _ => ("RolledPicksModel", "pileRest", "[I", true)
def tyX9 : Nat → FieldType := fun k => match k with
  | 0 => .array .int
  | 1 => .int
  | 2 => .array .int
  | 3 => .int
  | 4 => .int
  | 5 => .array .int
  | 6 => .array .int
  | 7 => .int
  | 8 => .array .int
  | 9 => .array .int
  | 10 => .array .int
  | 11 => .int
  | 12 => .array .int
  | 13 => .array .int
  | 14 => .int
  | 15 => .int
  | 16 => .int
  | 17 => .int
  | 18 => .boolean
  | 19 => .boolean
  | 20 => .int
  | 21 => .int
  | 22 => .array .int
  | 23 => .int
  | 24 => .array .boolean
  | 25 => .array .char
  | 26 => .array .int
  | 27 => .array .int
  | 28 => .array .long
  | 29 => .array .long
  | 30 => .array .int
  | 31 => .array .int
  | 32 => .array .int
  | 33 => .array .int
  | 34 => .array .int
  | 35 => .int
  | 36 => .array .int
  | 37 => .array .int
  | _ => .array .int
theorem nmX9 : ∀ a, a < 39 → ∀ b, b < 39 → a ≠ b → (TX9 a).2.1 ≠ (TX9 b).2.1 := by decide +kernel
theorem tyX9_ok : ∀ k, k < 39 → parseFieldDescriptor (TX9 k).2.2.1 = some (tyX9 k) := by decide +kernel
def RJ9 : String := "java/lang/Math"
def RJ0 : String := "java/lang/String"
def RJ1 : String := "java/lang/StringLatin1"
def RJ2 : String := "java/lang/StringUTF16"
def RJ10 : String := "java/lang/System"
def RJ3 : String := "jdk/internal/util/Preconditions"
def RL : String := "RolledPicksLaw"
abbrev vwCl : List vw_C := [(RX0, TX0, 6), (RX1, TX1, 7), (RX2, TX2, 1), (RX3, TX3, 4), (RX4, TX4, 4), (RX5, TX5, 3), (RX6, TX6, 1), (RX7, TX7, 4), (RX8, TX8, 9), (RX9, TX9, 39)]
/-- a method: its name, its bytes, how many locals, what it answers -/
abbrev MD : Type := MethodName × ByteArray × Nat × Option FieldType
abbrev cX0_init : ByteArray := prog_2_method_1_code
def yX0_init : MethodName := ⟨RX0, "<init>", "()V"⟩
def mX0_init : MD := (yX0_init, cX0_init, 1, none)
abbrev cX0_become : ByteArray := prog_2_method_2_code
def yX0_become : MethodName := ⟨RX0, "become", "(LRolledPicks$Book;)V"⟩
def mX0_become : MD := (yX0_become, cX0_become, 3, none)
abbrev cX0_firstOpen : ByteArray := prog_2_method_3_code
def yX0_firstOpen : MethodName := ⟨RX0, "firstOpen", "()I"⟩
def mX0_firstOpen : MD := (yX0_firstOpen, cX0_firstOpen, 3, some .int)
abbrev cX0_openCount : ByteArray := prog_2_method_4_code
def yX0_openCount : MethodName := ⟨RX0, "openCount", "()I"⟩
def mX0_openCount : MD := (yX0_openCount, cX0_openCount, 1, some .int)
abbrev cX0_endOpen : ByteArray := prog_2_method_5_code
def yX0_endOpen : MethodName := ⟨RX0, "endOpen", "()I"⟩
def mX0_endOpen : MD := (yX0_endOpen, cX0_endOpen, 1, some .int)
abbrev cX0_isOpen : ByteArray := prog_2_method_6_code
def yX0_isOpen : MethodName := ⟨RX0, "isOpen", "(I)Z"⟩
def mX0_isOpen : MD := (yX0_isOpen, cX0_isOpen, 2, some .boolean)
abbrev cX0_dealAt : ByteArray := prog_2_method_7_code
def yX0_dealAt : MethodName := ⟨RX0, "dealAt", "(I)LRolledPicks$Deal;"⟩
def mX0_dealAt : MD := (yX0_dealAt, cX0_dealAt, 2, some (.object "RolledPicks$Deal"))
abbrev cX0_numberOf : ByteArray := prog_2_method_8_code
def yX0_numberOf : MethodName := ⟨RX0, "numberOf", "(LRolledPicks$Deal;)I"⟩
def mX0_numberOf : MD := (yX0_numberOf, cX0_numberOf, 3, some .int)
abbrev cX0_clashOf : ByteArray := prog_2_method_9_code
def yX0_clashOf : MethodName := ⟨RX0, "clashOf", "(IIII)I"⟩
def mX0_clashOf : MD := (yX0_clashOf, cX0_clashOf, 10, some .int)
abbrev cX1_init : ByteArray := prog_3_method_1_code
def yX1_init : MethodName := ⟨RX1, "<init>", "(IIIIIILRolledPicks$Standings;)V"⟩
def mX1_init : MD := (yX1_init, cX1_init, 8, none)
abbrev cX1_isMet : ByteArray := prog_3_method_2_code
def yX1_isMet : MethodName := ⟨RX1, "isMet", "(I)Z"⟩
def mX1_isMet : MD := (yX1_isMet, cX1_isMet, 2, some .boolean)
abbrev cX1_gives : ByteArray := prog_3_method_3_code
def yX1_gives : MethodName := ⟨RX1, "gives", "(I)I"⟩
def mX1_gives : MD := (yX1_gives, cX1_gives, 5, some .int)
abbrev cX1_getsBack : ByteArray := prog_3_method_4_code
def yX1_getsBack : MethodName := ⟨RX1, "getsBack", "(I)I"⟩
def mX1_getsBack : MD := (yX1_getsBack, cX1_getsBack, 2, some .int)
abbrev cX1_takerOf : ByteArray := prog_3_method_5_code
def yX1_takerOf : MethodName := ⟨RX1, "takerOf", "(II)I"⟩
def mX1_takerOf : MD := (yX1_takerOf, cX1_takerOf, 3, some .int)
abbrev cX1_mayGive : ByteArray := prog_3_method_6_code
def yX1_mayGive : MethodName := ⟨RX1, "mayGive", "(I)Z"⟩
def mX1_mayGive : MD := (yX1_mayGive, cX1_mayGive, 2, some .boolean)
abbrev cX2_init : ByteArray := prog_4_method_1_code
def yX2_init : MethodName := ⟨RX2, "<init>", "()V"⟩
def mX2_init : MD := (yX2_init, cX2_init, 1, none)
abbrev cX2_at : ByteArray := prog_4_method_2_code
def yX2_at : MethodName := ⟨RX2, "at", "(II)I"⟩
def mX2_at : MD := (yX2_at, cX2_at, 3, some .int)
abbrev cX2_startAll : ByteArray := prog_4_method_3_code
def yX2_startAll : MethodName := ⟨RX2, "startAll", "(II)V"⟩
def mX2_startAll : MD := (yX2_startAll, cX2_startAll, 4, none)
abbrev cX2_settle : ByteArray := prog_4_method_4_code
def yX2_settle : MethodName := ⟨RX2, "settle", "(LRolledPicks$Deal;II)V"⟩
def mX2_settle : MD := (yX2_settle, cX2_settle, 6, none)
abbrev cX2_give : ByteArray := prog_4_method_5_code
def yX2_give : MethodName := ⟨RX2, "give", "(III)V"⟩
def mX2_give : MD := (yX2_give, cX2_give, 4, none)
abbrev cX3_init : ByteArray := prog_5_method_1_code
def yX3_init : MethodName := ⟨RX3, "<init>", "()V"⟩
def mX3_init : MD := (yX3_init, cX3_init, 2, none)
abbrev cX3_cameAt : ByteArray := prog_5_method_2_code
def yX3_cameAt : MethodName := ⟨RX3, "cameAt", "(I)LRolledPicks$Deal;"⟩
def mX3_cameAt : MD := (yX3_cameAt, cX3_cameAt, 2, some (.object "RolledPicks$Deal"))
abbrev cX3_readText : ByteArray := prog_5_method_3_code
def yX3_readText : MethodName := ⟨RX3, "readText", "(LRolledPicks$Book;)I"⟩
def mX3_readText : MD := (yX3_readText, cX3_readText, 4, some .int)
abbrev cX3_readItem : ByteArray := prog_5_method_4_code
def yX3_readItem : MethodName := ⟨RX3, "readItem", "(LRolledPicks$Book;)Z"⟩
def mX3_readItem : MD := (yX3_readItem, cX3_readItem, 11, some .boolean)
abbrev cX3_readKind : ByteArray := prog_5_method_5_code
def yX3_readKind : MethodName := ⟨RX3, "readKind", "()I"⟩
def mX3_readKind : MD := (yX3_readKind, cX3_readKind, 1, some .int)
abbrev cX3_readAny : ByteArray := prog_5_method_6_code
def yX3_readAny : MethodName := ⟨RX3, "readAny", "(LRolledPicks$Book;LRolledPicks$Standings;I)Z"⟩
def mX3_readAny : MD := (yX3_readAny, cX3_readAny, 9, some .boolean)
abbrev cX3_readOne : ByteArray := prog_5_method_7_code
def yX3_readOne : MethodName := ⟨RX3, "readOne", "(LRolledPicks$Book;LRolledPicks$Standings;I)Z"⟩
def mX3_readOne : MD := (yX3_readOne, cX3_readOne, 9, some .boolean)
abbrev cX3_dealByThen : ByteArray := prog_5_method_8_code
def yX3_dealByThen : MethodName := ⟨RX3, "dealByThen", "(LRolledPicks$Book;I)LRolledPicks$Deal;"⟩
def mX3_dealByThen : MD := (yX3_dealByThen, cX3_dealByThen, 3, some (.object "RolledPicks$Deal"))
abbrev cX4_init : ByteArray := prog_6_method_1_code
def yX4_init : MethodName := ⟨RX4, "<init>", "(I)V"⟩
def mX4_init : MD := (yX4_init, cX4_init, 3, none)
abbrev cX4_move : ByteArray := prog_6_method_2_code
def yX4_move : MethodName := ⟨RX4, "move", "(LRolledPicks$Deal;I)Z"⟩
def mX4_move : MD := (yX4_move, cX4_move, 6, some .boolean)
abbrev cX5_init : ByteArray := prog_7_method_1_code
def yX5_init : MethodName := ⟨RX5, "<init>", "()V"⟩
def mX5_init : MD := (yX5_init, cX5_init, 1, none)
abbrev cX5_isMissing : ByteArray := prog_7_method_2_code
def yX5_isMissing : MethodName := ⟨RX5, "isMissing", "()Z"⟩
def mX5_isMissing : MD := (yX5_isMissing, cX5_isMissing, 1, some .boolean)
abbrev cX5_become : ByteArray := prog_7_method_3_code
def yX5_become : MethodName := ⟨RX5, "become", "(II)V"⟩
def mX5_become : MD := (yX5_become, cX5_become, 4, none)
abbrev cX5_put : ByteArray := prog_7_method_4_code
def yX5_put : MethodName := ⟨RX5, "put", "(IJ)V"⟩
def mX5_put : MD := (yX5_put, cX5_put, 4, none)
abbrev cX5_hasRun : ByteArray := prog_7_method_5_code
def yX5_hasRun : MethodName := ⟨RX5, "hasRun", "(II)Z"⟩
def mX5_hasRun : MD := (yX5_hasRun, cX5_hasRun, 3, some .boolean)
abbrev cX6_init : ByteArray := prog_8_method_1_code
def yX6_init : MethodName := ⟨RX6, "<init>", "()V"⟩
def mX6_init : MD := (yX6_init, cX6_init, 1, none)
abbrev cX6_has : ByteArray := prog_8_method_2_code
def yX6_has : MethodName := ⟨RX6, "has", "(I)Z"⟩
def mX6_has : MD := (yX6_has, cX6_has, 2, some .boolean)
abbrev cX6_becomeAhead : ByteArray := prog_8_method_3_code
def yX6_becomeAhead : MethodName := ⟨RX6, "becomeAhead", "(II)V"⟩
def mX6_becomeAhead : MD := (yX6_becomeAhead, cX6_becomeAhead, 4, none)
abbrev cX6_becomeAt : ByteArray := prog_8_method_4_code
def yX6_becomeAt : MethodName := ⟨RX6, "becomeAt", "(II)V"⟩
def mX6_becomeAt : MD := (yX6_becomeAt, cX6_becomeAt, 4, none)
abbrev cX6_becomeLapsed : ByteArray := prog_8_method_5_code
def yX6_becomeLapsed : MethodName := ⟨RX6, "becomeLapsed", "(LRolledPicks$Deal;)V"⟩
def mX6_becomeLapsed : MD := (yX6_becomeLapsed, cX6_becomeLapsed, 3, none)
abbrev cX6_clear : ByteArray := prog_8_method_6_code
def yX6_clear : MethodName := ⟨RX6, "clear", "()V"⟩
def mX6_clear : MD := (yX6_clear, cX6_clear, 2, none)
abbrev cX6_turn : ByteArray := prog_8_method_7_code
def yX6_turn : MethodName := ⟨RX6, "turn", "()V"⟩
def mX6_turn : MD := (yX6_turn, cX6_turn, 2, none)
abbrev cX6_join : ByteArray := prog_8_method_8_code
def yX6_join : MethodName := ⟨RX6, "join", "(LRolledPicks$Standings;)V"⟩
def mX6_join : MD := (yX6_join, cX6_join, 3, none)
abbrev cX6_meet : ByteArray := prog_8_method_9_code
def yX6_meet : MethodName := ⟨RX6, "meet", "(LRolledPicks$Standings;)V"⟩
def mX6_meet : MD := (yX6_meet, cX6_meet, 3, none)
abbrev cX6_set : ByteArray := prog_8_method_10_code
def yX6_set : MethodName := ⟨RX6, "set", "(IZ)V"⟩
def mX6_set : MD := (yX6_set, cX6_set, 6, none)
abbrev cX7_init : ByteArray := prog_9_method_1_code
def yX7_init : MethodName := ⟨RX7, "<init>", "()V"⟩
def mX7_init : MD := (yX7_init, cX7_init, 1, none)
abbrev cX7_add : ByteArray := prog_9_method_2_code
def yX7_add : MethodName := ⟨RX7, "add", "(B)V"⟩
def mX7_add : MD := (yX7_add, cX7_add, 2, none)
abbrev cX7_start : ByteArray := prog_9_method_3_code
def yX7_start : MethodName := ⟨RX7, "start", "()V"⟩
def mX7_start : MD := (yX7_start, cX7_start, 1, none)
abbrev cX7_tokenPlace : ByteArray := prog_9_method_4_code
def yX7_tokenPlace : MethodName := ⟨RX7, "tokenPlace", "()I"⟩
def mX7_tokenPlace : MD := (yX7_tokenPlace, cX7_tokenPlace, 1, some .int)
abbrev cX7_isAtEnd : ByteArray := prog_9_method_5_code
def yX7_isAtEnd : MethodName := ⟨RX7, "isAtEnd", "()Z"⟩
def mX7_isAtEnd : MD := (yX7_isAtEnd, cX7_isAtEnd, 1, some .boolean)
abbrev cX7_takes : ByteArray := prog_9_method_6_code
def yX7_takes : MethodName := ⟨RX7, "takes", "(Ljava/lang/String;)Z"⟩
def mX7_takes : MD := (yX7_takes, cX7_takes, 3, some .boolean)
abbrev cX7_takeNumber : ByteArray := prog_9_method_7_code
def yX7_takeNumber : MethodName := ⟨RX7, "takeNumber", "(III)I"⟩
def mX7_takeNumber : MD := (yX7_takeNumber, cX7_takeNumber, 5, some .int)
abbrev cX7_tokenNumber : ByteArray := prog_9_method_8_code
def yX7_tokenNumber : MethodName := ⟨RX7, "tokenNumber", "()I"⟩
def mX7_tokenNumber : MD := (yX7_tokenNumber, cX7_tokenNumber, 3, some .int)
abbrev cX7_step : ByteArray := prog_9_method_9_code
def yX7_step : MethodName := ⟨RX7, "step", "()V"⟩
def mX7_step : MD := (yX7_step, cX7_step, 2, none)
abbrev cX7_isLetter : ByteArray := prog_9_method_10_code
def yX7_isLetter : MethodName := ⟨RX7, "isLetter", "(B)Z"⟩
def mX7_isLetter : MD := (yX7_isLetter, cX7_isLetter, 1, some .boolean)
abbrev cX7_isDigit : ByteArray := prog_9_method_11_code
def yX7_isDigit : MethodName := ⟨RX7, "isDigit", "(B)Z"⟩
def mX7_isDigit : MD := (yX7_isDigit, cX7_isDigit, 1, some .boolean)
abbrev cX8_init : ByteArray := prog_1_method_1_code
def yX8_init : MethodName := ⟨RX8, "<init>", "()V"⟩
def mX8_init : MD := (yX8_init, cX8_init, 2, none)
abbrev cX8_order : ByteArray := prog_1_method_2_code
def yX8_order : MethodName := ⟨RX8, "order", "(II)I"⟩
def mX8_order : MD := (yX8_order, cX8_order, 3, some .int)
abbrev cX8_place : ByteArray := prog_1_method_3_code
def yX8_place : MethodName := ⟨RX8, "place", "(II)I"⟩
def mX8_place : MD := (yX8_place, cX8_place, 3, some .int)
abbrev cX8_fall : ByteArray := prog_1_method_4_code
def yX8_fall : MethodName := ⟨RX8, "fall", "(I)I"⟩
def mX8_fall : MD := (yX8_fall, cX8_fall, 2, some .int)
abbrev cX8_fallen : ByteArray := prog_1_method_5_code
def yX8_fallen : MethodName := ⟨RX8, "fallen", "(I)I"⟩
def mX8_fallen : MD := (yX8_fallen, cX8_fallen, 2, some .int)
abbrev cX8_draw : ByteArray := prog_1_method_6_code
def yX8_draw : MethodName := ⟨RX8, "draw", "()I"⟩
def mX8_draw : MD := (yX8_draw, cX8_draw, 1, some .int)
abbrev cX8_sale : ByteArray := prog_1_method_7_code
def yX8_sale : MethodName := ⟨RX8, "sale", "(IIIII)I"⟩
def mX8_sale : MD := (yX8_sale, cX8_sale, 7, some .int)
abbrev cX8_swap : ByteArray := prog_1_method_8_code
def yX8_swap : MethodName := ⟨RX8, "swap", "(IIIII)I"⟩
def mX8_swap : MD := (yX8_swap, cX8_swap, 6, some .int)
abbrev cX8_text : ByteArray := prog_1_method_9_code
def yX8_text : MethodName := ⟨RX8, "text", "()I"⟩
def mX8_text : MD := (yX8_text, cX8_text, 4, some .int)
abbrev cX8_of : ByteArray := prog_1_method_10_code
def yX8_of : MethodName := ⟨RX8, "of", "(II)I"⟩
def mX8_of : MD := (yX8_of, cX8_of, 4, some .int)
abbrev cX8_holds : ByteArray := prog_1_method_11_code
def yX8_holds : MethodName := ⟨RX8, "holds", "(II)I"⟩
def mX8_holds : MD := (yX8_holds, cX8_holds, 4, some .int)
abbrev cX8_conveys : ByteArray := prog_1_method_12_code
def yX8_conveys : MethodName := ⟨RX8, "conveys", "(III)I"⟩
def mX8_conveys : MD := (yX8_conveys, cX8_conveys, 6, some .int)
abbrev cX8_drop : ByteArray := prog_1_method_13_code
def yX8_drop : MethodName := ⟨RX8, "drop", "()I"⟩
def mX8_drop : MD := (yX8_drop, cX8_drop, 1, some .int)
abbrev cX8_prune : ByteArray := prog_1_method_14_code
def yX8_prune : MethodName := ⟨RX8, "prune", "()I"⟩
def mX8_prune : MD := (yX8_prune, cX8_prune, 5, some .int)
abbrev cX8_clash : ByteArray := prog_1_method_15_code
def yX8_clash : MethodName := ⟨RX8, "clash", "(I)I"⟩
def mX8_clash : MD := (yX8_clash, cX8_clash, 2, some .int)
abbrev cX8_owner : ByteArray := prog_1_method_16_code
def yX8_owner : MethodName := ⟨RX8, "owner", "(II)I"⟩
def mX8_owner : MD := (yX8_owner, cX8_owner, 3, some .int)
abbrev cX8_chain : ByteArray := prog_1_method_17_code
def yX8_chain : MethodName := ⟨RX8, "chain", "(III)I"⟩
def mX8_chain : MD := (yX8_chain, cX8_chain, 9, some .int)
abbrev cX8_hand : ByteArray := prog_1_method_18_code
def yX8_hand : MethodName := ⟨RX8, "hand", "(II)I"⟩
def mX8_hand : MD := (yX8_hand, cX8_hand, 5, some .int)
abbrev cX8_owners : ByteArray := prog_1_method_19_code
def yX8_owners : MethodName := ⟨RX8, "owners", "(I)I"⟩
def mX8_owners : MD := (yX8_owners, cX8_owners, 2, some .int)
abbrev cX8_sure : ByteArray := prog_1_method_20_code
def yX8_sure : MethodName := ⟨RX8, "sure", "(I)I"⟩
def mX8_sure : MD := (yX8_sure, cX8_sure, 4, some .int)
abbrev cX8_chance : ByteArray := prog_1_method_21_code
def yX8_chance : MethodName := ⟨RX8, "chance", "(II)I"⟩
def mX8_chance : MD := (yX8_chance, cX8_chance, 6, some .int)
abbrev cX8_least : ByteArray := prog_1_method_22_code
def yX8_least : MethodName := ⟨RX8, "least", "(II)I"⟩
def mX8_least : MD := (yX8_least, cX8_least, 5, some .int)
abbrev cX8_price : ByteArray := prog_1_method_23_code
def yX8_price : MethodName := ⟨RX8, "price", "(II)I"⟩
def mX8_price : MD := (yX8_price, cX8_price, 4, some .int)
abbrev cX8_worth : ByteArray := prog_1_method_24_code
def yX8_worth : MethodName := ⟨RX8, "worth", "(II)I"⟩
def mX8_worth : MD := (yX8_worth, cX8_worth, 3, some .int)
abbrev cX8_value : ByteArray := prog_1_method_25_code
def yX8_value : MethodName := ⟨RX8, "value", "(I)J"⟩
def mX8_value : MD := (yX8_value, cX8_value, 2, some .long)
abbrev cX8_best : ByteArray := prog_1_method_26_code
def yX8_best : MethodName := ⟨RX8, "best", "(II)I"⟩
def mX8_best : MD := (yX8_best, cX8_best, 8, some .int)
abbrev cX8_hope : ByteArray := prog_1_method_27_code
def yX8_hope : MethodName := ⟨RX8, "hope", "(I)I"⟩
def mX8_hope : MD := (yX8_hope, cX8_hope, 10, some .int)
abbrev cX8_rounds : ByteArray := prog_1_method_28_code
def yX8_rounds : MethodName := ⟨RX8, "rounds", "(II)I"⟩
def mX8_rounds : MD := (yX8_rounds, cX8_rounds, 4, some .int)
abbrev cX8_lays : ByteArray := prog_1_method_29_code
def yX8_lays : MethodName := ⟨RX8, "lays", "(II)I"⟩
def mX8_lays : MD := (yX8_lays, cX8_lays, 6, some .int)
abbrev cX8_judge : ByteArray := prog_1_method_30_code
def yX8_judge : MethodName := ⟨RX8, "judge", "(II)I"⟩
def mX8_judge : MD := (yX8_judge, cX8_judge, 6, some .int)
abbrev cX8_feed : ByteArray := prog_1_method_31_code
def yX8_feed : MethodName := ⟨RX8, "feed", "(II)I"⟩
def mX8_feed : MD := (yX8_feed, cX8_feed, 4, some .int)
abbrev cX8_wipe : ByteArray := prog_1_method_32_code
def yX8_wipe : MethodName := ⟨RX8, "wipe", "()I"⟩
def mX8_wipe : MD := (yX8_wipe, cX8_wipe, 2, some .int)
abbrev cX8_sheet : ByteArray := prog_1_method_33_code
def yX8_sheet : MethodName := ⟨RX8, "sheet", "(III)I"⟩
def mX8_sheet : MD := (yX8_sheet, cX8_sheet, 4, some .int)
abbrev cX8_write : ByteArray := prog_1_method_34_code
def yX8_write : MethodName := ⟨RX8, "write", "(IIJ)I"⟩
def mX8_write : MD := (yX8_write, cX8_write, 6, some .int)
abbrev cX8_item : ByteArray := prog_1_method_35_code
def yX8_item : MethodName := ⟨RX8, "item", "(II)J"⟩
def mX8_item : MD := (yX8_item, cX8_item, 4, some .long)
abbrev cX8_copy : ByteArray := prog_1_method_36_code
def yX8_copy : MethodName := ⟨RX8, "copy", "(IIIII)I"⟩
def mX8_copy : MD := (yX8_copy, cX8_copy, 8, some .int)
abbrev cX8_hold : ByteArray := prog_1_method_37_code
def yX8_hold : MethodName := ⟨RX8, "hold", "(II)I"⟩
def mX8_hold : MD := (yX8_hold, cX8_hold, 4, some .int)
abbrev cX8_taken : ByteArray := prog_1_method_38_code
def yX8_taken : MethodName := ⟨RX8, "taken", "(II)I"⟩
def mX8_taken : MD := (yX8_taken, cX8_taken, 4, some .int)
abbrev cX8_image : ByteArray := prog_1_method_39_code
def yX8_image : MethodName := ⟨RX8, "image", "()I"⟩
def mX8_image : MD := (yX8_image, cX8_image, 1, some .int)
abbrev cX8_back : ByteArray := prog_1_method_40_code
def yX8_back : MethodName := ⟨RX8, "back", "()I"⟩
def mX8_back : MD := (yX8_back, cX8_back, 1, some .int)
abbrev cX8_seed : ByteArray := prog_1_method_41_code
def yX8_seed : MethodName := ⟨RX8, "seed", "(I)I"⟩
def mX8_seed : MD := (yX8_seed, cX8_seed, 3, some .int)
abbrev cX8_count : ByteArray := prog_1_method_42_code
def yX8_count : MethodName := ⟨RX8, "count", "(I)I"⟩
def mX8_count : MD := (yX8_count, cX8_count, 2, some .int)
abbrev cX8_status : ByteArray := prog_1_method_43_code
def yX8_status : MethodName := ⟨RX8, "status", "(I)I"⟩
def mX8_status : MD := (yX8_status, cX8_status, 4, some .int)
abbrev cX8_isOutside : ByteArray := prog_1_method_44_code
def yX8_isOutside : MethodName := ⟨RX8, "isOutside", "(II)Z"⟩
def mX8_isOutside : MD := (yX8_isOutside, cX8_isOutside, 2, some .boolean)
abbrev cX8_areNoPair : ByteArray := prog_1_method_45_code
def yX8_areNoPair : MethodName := ⟨RX8, "areNoPair", "(II)Z"⟩
def mX8_areNoPair : MD := (yX8_areNoPair, cX8_areNoPair, 2, some .boolean)
abbrev cX8_placeUnder : ByteArray := prog_1_method_46_code
def yX8_placeUnder : MethodName := ⟨RX8, "placeUnder", "(II)I"⟩
def mX8_placeUnder : MD := (yX8_placeUnder, cX8_placeUnder, 3, some .int)
abbrev cX8_isUnder : ByteArray := prog_1_method_47_code
def yX8_isUnder : MethodName := ⟨RX8, "isUnder", "(II)Z"⟩
def mX8_isUnder : MD := (yX8_isUnder, cX8_isUnder, 4, some .boolean)
abbrev cX8_finding : ByteArray := prog_1_method_48_code
def yX8_finding : MethodName := ⟨RX8, "finding", "(I)I"⟩
def mX8_finding : MD := (yX8_finding, cX8_finding, 2, some .int)
abbrev cX8_longFinding : ByteArray := prog_1_method_49_code
def yX8_longFinding : MethodName := ⟨RX8, "longFinding", "(I)J"⟩
def mX8_longFinding : MD := (yX8_longFinding, cX8_longFinding, 2, some .long)
abbrev cX8_enter : ByteArray := prog_1_method_50_code
def yX8_enter : MethodName := ⟨RX8, "enter", "(LRolledPicks$Deal;)I"⟩
def mX8_enter : MD := (yX8_enter, cX8_enter, 2, some .int)
abbrev cX8_takes : ByteArray := prog_1_method_51_code
def yX8_takes : MethodName := ⟨RX8, "takes", "(LRolledPicks$Deal;)Z"⟩
def mX8_takes : MD := (yX8_takes, cX8_takes, 5, some .boolean)
abbrev cX8_clashesUnder : ByteArray := prog_1_method_52_code
def yX8_clashesUnder : MethodName := ⟨RX8, "clashesUnder", "(ILRolledPicks$Deal;)Z"⟩
def mX8_clashesUnder : MD := (yX8_clashesUnder, cX8_clashesUnder, 8, some .boolean)
abbrev cX8_settleAll : ByteArray := prog_1_method_53_code
def yX8_settleAll : MethodName := ⟨RX8, "settleAll", "()V"⟩
def mX8_settleAll : MD := (yX8_settleAll, cX8_settleAll, 4, none)
abbrev cX8_countConveying : ByteArray := prog_1_method_54_code
def yX8_countConveying : MethodName := ⟨RX8, "countConveying", "(LRolledPicks$Deal;)I"⟩
def mX8_countConveying : MD := (yX8_countConveying, cX8_countConveying, 5, some .int)
abbrev cX8_everOwners : ByteArray := prog_1_method_55_code
def yX8_everOwners : MethodName := ⟨RX8, "everOwners", "(I)I"⟩
def mX8_everOwners : MD := (yX8_everOwners, cX8_everOwners, 5, some .int)
abbrev cX8_worthUnder : ByteArray := prog_1_method_56_code
def yX8_worthUnder : MethodName := ⟨RX8, "worthUnder", "(II)I"⟩
def mX8_worthUnder : MD := (yX8_worthUnder, cX8_worthUnder, 5, some .int)
abbrev cX8_worthOver : ByteArray := prog_1_method_57_code
def yX8_worthOver : MethodName := ⟨RX8, "worthOver", "(III)J"⟩
def mX8_worthOver : MD := (yX8_worthOver, cX8_worthOver, 7, some .long)
abbrev cX8_tellsEachDeal : ByteArray := prog_1_method_58_code
def yX8_tellsEachDeal : MethodName := ⟨RX8, "tellsEachDeal", "(LRolledPicks$Sheet;)Z"⟩
def mX8_tellsEachDeal : MD := (yX8_tellsEachDeal, cX8_tellsEachDeal, 6, some .boolean)
abbrev cX8_countRounds : ByteArray := prog_1_method_59_code
def yX8_countRounds : MethodName := ⟨RX8, "countRounds", "(LRolledPicks$Sheet;I)I"⟩
def mX8_countRounds : MD := (yX8_countRounds, cX8_countRounds, 5, some .int)
abbrev cX8_goesOver : ByteArray := prog_1_method_60_code
def yX8_goesOver : MethodName := ⟨RX8, "goesOver", "(LRolledPicks$Sheet;LRolledPicks$Rounds;)Z"⟩
def mX8_goesOver : MD := (yX8_goesOver, cX8_goesOver, 7, some .boolean)
abbrev cX8_countHeld : ByteArray := prog_1_method_61_code
def yX8_countHeld : MethodName := ⟨RX8, "countHeld", "()I"⟩
def mX8_countHeld : MD := (yX8_countHeld, cX8_countHeld, 3, some .int)
abbrev cX9_init : ByteArray := prog_11_method_1_code
def yX9_init : MethodName := ⟨RX9, "<init>", "()V"⟩
def mX9_init : MD := (yX9_init, cX9_init, 1, none)
abbrev cX9_in : ByteArray := prog_11_method_3_code
def yX9_in : MethodName := ⟨RX9, "in", "(JJJ)Z"⟩
def mX9_in : MD := (yX9_in, cX9_in, 6, some .boolean)
abbrev cX9_finds : ByteArray := prog_11_method_4_code
def yX9_finds : MethodName := ⟨RX9, "finds", "(I)I"⟩
def mX9_finds : MD := (yX9_finds, cX9_finds, 2, some .int)
abbrev cX9_findsFar : ByteArray := prog_11_method_5_code
def yX9_findsFar : MethodName := ⟨RX9, "findsFar", "(I)J"⟩
def mX9_findsFar : MD := (yX9_findsFar, cX9_findsFar, 2, some .long)
abbrev cX9_clubAt : ByteArray := prog_11_method_6_code
def yX9_clubAt : MethodName := ⟨RX9, "clubAt", "(II)I"⟩
def mX9_clubAt : MD := (yX9_clubAt, cX9_clubAt, 5, some .int)
abbrev cX9_orderIn : ByteArray := prog_11_method_7_code
def yX9_orderIn : MethodName := ⟨RX9, "orderIn", "(II)I"⟩
def mX9_orderIn : MD := (yX9_orderIn, cX9_orderIn, 2, some .int)
abbrev cX9_placeIn : ByteArray := prog_11_method_8_code
def yX9_placeIn : MethodName := ⟨RX9, "placeIn", "(III)I"⟩
def mX9_placeIn : MD := (yX9_placeIn, cX9_placeIn, 4, some .int)
abbrev cX9_placeOf : ByteArray := prog_11_method_9_code
def yX9_placeOf : MethodName := ⟨RX9, "placeOf", "(II)I"⟩
def mX9_placeOf : MD := (yX9_placeOf, cX9_placeOf, 2, some .int)
abbrev cX9_isStanding : ByteArray := prog_11_method_10_code
def yX9_isStanding : MethodName := ⟨RX9, "isStanding", "(I)Z"⟩
def mX9_isStanding : MD := (yX9_isStanding, cX9_isStanding, 1, some .boolean)
abbrev cX9_isPick : ByteArray := prog_11_method_11_code
def yX9_isPick : MethodName := ⟨RX9, "isPick", "(I)Z"⟩
def mX9_isPick : MD := (yX9_isPick, cX9_isPick, 1, some .boolean)
abbrev cX9_isClub : ByteArray := prog_11_method_12_code
def yX9_isClub : MethodName := ⟨RX9, "isClub", "(I)Z"⟩
def mX9_isClub : MD := (yX9_isClub, cX9_isClub, 1, some .boolean)
abbrev cX9_openFrom : ByteArray := prog_11_method_13_code
def yX9_openFrom : MethodName := ⟨RX9, "openFrom", "()I"⟩
def mX9_openFrom : MD := (yX9_openFrom, cX9_openFrom, 4, some .int)
abbrev cX9_openMany : ByteArray := prog_11_method_14_code
def yX9_openMany : MethodName := ⟨RX9, "openMany", "()I"⟩
def mX9_openMany : MD := (yX9_openMany, cX9_openMany, 3, some .int)
abbrev cX9_isOpen : ByteArray := prog_11_method_15_code
def yX9_isOpen : MethodName := ⟨RX9, "isOpen", "(I)Z"⟩
def mX9_isOpen : MD := (yX9_isOpen, cX9_isOpen, 2, some .boolean)
abbrev cX9_order : ByteArray := prog_11_method_16_code
def yX9_order : MethodName := ⟨RX9, "order", "(II)I"⟩
def mX9_order : MD := (yX9_order, cX9_order, 3, some .int)
abbrev cX9_place : ByteArray := prog_11_method_17_code
def yX9_place : MethodName := ⟨RX9, "place", "(II)I"⟩
def mX9_place : MD := (yX9_place, cX9_place, 3, some .int)
abbrev cX9_fall : ByteArray := prog_11_method_18_code
def yX9_fall : MethodName := ⟨RX9, "fall", "(I)I"⟩
def mX9_fall : MD := (yX9_fall, cX9_fall, 2, some .int)
abbrev cX9_fallen : ByteArray := prog_11_method_19_code
def yX9_fallen : MethodName := ⟨RX9, "fallen", "(I)I"⟩
def mX9_fallen : MD := (yX9_fallen, cX9_fallen, 2, some .int)
abbrev cX9_draw : ByteArray := prog_11_method_20_code
def yX9_draw : MethodName := ⟨RX9, "draw", "()I"⟩
def mX9_draw : MD := (yX9_draw, cX9_draw, 1, some .int)
abbrev cX9_its : ByteArray := prog_11_method_21_code
def yX9_its : MethodName := ⟨RX9, "its", "(II)I"⟩
def mX9_its : MD := (yX9_its, cX9_its, 3, some .int)
abbrev cX9_isHolding : ByteArray := prog_11_method_22_code
def yX9_isHolding : MethodName := ⟨RX9, "isHolding", "(II)Z"⟩
def mX9_isHolding : MD := (yX9_isHolding, cX9_isHolding, 3, some .boolean)
abbrev cX9_goesOn : ByteArray := prog_11_method_23_code
def yX9_goesOn : MethodName := ⟨RX9, "goesOn", "(II)I"⟩
def mX9_goesOn : MD := (yX9_goesOn, cX9_goesOn, 6, some .int)
abbrev cX9_rolled : ByteArray := prog_11_method_24_code
def yX9_rolled : MethodName := ⟨RX9, "rolled", "(III)I"⟩
def mX9_rolled : MD := (yX9_rolled, cX9_rolled, 4, some .int)
abbrev cX9_conveyed : ByteArray := prog_11_method_25_code
def yX9_conveyed : MethodName := ⟨RX9, "conveyed", "(III)I"⟩
def mX9_conveyed : MD := (yX9_conveyed, cX9_conveyed, 5, some .int)
abbrev cX9_isLapsing : ByteArray := prog_11_method_26_code
def yX9_isLapsing : MethodName := ⟨RX9, "isLapsing", "(II)Z"⟩
def mX9_isLapsing : MD := (yX9_isLapsing, cX9_isLapsing, 3, some .boolean)
abbrev cX9_laysOut : ByteArray := prog_11_method_27_code
def yX9_laysOut : MethodName := ⟨RX9, "laysOut", "(I)V"⟩
def mX9_laysOut : MD := (yX9_laysOut, cX9_laysOut, 3, none)
abbrev cX9_goesTo : ByteArray := prog_11_method_28_code
def yX9_goesTo : MethodName := ⟨RX9, "goesTo", "(II)I"⟩
def mX9_goesTo : MD := (yX9_goesTo, cX9_goesTo, 6, some .int)
abbrev cX9_chains : ByteArray := prog_11_method_29_code
def yX9_chains : MethodName := ⟨RX9, "chains", "(I)Z"⟩
def mX9_chains : MD := (yX9_chains, cX9_chains, 4, some .boolean)
abbrev cX9_clashOf : ByteArray := prog_11_method_30_code
def yX9_clashOf : MethodName := ⟨RX9, "clashOf", "(I)I"⟩
def mX9_clashOf : MD := (yX9_clashOf, cX9_clashOf, 4, some .int)
abbrev cX9_isClashing : ByteArray := prog_11_method_31_code
def yX9_isClashing : MethodName := ⟨RX9, "isClashing", "()Z"⟩
def mX9_isClashing : MD := (yX9_isClashing, cX9_isClashing, 5, some .boolean)
abbrev cX9_lays : ByteArray := prog_11_method_32_code
def yX9_lays : MethodName := ⟨RX9, "lays", "(IIIIIII)V"⟩
def mX9_lays : MD := (yX9_lays, cX9_lays, 9, none)
abbrev cX9_holdsAlways : ByteArray := prog_11_method_33_code
def yX9_holdsAlways : MethodName := ⟨RX9, "holdsAlways", "()V"⟩
def mX9_holdsAlways : MD := (yX9_holdsAlways, cX9_holdsAlways, 2, none)
abbrev cX9_comes : ByteArray := prog_11_method_34_code
def yX9_comes : MethodName := ⟨RX9, "comes", "(IIIIII)I"⟩
def mX9_comes : MD := (yX9_comes, cX9_comes, 7, some .int)
abbrev cX9_areTwo : ByteArray := prog_11_method_35_code
def yX9_areTwo : MethodName := ⟨RX9, "areTwo", "(II)Z"⟩
def mX9_areTwo : MD := (yX9_areTwo, cX9_areTwo, 2, some .boolean)
abbrev cX9_sale : ByteArray := prog_11_method_36_code
def yX9_sale : MethodName := ⟨RX9, "sale", "(IIIII)I"⟩
def mX9_sale : MD := (yX9_sale, cX9_sale, 7, some .int)
abbrev cX9_areOfYear : ByteArray := prog_11_method_37_code
def yX9_areOfYear : MethodName := ⟨RX9, "areOfYear", "(II)Z"⟩
def mX9_areOfYear : MD := (yX9_areOfYear, cX9_areOfYear, 2, some .boolean)
abbrev cX9_swap : ByteArray := prog_11_method_38_code
def yX9_swap : MethodName := ⟨RX9, "swap", "(IIIII)I"⟩
def mX9_swap : MD := (yX9_swap, cX9_swap, 6, some .int)
abbrev cX9_isDeal : ByteArray := prog_11_method_39_code
def yX9_isDeal : MethodName := ⟨RX9, "isDeal", "(I)Z"⟩
def mX9_isDeal : MD := (yX9_isDeal, cX9_isDeal, 2, some .boolean)
abbrev cX9_standing : ByteArray := prog_11_method_40_code
def yX9_standing : MethodName := ⟨RX9, "standing", "(I)I"⟩
def mX9_standing : MD := (yX9_standing, cX9_standing, 5, some .int)
abbrev cX9_of : ByteArray := prog_11_method_41_code
def yX9_of : MethodName := ⟨RX9, "of", "(II)I"⟩
def mX9_of : MD := (yX9_of, cX9_of, 3, some .int)
abbrev cX9_holds : ByteArray := prog_11_method_42_code
def yX9_holds : MethodName := ⟨RX9, "holds", "(II)I"⟩
def mX9_holds : MD := (yX9_holds, cX9_holds, 3, some .int)
abbrev cX9_conveys : ByteArray := prog_11_method_43_code
def yX9_conveys : MethodName := ⟨RX9, "conveys", "(III)I"⟩
def mX9_conveys : MD := (yX9_conveys, cX9_conveys, 5, some .int)
abbrev cX9_drop : ByteArray := prog_11_method_44_code
def yX9_drop : MethodName := ⟨RX9, "drop", "()I"⟩
def mX9_drop : MD := (yX9_drop, cX9_drop, 1, some .int)
abbrev cX9_moves : ByteArray := prog_11_method_45_code
def yX9_moves : MethodName := ⟨RX9, "moves", "(II)V"⟩
def mX9_moves : MD := (yX9_moves, cX9_moves, 4, none)
abbrev cX9_prune : ByteArray := prog_11_method_46_code
def yX9_prune : MethodName := ⟨RX9, "prune", "()I"⟩
def mX9_prune : MD := (yX9_prune, cX9_prune, 3, some .int)
abbrev cX9_clash : ByteArray := prog_11_method_47_code
def yX9_clash : MethodName := ⟨RX9, "clash", "(I)I"⟩
def mX9_clash : MD := (yX9_clash, cX9_clash, 2, some .int)
abbrev cX9_ownerOf : ByteArray := prog_11_method_48_code
def yX9_ownerOf : MethodName := ⟨RX9, "ownerOf", "(I)I"⟩
def mX9_ownerOf : MD := (yX9_ownerOf, cX9_ownerOf, 2, some .int)
abbrev cX9_ownerUnder : ByteArray := prog_11_method_49_code
def yX9_ownerUnder : MethodName := ⟨RX9, "ownerUnder", "(II)I"⟩
def mX9_ownerUnder : MD := (yX9_ownerUnder, cX9_ownerUnder, 3, some .int)
abbrev cX9_owner : ByteArray := prog_11_method_50_code
def yX9_owner : MethodName := ⟨RX9, "owner", "(II)I"⟩
def mX9_owner : MD := (yX9_owner, cX9_owner, 3, some .int)
abbrev cX9_chain : ByteArray := prog_11_method_51_code
def yX9_chain : MethodName := ⟨RX9, "chain", "(III)I"⟩
def mX9_chain : MD := (yX9_chain, cX9_chain, 4, some .int)
abbrev cX9_hand : ByteArray := prog_11_method_52_code
def yX9_hand : MethodName := ⟨RX9, "hand", "(II)I"⟩
def mX9_hand : MD := (yX9_hand, cX9_hand, 5, some .int)
abbrev cX9_chanceOf : ByteArray := prog_11_method_53_code
def yX9_chanceOf : MethodName := ⟨RX9, "chanceOf", "(II)I"⟩
def mX9_chanceOf : MD := (yX9_chanceOf, cX9_chanceOf, 6, some .int)
abbrev cX9_owners : ByteArray := prog_11_method_54_code
def yX9_owners : MethodName := ⟨RX9, "owners", "(I)I"⟩
def mX9_owners : MD := (yX9_owners, cX9_owners, 4, some .int)
abbrev cX9_sure : ByteArray := prog_11_method_55_code
def yX9_sure : MethodName := ⟨RX9, "sure", "(I)I"⟩
def mX9_sure : MD := (yX9_sure, cX9_sure, 3, some .int)
abbrev cX9_chance : ByteArray := prog_11_method_56_code
def yX9_chance : MethodName := ⟨RX9, "chance", "(II)I"⟩
def mX9_chance : MD := (yX9_chance, cX9_chance, 3, some .int)
abbrev cX9_least : ByteArray := prog_11_method_57_code
def yX9_least : MethodName := ⟨RX9, "least", "(II)I"⟩
def mX9_least : MD := (yX9_least, cX9_least, 5, some .int)
abbrev cX9_price : ByteArray := prog_11_method_58_code
def yX9_price : MethodName := ⟨RX9, "price", "(II)I"⟩
def mX9_price : MD := (yX9_price, cX9_price, 4, some .int)
abbrev cX9_worthOf : ByteArray := prog_11_method_59_code
def yX9_worthOf : MethodName := ⟨RX9, "worthOf", "(II)I"⟩
def mX9_worthOf : MD := (yX9_worthOf, cX9_worthOf, 5, some .int)
abbrev cX9_worth : ByteArray := prog_11_method_60_code
def yX9_worth : MethodName := ⟨RX9, "worth", "(II)I"⟩
def mX9_worth : MD := (yX9_worth, cX9_worth, 3, some .int)
abbrev cX9_valueFrom : ByteArray := prog_11_method_61_code
def yX9_valueFrom : MethodName := ⟨RX9, "valueFrom", "(III)J"⟩
def mX9_valueFrom : MD := (yX9_valueFrom, cX9_valueFrom, 7, some .long)
abbrev cX9_value : ByteArray := prog_11_method_62_code
def yX9_value : MethodName := ⟨RX9, "value", "(I)J"⟩
def mX9_value : MD := (yX9_value, cX9_value, 2, some .long)
abbrev cX9_best : ByteArray := prog_11_method_63_code
def yX9_best : MethodName := ⟨RX9, "best", "(II)I"⟩
def mX9_best : MD := (yX9_best, cX9_best, 8, some .int)
abbrev cX9_hope : ByteArray := prog_11_method_64_code
def yX9_hope : MethodName := ⟨RX9, "hope", "(I)I"⟩
def mX9_hope : MD := (yX9_hope, cX9_hope, 9, some .int)
abbrev cX9_feed : ByteArray := prog_11_method_65_code
def yX9_feed : MethodName := ⟨RX9, "feed", "(II)I"⟩
def mX9_feed : MD := (yX9_feed, cX9_feed, 4, some .int)
abbrev cX9_wipe : ByteArray := prog_11_method_66_code
def yX9_wipe : MethodName := ⟨RX9, "wipe", "()I"⟩
def mX9_wipe : MD := (yX9_wipe, cX9_wipe, 2, some .int)
abbrev cX9_byteAt : ByteArray := prog_11_method_67_code
def yX9_byteAt : MethodName := ⟨RX9, "byteAt", "(I)I"⟩
def mX9_byteAt : MD := (yX9_byteAt, cX9_byteAt, 2, some .int)
abbrev cX9_isLetter : ByteArray := prog_11_method_68_code
def yX9_isLetter : MethodName := ⟨RX9, "isLetter", "(I)Z"⟩
def mX9_isLetter : MD := (yX9_isLetter, cX9_isLetter, 1, some .boolean)
abbrev cX9_isDigit : ByteArray := prog_11_method_69_code
def yX9_isDigit : MethodName := ⟨RX9, "isDigit", "(I)Z"⟩
def mX9_isDigit : MD := (yX9_isDigit, cX9_isDigit, 1, some .boolean)
abbrev cX9_token : ByteArray := prog_11_method_70_code
def yX9_token : MethodName := ⟨RX9, "token", "()V"⟩
def mX9_token : MD := (yX9_token, cX9_token, 3, none)
abbrev cX9_must : ByteArray := prog_11_method_71_code
def yX9_must : MethodName := ⟨RX9, "must", "(Z)V"⟩
def mX9_must : MD := (yX9_must, cX9_must, 2, none)
abbrev cX9_isWord : ByteArray := prog_11_method_72_code
def yX9_isWord : MethodName := ⟨RX9, "isWord", "(I)Z"⟩
def mX9_isWord : MD := (yX9_isWord, cX9_isWord, 4, some .boolean)
abbrev cX9_takes : ByteArray := prog_11_method_73_code
def yX9_takes : MethodName := ⟨RX9, "takes", "(I)Z"⟩
def mX9_takes : MD := (yX9_takes, cX9_takes, 3, some .boolean)
abbrev cX9_isSign : ByteArray := prog_11_method_74_code
def yX9_isSign : MethodName := ⟨RX9, "isSign", "(I)Z"⟩
def mX9_isSign : MD := (yX9_isSign, cX9_isSign, 2, some .boolean)
abbrev cX9_numberHere : ByteArray := prog_11_method_75_code
def yX9_numberHere : MethodName := ⟨RX9, "numberHere", "()I"⟩
def mX9_numberHere : MD := (yX9_numberHere, cX9_numberHere, 3, some .int)
abbrev cX9_number : ByteArray := prog_11_method_76_code
def yX9_number : MethodName := ⟨RX9, "number", "(II)I"⟩
def mX9_number : MD := (yX9_number, cX9_number, 4, some .int)
abbrev cX9_codes : ByteArray := prog_11_method_77_code
def yX9_codes : MethodName := ⟨RX9, "codes", "(I)V"⟩
def mX9_codes : MD := (yX9_codes, cX9_codes, 2, none)
abbrev cX9_three : ByteArray := prog_11_method_78_code
def yX9_three : MethodName := ⟨RX9, "three", "(IZ)V"⟩
def mX9_three : MD := (yX9_three, cX9_three, 6, none)
abbrev cX9_factor : ByteArray := prog_11_method_79_code
def yX9_factor : MethodName := ⟨RX9, "factor", "()V"⟩
def mX9_factor : MD := (yX9_factor, cX9_factor, 2, none)
abbrev cX9_both : ByteArray := prog_11_method_80_code
def yX9_both : MethodName := ⟨RX9, "both", "()V"⟩
def mX9_both : MD := (yX9_both, cX9_both, 1, none)
abbrev cX9_either : ByteArray := prog_11_method_81_code
def yX9_either : MethodName := ⟨RX9, "either", "()V"⟩
def mX9_either : MD := (yX9_either, cX9_either, 1, none)
abbrev cX9_isTest : ByteArray := prog_11_method_82_code
def yX9_isTest : MethodName := ⟨RX9, "isTest", "(II)Z"⟩
def mX9_isTest : MD := (yX9_isTest, cX9_isTest, 5, some .boolean)
abbrev cX9_isTrue : ByteArray := prog_11_method_83_code
def yX9_isTrue : MethodName := ⟨RX9, "isTrue", "(I)Z"⟩
def mX9_isTrue : MD := (yX9_isTrue, cX9_isTrue, 4, some .boolean)
abbrev cX9_laysCondition : ByteArray := prog_11_method_84_code
def yX9_laysCondition : MethodName := ⟨RX9, "laysCondition", "()V"⟩
def mX9_laysCondition : MD := (yX9_laysCondition, cX9_laysCondition, 2, none)
abbrev cX9_isItemClashing : ByteArray := prog_11_method_85_code
def yX9_isItemClashing : MethodName := ⟨RX9, "isItemClashing", "()Z"⟩
def mX9_isItemClashing : MD := (yX9_isItemClashing, cX9_isItemClashing, 8, some .boolean)
abbrev cX9_isTextClashing : ByteArray := prog_11_method_86_code
def yX9_isTextClashing : MethodName := ⟨RX9, "isTextClashing", "()Z"⟩
def mX9_isTextClashing : MD := (yX9_isTextClashing, cX9_isTextClashing, 2, some .boolean)
abbrev cX9_text : ByteArray := prog_11_method_87_code
def yX9_text : MethodName := ⟨RX9, "text", "()I"⟩
def mX9_text : MD := (yX9_text, cX9_text, 4, some .int)
abbrev cX9_isSheet : ByteArray := prog_11_method_88_code
def yX9_isSheet : MethodName := ⟨RX9, "isSheet", "(I)Z"⟩
def mX9_isSheet : MD := (yX9_isSheet, cX9_isSheet, 1, some .boolean)
abbrev cX9_sheet : ByteArray := prog_11_method_89_code
def yX9_sheet : MethodName := ⟨RX9, "sheet", "(III)I"⟩
def mX9_sheet : MD := (yX9_sheet, cX9_sheet, 5, some .int)
abbrev cX9_narrowed : ByteArray := prog_11_method_90_code
def yX9_narrowed : MethodName := ⟨RX9, "narrowed", "(IJ)J"⟩
def mX9_narrowed : MD := (yX9_narrowed, cX9_narrowed, 3, some .long)
abbrev cX9_write : ByteArray := prog_11_method_91_code
def yX9_write : MethodName := ⟨RX9, "write", "(IIJ)I"⟩
def mX9_write : MD := (yX9_write, cX9_write, 5, some .int)
abbrev cX9_item : ByteArray := prog_11_method_92_code
def yX9_item : MethodName := ⟨RX9, "item", "(II)J"⟩
def mX9_item : MD := (yX9_item, cX9_item, 3, some .long)
abbrev cX9_copy : ByteArray := prog_11_method_93_code
def yX9_copy : MethodName := ⟨RX9, "copy", "(IIIII)I"⟩
def mX9_copy : MD := (yX9_copy, cX9_copy, 7, some .int)
abbrev cX9_areAll : ByteArray := prog_11_method_94_code
def yX9_areAll : MethodName := ⟨RX9, "areAll", "(I)Z"⟩
def mX9_areAll : MD := (yX9_areAll, cX9_areAll, 6, some .boolean)
abbrev cX9_goesBy : ByteArray := prog_11_method_95_code
def yX9_goesBy : MethodName := ⟨RX9, "goesBy", "(II)Z"⟩
def mX9_goesBy : MD := (yX9_goesBy, cX9_goesBy, 4, some .boolean)
abbrev cX9_goesOver : ByteArray := prog_11_method_96_code
def yX9_goesOver : MethodName := ⟨RX9, "goesOver", "(I)Z"⟩
def mX9_goesOver : MD := (yX9_goesOver, cX9_goesOver, 7, some .boolean)
abbrev cX9_rounds : ByteArray := prog_11_method_97_code
def yX9_rounds : MethodName := ⟨RX9, "rounds", "(II)I"⟩
def mX9_rounds : MD := (yX9_rounds, cX9_rounds, 4, some .int)
abbrev cX9_lays_ : ByteArray := prog_11_method_98_code
def yX9_lays_ : MethodName := ⟨RX9, "lays", "(II)I"⟩
def mX9_lays_ : MD := (yX9_lays_, cX9_lays_, 4, some .int)
abbrev cX9_judge : ByteArray := prog_11_method_99_code
def yX9_judge : MethodName := ⟨RX9, "judge", "(II)I"⟩
def mX9_judge : MD := (yX9_judge, cX9_judge, 4, some .int)
abbrev cX9_isSpot : ByteArray := prog_11_method_100_code
def yX9_isSpot : MethodName := ⟨RX9, "isSpot", "(I)Z"⟩
def mX9_isSpot : MD := (yX9_isSpot, cX9_isSpot, 1, some .boolean)
abbrev cX9_hold : ByteArray := prog_11_method_101_code
def yX9_hold : MethodName := ⟨RX9, "hold", "(II)I"⟩
def mX9_hold : MD := (yX9_hold, cX9_hold, 3, some .int)
abbrev cX9_isUnder : ByteArray := prog_11_method_102_code
def yX9_isUnder : MethodName := ⟨RX9, "isUnder", "(II)Z"⟩
def mX9_isUnder : MD := (yX9_isUnder, cX9_isUnder, 2, some .boolean)
abbrev cX9_taken : ByteArray := prog_11_method_103_code
def yX9_taken : MethodName := ⟨RX9, "taken", "(II)I"⟩
def mX9_taken : MD := (yX9_taken, cX9_taken, 5, some .int)
abbrev cX9_image : ByteArray := prog_11_method_104_code
def yX9_image : MethodName := ⟨RX9, "image", "()I"⟩
def mX9_image : MD := (yX9_image, cX9_image, 3, some .int)
abbrev cX9_back : ByteArray := prog_11_method_105_code
def yX9_back : MethodName := ⟨RX9, "back", "()I"⟩
def mX9_back : MD := (yX9_back, cX9_back, 3, some .int)
abbrev cX9_seed : ByteArray := prog_11_method_106_code
def yX9_seed : MethodName := ⟨RX9, "seed", "(I)I"⟩
def mX9_seed : MD := (yX9_seed, cX9_seed, 3, some .int)
abbrev cX9_count : ByteArray := prog_11_method_107_code
def yX9_count : MethodName := ⟨RX9, "count", "(I)I"⟩
def mX9_count : MD := (yX9_count, cX9_count, 2, some .int)
abbrev cX9_status : ByteArray := prog_11_method_108_code
def yX9_status : MethodName := ⟨RX9, "status", "(I)I"⟩
def mX9_status : MD := (yX9_status, cX9_status, 4, some .int)
abbrev cJ9_min_7cf53 : ByteArray := prog_12_method_69_code
def yJ9_min_7cf53 : MethodName := ⟨RJ9, "min", "(II)I"⟩
def mJ9_min_7cf53 : MD := (yJ9_min_7cf53, cJ9_min_7cf53, 2, some .int)
abbrev cJ0_length_8abf5 : ByteArray := prog_13_method_54_code
def yJ0_length_8abf5 : MethodName := ⟨RJ0, "length", "()I"⟩
def mJ0_length_8abf5 : MD := (yJ0_length_8abf5, cJ0_length_8abf5, 1, some .int)
abbrev cJ0_charAt_5068e : ByteArray := prog_13_method_56_code
def yJ0_charAt_5068e : MethodName := ⟨RJ0, "charAt", "(I)C"⟩
def mJ0_charAt_5068e : MD := (yJ0_charAt_5068e, cJ0_charAt_5068e, 2, some .char)
abbrev cJ0_coder_7d493 : ByteArray := prog_13_method_152_code
def yJ0_coder_7d493 : MethodName := ⟨RJ0, "coder", "()B"⟩
def mJ0_coder_7d493 : MD := (yJ0_coder_7d493, cJ0_coder_7d493, 1, some .byte)
abbrev cJ0_isLatin1_aae02 : ByteArray := prog_13_method_154_code
def yJ0_isLatin1_aae02 : MethodName := ⟨RJ0, "isLatin1", "()Z"⟩
def mJ0_isLatin1_aae02 : MD := (yJ0_isLatin1_aae02, cJ0_isLatin1_aae02, 1, some .boolean)
abbrev cJ0_checkIndex_df160 : ByteArray := prog_13_method_155_code
def yJ0_checkIndex_df160 : MethodName := ⟨RJ0, "checkIndex", "(II)V"⟩
def mJ0_checkIndex_df160 : MD := (yJ0_checkIndex_df160, cJ0_checkIndex_df160, 2, none)
abbrev cJ1_charAt_3b067 : ByteArray := prog_14_method_2_code
def yJ1_charAt_3b067 : MethodName := ⟨RJ1, "charAt", "([BI)C"⟩
def mJ1_charAt_3b067 : MD := (yJ1_charAt_3b067, cJ1_charAt_3b067, 2, some .char)
abbrev cJ2_getChar_3b067 : ByteArray := prog_15_method_5_code
def yJ2_getChar_3b067 : MethodName := ⟨RJ2, "getChar", "([BI)C"⟩
def mJ2_getChar_3b067 : MD := (yJ2_getChar_3b067, cJ2_getChar_3b067, 2, some .char)
abbrev cJ2_length_9d52b : ByteArray := prog_15_method_6_code
def yJ2_length_9d52b : MethodName := ⟨RJ2, "length", "([B)I"⟩
def mJ2_length_9d52b : MD := (yJ2_length_9d52b, cJ2_length_9d52b, 1, some .int)
abbrev cJ2_charAt_3b067 : ByteArray := prog_15_method_83_code
def yJ2_charAt_3b067 : MethodName := ⟨RJ2, "charAt", "([BI)C"⟩
def mJ2_charAt_3b067 : MD := (yJ2_charAt_3b067, cJ2_charAt_3b067, 2, some .char)
abbrev cJ2_checkIndex_2214a : ByteArray := prog_15_method_91_code
def yJ2_checkIndex_2214a : MethodName := ⟨RJ2, "checkIndex", "(I[B)V"⟩
def mJ2_checkIndex_2214a : MD := (yJ2_checkIndex_2214a, cJ2_checkIndex_2214a, 2, none)
abbrev cJ3_checkIndex_8e157 : ByteArray := prog_17_method_11_code
def yJ3_checkIndex_8e157 : MethodName := ⟨RJ3, "checkIndex", "(IILjava/util/function/BiFunction;)I"⟩
def mJ3_checkIndex_8e157 : MD := (yJ3_checkIndex_8e157, cJ3_checkIndex_8e157, 3, some .int)
end
section
/-! THE LOGIC: a heap of my own (typed contents by address), values of my own, and 'Ev': from here the machine comes to the method's end with Q. One rule an instruction (part 04), out of the kit's rows. -/
def TT : List Cond := lw_tbl.filter goodWord
theorem tt_of {w : Cond} (i : Nat) (h : lw_tbl[i]? = some w) (g : goodWord w = true) : w ∈ TT := List.mem_filter.mpr ⟨List.mem_of_getElem? h, g⟩
theorem tt_in {w : Cond} (h : w ∈ TT) : w ∈ lw_tbl := (List.mem_filter.mp h).1
theorem tt_good {w : Cond} (h : w ∈ TT) : goodWord w = true := (List.mem_filter.mp h).2
theorem tt_goodIn {ws : List Cond} (h : ∀ w ∈ ws, w ∈ TT) : GoodIn TT ws := fun w hw => ⟨h w hw, good_of_word (tt_good (h w hw))⟩
/-- values: ints, longs, references (none: null; else an address of mine) -/
abbrev VV : Type := Int32 ⊕ (Int64 ⊕ Option Nat)
abbrev vI (x : Int32) : VV := .inl x
abbrev vL (x : Int64) : VV := .inr (.inl x)
abbrev vR (r : Option Nat) : VV := .inr (.inr r)
/-- a heap: ints, longs, references by address and place; the kind of each address, its length, the next address -/
abbrev HP : Type := (Nat → Nat → Int32) × (Nat → Nat → Int64) × (Nat → Nat → Option Nat) × (Nat → Nat) × (Nat → Nat) × Nat
abbrev hI (h : HP) : Nat → Nat → Int32 := h.1
abbrev hL (h : HP) : Nat → Nat → Int64 := h.2.1
abbrev hR (h : HP) : Nat → Nat → Option Nat := h.2.2.1
abbrev hT (h : HP) : Nat → Nat := h.2.2.2.1
abbrev hN (h : HP) : Nat → Nat := h.2.2.2.2.1
abbrev hZ (h : HP) : Nat := h.2.2.2.2.2
def up2 {α : Type} (f : Nat → Nat → α) (a i : Nat) (v : α) : Nat → Nat → α := fun b j => if b = a ∧ j = i then v else f b j
def wI (h : HP) (a i : Nat) (v : Int32) : HP := (up2 h.1 a i v, h.2)
def wL (h : HP) (a i : Nat) (v : Int64) : HP := (h.1, up2 h.2.1 a i v, h.2.2)
def wR (h : HP) (a i : Nat) (v : Option Nat) : HP := (h.1, h.2.1, up2 h.2.2.1 a i v, h.2.2.2)
/-- one more cell, of kind t and length n, all 0 -/
def nw (h : HP) (t n : Nat) : HP :=
  (fun b j => if b = hZ h then 0 else hI h b j, fun b j => if b = hZ h then 0 else hL h b j, fun b j => if b = hZ h then none else hR h b j,
   fun b => if b = hZ h then t else hT h b, fun b => if b = hZ h then n else hN h b, hZ h + 1)
theorem up2_s {α : Type} {f : Nat → Nat → α} {a i : Nat} {v : α} : up2 f a i v a i = v := if_pos ⟨rfl, rfl⟩
theorem up2_a {α : Type} {f : Nat → Nat → α} {a i b j : Nat} {v : α} (h : b ≠ a) : up2 f a i v b j = f b j := if_neg (fun q => h q.1)
theorem up2_i {α : Type} {f : Nat → Nat → α} {a i b j : Nat} {v : α} (h : j ≠ i) : up2 f a i v b j = f b j := if_neg (fun q => h q.2)
/-- what stays through the whole run: the launch; the first address of the machine's that is ours; those of statics and strings; the classes' numbers and slots; the array classes' numbers; the script -/
abbrev EX : Type := Launch × Nat × (Nat → Nat) × va_G × (Nat → ClassId) × Nat × (Nat → Int32)
abbrev xl (X : EX) : Launch := X.1
abbrev xb (X : EX) : Nat := X.2.1
abbrev xS (X : EX) : Nat → Nat := X.2.2.1
abbrev xD (X : EX) : va_G := X.2.2.2.1
abbrev xA (X : EX) : Nat → ClassId := X.2.2.2.2.1
abbrev xN (X : EX) : Nat := X.2.2.2.2.2.1
abbrev xs (X : EX) : Nat → Int32 := X.2.2.2.2.2.2
/-- where an address of mine lies in the machine -/
def ad (X : EX) (k : Nat) : Nat := if k < 32 then xS X k else xb X + (k - 32)
def cv (X : EX) : VV → Value
  | .inl x => .int x
  | .inr (.inl x) => .long x
  | .inr (.inr r) => va_rf (r.map (ad X))
/-- how many fields, and whether a field is a reference -/
def nF : Nat → Nat
  | 0 => 6 | 1 => 7 | 2 => 1 | 3 => 4 | 4 => 4 | 5 => 3 | 6 => 1 | 7 => 4 | 8 => 9 | _ => 39
def tyF : Nat → Nat → FieldType
  | 0 => tyX0 | 1 => tyX1 | 2 => tyX2 | 3 => tyX3 | 4 => tyX4 | 5 => tyX5 | 6 => tyX6 | 7 => tyX7 | 8 => tyX8 | _ => tyX9
def isR (c k : Nat) : Bool := match tyF c k with
  | .object _ => true
  | .array _ => true
  | _ => false
/-- a cell's picture, as the kit's worlds have it: kinds 1 to 10 objects of vwCl, 11 to 15 arrays of bytes, chars, ints, longs, booleans, 16 to 19 arrays of references -/
def ent (X : EX) (h : HP) (k : Nat) : va_E :=
  if hT h k ≤ 10 then .inr (hT h k - 1, (List.range (nF (hT h k - 1))).map (fun i => if isR (hT h k - 1) i then va_rf ((hR h k i).map (ad X)) else .int (hI h k i)))
  else if hT h k = 14 then .inl (xA X 14, hN h k, .inr (.inl (hL h k)))
  else if hT h k ≤ 15 then .inl (xA X (hT h k), hN h k, .inl (hI h k))
  else .inl (xA X (hT h k), hN h k, .inr (.inr (.inr (.inr (fun i => (hR h k i).map (ad X))))))
def wl (X : EX) (h : HP) : va_W := (List.range (hZ h - 32)).map (fun j => (xb X + j, ent X h (j + 32)))
def tys (X : EX) : List (ClassId × FieldType) := [(xA X 11, .byte), (xA X 12, .char), (xA X 13, .int), (xA X 14, .long), (xA X 15, .boolean), (xA X 16, .object RX0), (xA X 17, .object RX1), (xA X 18, .object RX5), (xA X 19, .object RX6)]
/-- what is ours in the machine's heap -/
def AA (X : EX) : Nat → Prop := fun q => xb X ≤ q
theorem wl_get {X : EX} {h : HP} {a : Nat} (h1 : 32 ≤ a) (h2 : a < hZ h) : (wl X h)[a - 32]? = some (ad X a, ent X h a) := by
  unfold wl ad
  rw [List.getElem?_map, List.getElem?_range (by omega), if_neg (by omega)]
  show some (xb X + (a - 32), ent X h (a - 32 + 32)) = _
  rw [show a - 32 + 32 = a by omega]
theorem wl_len {X : EX} {h : HP} : (wl X h).length = hZ h - 32 := by simp [wl]
theorem wl_set {X : EX} {h h' : HP} {a : Nat} {E : va_E} (h1 : 32 ≤ a) (h2 : a < hZ h) (hz : hZ h' = hZ h) (he : ent X h' a = E) (ho : ∀ k, k ≠ a → ent X h' k = ent X h k) : (wl X h).set (a - 32) (ad X a, E) = wl X h' := by
  apply List.ext_getElem?
  intro j
  rw [List.getElem?_set]
  by_cases hj : j < hZ h - 32
  · have g := wl_get (X := X) (h := h) (a := j + 32) (by omega) (by omega)
    have g' := wl_get (X := X) (h := h') (a := j + 32) (by omega) (by omega)
    rw [Nat.add_sub_cancel] at g g'
    rw [g, g', wl_len]
    by_cases hja : a - 32 = j
    · have : a = j + 32 := by omega
      subst this
      rw [if_pos (by omega), if_pos (by omega), he]
    · rw [if_neg hja, ho _ (by omega)]
  · rw [if_neg (by omega), List.getElem?_eq_none (by rw [wl_len]; omega), List.getElem?_eq_none (by rw [wl_len]; omega)]
theorem wl_push {X : EX} {h h' : HP} {E : va_E} (h1 : 32 ≤ hZ h) (hz : hZ h' = hZ h + 1) (he : ent X h' (hZ h) = E) (ho : ∀ k, k < hZ h → ent X h' k = ent X h k) : wl X h ++ [(ad X (hZ h), E)] = wl X h' := by
  apply List.ext_getElem?
  intro j
  by_cases hj : j < hZ h - 32
  · have g := wl_get (X := X) (h := h) (a := j + 32) (by omega) (by omega)
    have g' := wl_get (X := X) (h := h') (a := j + 32) (by omega) (by omega)
    rw [Nat.add_sub_cancel] at g g'
    rw [List.getElem?_append_left (by rw [wl_len]; exact hj), g, g', ho _ (by omega)]
  · rw [List.getElem?_append_right (by rw [wl_len]; omega), wl_len]
    by_cases hj2 : j = hZ h - 32
    · subst hj2
      have g' := wl_get (X := X) (h := h') (a := hZ h) (by omega) (by omega)
      rw [g', he, Nat.sub_self]
      rfl
    · rw [List.getElem?_eq_none (by simp; omega), List.getElem?_eq_none (by rw [wl_len]; omega)]
theorem wl_D (X : EX) (h : HP) : va_D (AA X) (wl X h) := by
  have key : ∀ (i : Nat) (p : Nat × va_E), (wl X h)[i]? = some p → p.1 = xb X + i := by
    intro i p hp
    unfold wl at hp
    rw [List.getElem?_map] at hp
    cases hq : (List.range (hZ h - 32))[i]? with
    | none => rw [hq] at hp; cases hp
    | some j =>
      rw [hq] at hp
      have hij : j = i := by
        obtain ⟨h3, h4⟩ := List.getElem?_eq_some_iff.mp hq
        simpa using h4.symm
      subst hij
      cases hp
      rfl
  refine ⟨fun i j p q hp hq e => ?_, fun k q hq => ?_⟩
  · have e1 := key i p hp
    have e2 := key j q hq
    omega
  · show xb X ≤ q.1
    rw [key k q hq]
    omega
/-- my heap is the machine's -/
def CorH (X : EX) (h : HP) (H : Heap) : Prop := H.size = xb X + (hZ h - 32) ∧ 32 ≤ hZ h ∧ va_P (xD X) vwCl (wl X h) H
/-- words of nest mates: good at every warmed state -/
def nestW : List Cond := [.methodLinkNest RX8 9 yX0_init RX8, .methodLinkNest RX8 22 yX2_init RX8, .methodLinkNest RX3 11 yX7_init RX8, .methodLinkNest RX3 30 yX6_init RX8, .methodLinkNest RX8 53 yX5_init RX8, .methodLinkNest RX1 40 yX8_placeUnder RX8, .methodLinkNest RX0 56 yX8_isOutside RX8, .methodLinkNest RX3 35 yX8_isOutside RX8, .methodLinkNest RX6 15 yX8_placeUnder RX8, .fieldLinkNest RX0 40 RX8 "YEAR_STEP" "[I" RX8, .fieldLinkNest RX0 43 RX8 "OPEN_LEFT" "[I" RX8]
def aoW : List String := [RX0, RX1, RX5, RX6]
/-- the strings: the constant's place in the pool of RolledPicks$Reader, its letters -/
def strs : List (Nat × String) := [(65, "from"), (71, "to"), (73, "pick"), (90, "guard"), (92, "tail"), (94, "roll"), (96, "swap"), (98, "choice"), (81, "if"), (117, "not"), (122, "("), (124, ")"), (126, "lapsed"), (136, "ahead"), (138, "at"), (106, "and"), (115, "or"), (50, ";")]
def strL (i : Nat) : List Int32 := match strs[i]? with
  | some q => q.2.toList.map (fun c => Int32.ofNat c.toNat)
  | none => []
/-- the static arrays -/
def stW : List (String × List Int32) := [("CLUB_AT", [0, 1, 2, 0, 2, 1, 1, 0, 2, 1, 2, 0, 2, 0, 1, 2, 1, 0]), ("KIND_ABOVE", [-1, 0, 0, 1, 1, 2]), ("OPEN_LEFT", [1296, 216, 36, 6, 1]), ("PLACE_OF", [0, 1, 2, 0, 2, 1, 1, 0, 2, 2, 0, 1, 1, 2, 0, 2, 1, 0]), ("YEAR_STEP", [216, 36, 6, 1])]
/-- what the tables say of classes, at any state of the run -/
def Kn (X : EX) (U : State) : Prop := va_K (xD X) vwCl (tys X) U ∧ (∀ w ∈ nestW, va_Nw w U) ∧ (∀ C ∈ aoW, va_AO C U) ∧ (∀ i q, strs[i]? = some q → vk_R RX3 q.1 q.2 (xS X (i + 8)) U)
/-- what lies below our cells, and is never written -/
def Pre (X : EX) (U : State) (H : Heap) : Prop :=
  (∀ i q, stW[i]? = some q → va_Z RX8 q.1 "[I" (.ref (xS X (i + 1))) (AA X) U H ∧ va_T .int (xS X (i + 1)) q.2.length (fun j => .int (q.2.getD j 0)) (AA X) U H) ∧
  va_T .int (xS X 6) (xN X) (fun j => .int (xs X j)) (AA X) U H ∧
  (∃ adV : Nat → Nat, vk_S 18 (strs.map (fun q => q.2.length)) (strs.map (fun q => q.2.toList.map (fun c => Int32.ofNat c.toNat))) (fun i => xS X (i + 8)) adV (AA X) U H) ∧
  va_Z "java/lang/String" "COMPACT_STRINGS" "Z" (.int 1) (AA X) U H ∧ va_Zq "jdk/internal/util/Preconditions" "SIOOBE_FORMATTER" "Ljava/util/function/BiFunction;" (AA X) U H
/-- all of it -/
def Cor (X : EX) (h : HP) (U : State) : Prop := CorH X h U.heap ∧ Kn X U ∧ Pre X U U.heap
def rmd (d mc ms : Nat) : Room := { frames := d, cells := mc, slots := ms, locals := 40 * d }
def cw (y : MD) : Cond := .code y.1 y.2.1 y.2.2.1 y.2.2.2
def wsM (y : MD) : List Cond := cw y :: TT
def Qm (X : EX) (Q : Option VV → HP → Prop) : Array Value → State → Outcome → State → Prop := fun _ st oc t => (∃ (v : Option VV) (h' : HP), oc = .returned (v.map (cv X)) ∧ Q v h' ∧ Cor X h' t) ∧ va_F (AA X) st t
/-- A CONTRACT: y, begun with the arguments av over the heap h, returns with Q, at a depth of d calls, making mc cells of ms slots at most -/
def Ct (X : EX) (y : MD) (d mc ms : Nat) (av : List VV) (h : HP) (Q : Option VV → HP → Prop) : Prop :=
  Met (xl X) y.1 (wsM y) (rmd d mc ms) (va_Pc (av.map (cv X)) (fun U => Cor X h U)) (Qm X Q) mc ms (AA X)
/-- what holds of the method's own frame all the while -/
def Cx (X : EX) (y : MD) (p : Program) (s : State) (m : MethodId) (args : Array Value) (meth : Method) (c : Code) : Prop :=
  p.tables.exec = Jvm.exec ∧ c.code = y.2.1 ∧ c.maxLocals = y.2.2.1 ∧ meth.sig.returnType = y.2.2.2 ∧ s.vm.findClass y.1.cls = some m.cls ∧ (∀ w ∈ TT, w.before args s = true) ∧ meth.locks = false ∧ meth.name = y.1.name ∧ Kn X s ∧ Pre X s s.heap ∧ xb X ≤ s.heap.size
/-- the locals: the newest entry of a place counts; none: dead -/
abbrev ZL : Type := List (Nat × Option VV)
def gL : ZL → Nat → Option VV
  | [], _ => none
  | (j, v) :: r, i => if i = j then v else gL r i
def is2 : Option VV → Bool
  | some (.inr (.inl _)) => true
  | _ => false
/-- a store at i: a long that begins one place before dies -/
def stL (ls : ZL) (i : Nat) (v : VV) : ZL := match i with
  | 0 => (0, some v) :: ls
  | k + 1 => if is2 (gL ls k) then (k + 1, some v) :: (k, none) :: ls else (k + 1, some v) :: ls
def stL2 (ls : ZL) (i : Nat) (v : VV) : ZL := (i + 1, none) :: stL ls i v
def Lok (X : EX) (nL : Nat) (ls : ZL) (lsr : Array Slot) : Prop := ∃ lv : List (Nat × Value), lv_has lsr nL lv ∧ ∀ i v, gL ls i = some v → (i, cv X v) ∈ lv
def Ev (X : EX) (y : MD) (d mc ms : Nat) (Q : Option VV → HP → Prop) (cells slots pc : Nat) (ls : ZL) (st : List VV) (h : HP) : Prop :=
  ∀ (p : Program) (e : Env) (s : State) (m : MethodId) (args : Array Value) (below : List Frame) (meth : Method) (c : Code) (H : Heap) (locs : List Loc) (lsr : Array Slot),
    Cx X y p s m args meth c → CorH X h H → va_S (AA X) s.heap H locs → Lok X y.2.2.1 ls lsr →
    W p (xl X) e (rmd d mc ms) s m args below meth c H locs cells slots (MQ below (Qm X Q) args s mc ms (AA X)) (F0 m pc lsr (st.map (cv X)))
/-- an instruction, its length, the next place -/
def At (b : ByteArray) (pc : Nat) (i : Instr) (n pc' : Nat) : Prop := decode b pc = .ok (i, n) ∧ pc' = pc + n
def Br (b : ByteArray) (pc : Nat) (i : Instr) (off : Int) (pc' tgt : Nat) : Prop := decode b pc = .ok (i, 3) ∧ pc' = pc + 3 ∧ (pc : Int) + off = (tgt : Int)
end
section
/-! RULES: locals, constants, arithmetic, branches, returns (written by wip/whole/gen4.py) -/
theorem cv_cat {X : EX} {v : VV} : (cv X v).category = if is2 (some v) then 2 else 1 := by
  rcases v with x | x | r
  · rfl
  · rfl
  · cases r <;> rfl
theorem stL_in {X : EX} {lv : List (Nat × Value)} {ls : ZL} {i0 : Nat} {v0 : VV} (hg : ∀ i v, gL ls i = some v → (i, cv X v) ∈ lv) :
    ∀ i v, gL (stL ls i0 v0) i = some v → (i, cv X v) ∈ (i0, cv X v0) :: lv.filter (fun q => !(q.1 == i0) && !(q.1 + 1 == i0 && q.2.category == 2)) := by
  intro i v h
  by_cases hi : i = i0
  · subst hi
    have : v = v0 := by
      unfold stL at h
      cases i with
      | zero => simp [gL] at h; exact h.symm
      | succ k =>
        dsimp only at h
        split at h <;> simp [gL] at h <;> exact h.symm
    subst this
    exact List.mem_cons_self
  · refine List.mem_cons_of_mem _ (List.mem_filter.mpr ⟨?_, ?_⟩)
    · refine hg i v ?_
      unfold stL at h
      cases i0 with
      | zero => simpa [gL, hi] using h
      | succ k =>
        dsimp only at h
        split at h
        · simp only [gL, hi, if_false] at h
          by_cases hk : i = k
          · rw [if_pos hk] at h; cases h
          · rw [if_neg hk] at h; exact h
        · simpa [gL, hi] using h
    · simp only [Bool.and_eq_true, Bool.not_eq_true', beq_eq_false_iff_ne, ne_eq, hi, not_false_eq_true, true_and, Bool.and_eq_false_iff]
      by_cases hk : i + 1 = i0
      · right
        subst hk
        unfold stL at h
        dsimp only at h
        split at h
        · simp [gL] at h
        · next hn =>
          simp [gL] at h
          rw [h] at hn
          rw [cv_cat]
          simp [hn]
      · left; exact hk
theorem stL2_in {X : EX} {lv : List (Nat × Value)} {ls : ZL} {i0 : Nat} {v0 : VV} (hg : ∀ i v, gL ls i = some v → (i, cv X v) ∈ lv) :
    ∀ i v, gL (stL2 ls i0 v0) i = some v → (i, cv X v) ∈ (i0, cv X v0) :: lv.filter (fun q => !(q.1 == i0) && (!(q.1 == i0 + 1) && !(q.1 + 1 == i0 && q.2.category == 2))) := by
  intro i v h
  unfold stL2 at h
  simp only [gL] at h
  by_cases hi : i = i0 + 1
  · rw [if_pos hi] at h; cases h
  · rw [if_neg hi] at h
    rcases List.mem_cons.mp (stL_in hg i v h) with q | q
    · rw [q]; exact List.mem_cons_self
    · refine List.mem_cons_of_mem _ ?_
      rw [List.mem_filter] at q ⊢
      refine ⟨q.1, ?_⟩
      have q2 := q.2
      simp only [Bool.and_eq_true, Bool.not_eq_true', beq_eq_false_iff_ne, ne_eq] at q2 ⊢
      exact ⟨q2.1, hi, q2.2⟩
section R4
variable {X : EX} {y : MD} {d mc ms : Nat} {Q : Option VV → HP → Prop} {cells slots pc pc' : Nat} {ls : ZL} {st : List VV} {h : HP}

theorem e_iconst {n : Int} {v : Int32} (hd : At y.2.1 pc (.iconst n) 1 pc') (he : Int32.ofInt n = v) (k : Ev X y d mc ms Q cells slots pc' ls (vI v :: st) h) : Ev X y d mc ms Q cells slots pc ls (st) h := by
  obtain ⟨hd, rfl⟩ := hd
  intro p e s m args below meth c H locs lsr C hC hS hl
  obtain ⟨lv, hv, hg⟩ := id hl
  exact lv_iconst C.1 C.2.1 hd he (k p e s m args below meth c H locs lsr C hC hS hl)
theorem e_bipush {n : Int} {v : Int32} (hd : At y.2.1 pc (.bipush n) 2 pc') (he : (Int8.ofInt n).toInt32 = v) (k : Ev X y d mc ms Q cells slots pc' ls (vI v :: st) h) : Ev X y d mc ms Q cells slots pc ls (st) h := by
  obtain ⟨hd, rfl⟩ := hd
  intro p e s m args below meth c H locs lsr C hC hS hl
  obtain ⟨lv, hv, hg⟩ := id hl
  exact lv_bipush C.1 C.2.1 hd he (k p e s m args below meth c H locs lsr C hC hS hl)
theorem e_sipush {n : Int} {v : Int32} (hd : At y.2.1 pc (.sipush n) 3 pc') (he : (Int16.ofInt n).toInt32 = v) (k : Ev X y d mc ms Q cells slots pc' ls (vI v :: st) h) : Ev X y d mc ms Q cells slots pc ls (st) h := by
  obtain ⟨hd, rfl⟩ := hd
  intro p e s m args below meth c H locs lsr C hC hS hl
  obtain ⟨lv, hv, hg⟩ := id hl
  exact lv_sipush C.1 C.2.1 hd he (k p e s m args below meth c H locs lsr C hC hS hl)
theorem e_lconst {n : Fin 2} {v : Int64} (hd : At y.2.1 pc (.lconst n) 1 pc') (he : Int64.ofNat (n : Nat) = v) (k : Ev X y d mc ms Q cells slots pc' ls (vL v :: st) h) : Ev X y d mc ms Q cells slots pc ls (st) h := by
  obtain ⟨hd, rfl⟩ := hd
  intro p e s m args below meth c H locs lsr C hC hS hl
  obtain ⟨lv, hv, hg⟩ := id hl
  exact lv_lconst C.1 C.2.1 hd he (k p e s m args below meth c H locs lsr C hC hS hl)
theorem e_aconst_null  (hd : At y.2.1 pc (.aconst_null) 1 pc') (k : Ev X y d mc ms Q cells slots pc' ls (vR none :: st) h) : Ev X y d mc ms Q cells slots pc ls (st) h := by
  obtain ⟨hd, rfl⟩ := hd
  intro p e s m args below meth c H locs lsr C hC hS hl
  obtain ⟨lv, hv, hg⟩ := id hl
  exact lv_null C.1 C.2.1 hd (k p e s m args below meth c H locs lsr C hC hS hl)
theorem e_iload_n {n : Fin 4} {x : Int32} (hd : At y.2.1 pc (.iload_n n) 1 pc') (hx : gL ls (n : Nat) = some (vI x)) (k : Ev X y d mc ms Q cells slots pc' ls (vI x :: st) h) : Ev X y d mc ms Q cells slots pc ls (st) h := by
  obtain ⟨hd, rfl⟩ := hd
  intro p e s m args below meth c H locs lsr C hC hS hl
  obtain ⟨lv, hv, hg⟩ := id hl
  exact lv_iload_n C.1 C.2.1 hd rfl (hv.2.2 _ (hg _ _ hx)) (k p e s m args below meth c H locs lsr C hC hS hl)
theorem e_iload {n : Nat} {x : Int32} (hd : At y.2.1 pc (.iload n) 2 pc') (hx : gL ls n = some (vI x)) (k : Ev X y d mc ms Q cells slots pc' ls (vI x :: st) h) : Ev X y d mc ms Q cells slots pc ls (st) h := by
  obtain ⟨hd, rfl⟩ := hd
  intro p e s m args below meth c H locs lsr C hC hS hl
  obtain ⟨lv, hv, hg⟩ := id hl
  exact lv_iload C.1 C.2.1 hd (hv.2.2 _ (hg _ _ hx)) (k p e s m args below meth c H locs lsr C hC hS hl)
theorem e_lload_n {n : Fin 4} {x : Int64} (hd : At y.2.1 pc (.lload_n n) 1 pc') (hx : gL ls (n : Nat) = some (vL x)) (k : Ev X y d mc ms Q cells slots pc' ls (vL x :: st) h) : Ev X y d mc ms Q cells slots pc ls (st) h := by
  obtain ⟨hd, rfl⟩ := hd
  intro p e s m args below meth c H locs lsr C hC hS hl
  obtain ⟨lv, hv, hg⟩ := id hl
  exact lv_lload_n C.1 C.2.1 hd rfl (hv.2.2 _ (hg _ _ hx)) (k p e s m args below meth c H locs lsr C hC hS hl)
theorem e_lload {n : Nat} {x : Int64} (hd : At y.2.1 pc (.lload n) 2 pc') (hx : gL ls n = some (vL x)) (k : Ev X y d mc ms Q cells slots pc' ls (vL x :: st) h) : Ev X y d mc ms Q cells slots pc ls (st) h := by
  obtain ⟨hd, rfl⟩ := hd
  intro p e s m args below meth c H locs lsr C hC hS hl
  obtain ⟨lv, hv, hg⟩ := id hl
  exact lv_lload C.1 C.2.1 hd (hv.2.2 _ (hg _ _ hx)) (k p e s m args below meth c H locs lsr C hC hS hl)
theorem e_aload_n {n : Fin 4} {r : Option Nat} (hd : At y.2.1 pc (.aload_n n) 1 pc') (hx : gL ls (n : Nat) = some (vR r)) (k : Ev X y d mc ms Q cells slots pc' ls (vR r :: st) h) : Ev X y d mc ms Q cells slots pc ls (st) h := by
  obtain ⟨hd, rfl⟩ := hd
  intro p e s m args below meth c H locs lsr C hC hS hl
  obtain ⟨lv, hv, hg⟩ := id hl
  have hx' := hv.2.2 _ (hg _ _ hx)
  have kk := k p e s m args below meth c H locs lsr C hC hS hl
  cases r with
  | none => exact lv_aload_nN C.1 C.2.1 hd rfl hx' kk
  | some a => exact lv_aload_n C.1 C.2.1 hd rfl hx' kk
theorem e_aload {n : Nat} {r : Option Nat} (hd : At y.2.1 pc (.aload n) 2 pc') (hx : gL ls n = some (vR r)) (k : Ev X y d mc ms Q cells slots pc' ls (vR r :: st) h) : Ev X y d mc ms Q cells slots pc ls (st) h := by
  obtain ⟨hd, rfl⟩ := hd
  intro p e s m args below meth c H locs lsr C hC hS hl
  obtain ⟨lv, hv, hg⟩ := id hl
  have hx' := hv.2.2 _ (hg _ _ hx)
  have kk := k p e s m args below meth c H locs lsr C hC hS hl
  cases r with
  | none => exact lv_aloadN C.1 C.2.1 hd hx' kk
  | some a => exact lv_aload C.1 C.2.1 hd hx' kk
theorem e_istore_n {n : Fin 4} {x : Int32} (hd : At y.2.1 pc (.istore_n n) 1 pc') (hn : ((n : Nat) : Nat) < y.2.2.1) (k : Ev X y d mc ms Q cells slots pc' (stL ls (n : Nat) (vI x)) (st) h) : Ev X y d mc ms Q cells slots pc ls (vI x :: st) h := by
  obtain ⟨hd, rfl⟩ := hd
  intro p e s m args below meth c H locs lsr C hC hS hl
  obtain ⟨lv, hv, hg⟩ := id hl
  exact lv_istore_n C.1 C.2.1 hd rfl hv (by simpa using hn) rfl (fun ls' h' => k p e s m args below meth c H locs ls' C hC hS ⟨_, h', stL_in (v0 := vI x) hg⟩)
theorem e_istore {n : Nat} {x : Int32} (hd : At y.2.1 pc (.istore n) 2 pc') (hn : (n : Nat) < y.2.2.1) (k : Ev X y d mc ms Q cells slots pc' (stL ls n (vI x)) (st) h) : Ev X y d mc ms Q cells slots pc ls (vI x :: st) h := by
  obtain ⟨hd, rfl⟩ := hd
  intro p e s m args below meth c H locs lsr C hC hS hl
  obtain ⟨lv, hv, hg⟩ := id hl
  exact lv_istore C.1 C.2.1 hd hv (by simpa using hn) rfl (fun ls' h' => k p e s m args below meth c H locs ls' C hC hS ⟨_, h', stL_in (v0 := vI x) hg⟩)
theorem e_lstore_n {n : Fin 4} {x : Int64} (hd : At y.2.1 pc (.lstore_n n) 1 pc') (hn : ((n : Nat) + 1 : Nat) < y.2.2.1) (k : Ev X y d mc ms Q cells slots pc' (stL2 ls (n : Nat) (vL x)) (st) h) : Ev X y d mc ms Q cells slots pc ls (vL x :: st) h := by
  obtain ⟨hd, rfl⟩ := hd
  intro p e s m args below meth c H locs lsr C hC hS hl
  obtain ⟨lv, hv, hg⟩ := id hl
  exact lv_lstore_n C.1 C.2.1 hd rfl hv (by simpa using hn) rfl (fun ls' h' => k p e s m args below meth c H locs ls' C hC hS ⟨_, h', stL2_in (v0 := vL x) hg⟩)
theorem e_lstore {n : Nat} {x : Int64} (hd : At y.2.1 pc (.lstore n) 2 pc') (hn : (n + 1 : Nat) < y.2.2.1) (k : Ev X y d mc ms Q cells slots pc' (stL2 ls n (vL x)) (st) h) : Ev X y d mc ms Q cells slots pc ls (vL x :: st) h := by
  obtain ⟨hd, rfl⟩ := hd
  intro p e s m args below meth c H locs lsr C hC hS hl
  obtain ⟨lv, hv, hg⟩ := id hl
  exact lv_lstore C.1 C.2.1 hd hv (by simpa using hn) rfl (fun ls' h' => k p e s m args below meth c H locs ls' C hC hS ⟨_, h', stL2_in (v0 := vL x) hg⟩)
theorem e_astore_n {n : Fin 4} {r : Option Nat} (hd : At y.2.1 pc (.astore_n n) 1 pc') (hn : ((n : Nat) : Nat) < y.2.2.1) (k : Ev X y d mc ms Q cells slots pc' (stL ls (n : Nat) (vR r)) (st) h) : Ev X y d mc ms Q cells slots pc ls (vR r :: st) h := by
  obtain ⟨hd, rfl⟩ := hd
  intro p e s m args below meth c H locs lsr C hC hS hl
  obtain ⟨lv, hv, hg⟩ := id hl
  cases r with
  | none => exact lv_astore_nN C.1 C.2.1 hd rfl hv (by simpa using hn) rfl (fun ls' h' => k p e s m args below meth c H locs ls' C hC hS ⟨_, h', stL_in (v0 := vR none) hg⟩)
  | some a => exact lv_astore_n C.1 C.2.1 hd rfl hv (by simpa using hn) rfl (fun ls' h' => k p e s m args below meth c H locs ls' C hC hS ⟨_, h', stL_in (v0 := vR (some a)) hg⟩)
theorem e_astore {n : Nat} {r : Option Nat} (hd : At y.2.1 pc (.astore n) 2 pc') (hn : (n : Nat) < y.2.2.1) (k : Ev X y d mc ms Q cells slots pc' (stL ls n (vR r)) (st) h) : Ev X y d mc ms Q cells slots pc ls (vR r :: st) h := by
  obtain ⟨hd, rfl⟩ := hd
  intro p e s m args below meth c H locs lsr C hC hS hl
  obtain ⟨lv, hv, hg⟩ := id hl
  cases r with
  | none => exact lv_astoreN C.1 C.2.1 hd hv (by simpa using hn) rfl (fun ls' h' => k p e s m args below meth c H locs ls' C hC hS ⟨_, h', stL_in (v0 := vR none) hg⟩)
  | some a => exact lv_astore C.1 C.2.1 hd hv (by simpa using hn) rfl (fun ls' h' => k p e s m args below meth c H locs ls' C hC hS ⟨_, h', stL_in (v0 := vR (some a)) hg⟩)
theorem e_iinc {n : Nat} {z : Int} {x v : Int32} (hd : At y.2.1 pc (.iinc n z) 3 pc') (hx : gL ls n = some (vI x)) (he : x + Int32.ofInt z = v) (hn : n < y.2.2.1) (k : Ev X y d mc ms Q cells slots pc' (stL ls n (vI v)) (st) h) : Ev X y d mc ms Q cells slots pc ls (st) h := by
  obtain ⟨hd, rfl⟩ := hd
  intro p e s m args below meth c H locs lsr C hC hS hl
  obtain ⟨lv, hv, hg⟩ := id hl
  obtain ⟨k0, hk0⟩ := List.getElem?_of_mem (hg _ _ hx)
  exact lv_iinc C.1 C.2.1 hd hv hk0 he hn rfl (fun ls' h' => k p e s m args below meth c H locs ls' C hC hS ⟨_, h', stL_in (v0 := vI v) hg⟩)
theorem e_iadd {x y0 : Int32} (hd : At y.2.1 pc (.iadd) 1 pc') (k : Ev X y d mc ms Q cells slots pc' ls (vI (x + y0) :: st) h) : Ev X y d mc ms Q cells slots pc ls (vI y0 :: vI x :: st) h := by
  obtain ⟨hd, rfl⟩ := hd
  intro p e s m args below meth c H locs lsr C hC hS hl
  obtain ⟨lv, hv, hg⟩ := id hl
  exact lv_iadd C.1 C.2.1 hd (k p e s m args below meth c H locs lsr C hC hS hl)
theorem e_isub {x y0 : Int32} (hd : At y.2.1 pc (.isub) 1 pc') (k : Ev X y d mc ms Q cells slots pc' ls (vI (x - y0) :: st) h) : Ev X y d mc ms Q cells slots pc ls (vI y0 :: vI x :: st) h := by
  obtain ⟨hd, rfl⟩ := hd
  intro p e s m args below meth c H locs lsr C hC hS hl
  obtain ⟨lv, hv, hg⟩ := id hl
  exact lv_isub C.1 C.2.1 hd (k p e s m args below meth c H locs lsr C hC hS hl)
theorem e_imul {x y0 : Int32} (hd : At y.2.1 pc (.imul) 1 pc') (k : Ev X y d mc ms Q cells slots pc' ls (vI (x * y0) :: st) h) : Ev X y d mc ms Q cells slots pc ls (vI y0 :: vI x :: st) h := by
  obtain ⟨hd, rfl⟩ := hd
  intro p e s m args below meth c H locs lsr C hC hS hl
  obtain ⟨lv, hv, hg⟩ := id hl
  exact lv_imul C.1 C.2.1 hd (k p e s m args below meth c H locs lsr C hC hS hl)
theorem e_iand {x y0 : Int32} (hd : At y.2.1 pc (.iand) 1 pc') (k : Ev X y d mc ms Q cells slots pc' ls (vI (x &&& y0) :: st) h) : Ev X y d mc ms Q cells slots pc ls (vI y0 :: vI x :: st) h := by
  obtain ⟨hd, rfl⟩ := hd
  intro p e s m args below meth c H locs lsr C hC hS hl
  obtain ⟨lv, hv, hg⟩ := id hl
  exact lv_iand C.1 C.2.1 hd (k p e s m args below meth c H locs lsr C hC hS hl)
theorem e_ior {x y0 : Int32} (hd : At y.2.1 pc (.ior) 1 pc') (k : Ev X y d mc ms Q cells slots pc' ls (vI (x ||| y0) :: st) h) : Ev X y d mc ms Q cells slots pc ls (vI y0 :: vI x :: st) h := by
  obtain ⟨hd, rfl⟩ := hd
  intro p e s m args below meth c H locs lsr C hC hS hl
  obtain ⟨lv, hv, hg⟩ := id hl
  exact lv_ior C.1 C.2.1 hd (k p e s m args below meth c H locs lsr C hC hS hl)
theorem e_ixor {x y0 : Int32} (hd : At y.2.1 pc (.ixor) 1 pc') (k : Ev X y d mc ms Q cells slots pc' ls (vI (x ^^^ y0) :: st) h) : Ev X y d mc ms Q cells slots pc ls (vI y0 :: vI x :: st) h := by
  obtain ⟨hd, rfl⟩ := hd
  intro p e s m args below meth c H locs lsr C hC hS hl
  obtain ⟨lv, hv, hg⟩ := id hl
  exact lv_ixor C.1 C.2.1 hd (k p e s m args below meth c H locs lsr C hC hS hl)
theorem e_ladd {x y0 : Int64} (hd : At y.2.1 pc (.ladd) 1 pc') (k : Ev X y d mc ms Q cells slots pc' ls (vL (x + y0) :: st) h) : Ev X y d mc ms Q cells slots pc ls (vL y0 :: vL x :: st) h := by
  obtain ⟨hd, rfl⟩ := hd
  intro p e s m args below meth c H locs lsr C hC hS hl
  obtain ⟨lv, hv, hg⟩ := id hl
  exact lv_ladd C.1 C.2.1 hd (k p e s m args below meth c H locs lsr C hC hS hl)
theorem e_lsub {x y0 : Int64} (hd : At y.2.1 pc (.lsub) 1 pc') (k : Ev X y d mc ms Q cells slots pc' ls (vL (x - y0) :: st) h) : Ev X y d mc ms Q cells slots pc ls (vL y0 :: vL x :: st) h := by
  obtain ⟨hd, rfl⟩ := hd
  intro p e s m args below meth c H locs lsr C hC hS hl
  obtain ⟨lv, hv, hg⟩ := id hl
  exact lv_lsub C.1 C.2.1 hd (k p e s m args below meth c H locs lsr C hC hS hl)
theorem e_land {x y0 : Int64} (hd : At y.2.1 pc (.land) 1 pc') (k : Ev X y d mc ms Q cells slots pc' ls (vL (x &&& y0) :: st) h) : Ev X y d mc ms Q cells slots pc ls (vL y0 :: vL x :: st) h := by
  obtain ⟨hd, rfl⟩ := hd
  intro p e s m args below meth c H locs lsr C hC hS hl
  obtain ⟨lv, hv, hg⟩ := id hl
  exact lv_land C.1 C.2.1 hd (k p e s m args below meth c H locs lsr C hC hS hl)
theorem e_lor {x y0 : Int64} (hd : At y.2.1 pc (.lor) 1 pc') (k : Ev X y d mc ms Q cells slots pc' ls (vL (x ||| y0) :: st) h) : Ev X y d mc ms Q cells slots pc ls (vL y0 :: vL x :: st) h := by
  obtain ⟨hd, rfl⟩ := hd
  intro p e s m args below meth c H locs lsr C hC hS hl
  obtain ⟨lv, hv, hg⟩ := id hl
  exact lv_lor C.1 C.2.1 hd (k p e s m args below meth c H locs lsr C hC hS hl)
theorem e_lxor {x y0 : Int64} (hd : At y.2.1 pc (.lxor) 1 pc') (k : Ev X y d mc ms Q cells slots pc' ls (vL (x ^^^ y0) :: st) h) : Ev X y d mc ms Q cells slots pc ls (vL y0 :: vL x :: st) h := by
  obtain ⟨hd, rfl⟩ := hd
  intro p e s m args below meth c H locs lsr C hC hS hl
  obtain ⟨lv, hv, hg⟩ := id hl
  exact lv_lxor C.1 C.2.1 hd (k p e s m args below meth c H locs lsr C hC hS hl)
theorem e_ishl {x y0 : Int32} (hd : At y.2.1 pc (.ishl) 1 pc') (k : Ev X y d mc ms Q cells slots pc' ls (vI (x <<< (y0 &&& 31)) :: st) h) : Ev X y d mc ms Q cells slots pc ls (vI y0 :: vI x :: st) h := by
  obtain ⟨hd, rfl⟩ := hd
  intro p e s m args below meth c H locs lsr C hC hS hl
  obtain ⟨lv, hv, hg⟩ := id hl
  exact lv_ishl C.1 C.2.1 hd (k p e s m args below meth c H locs lsr C hC hS hl)
theorem e_ishr {x y0 : Int32} (hd : At y.2.1 pc (.ishr) 1 pc') (k : Ev X y d mc ms Q cells slots pc' ls (vI (x >>> (y0 &&& 31)) :: st) h) : Ev X y d mc ms Q cells slots pc ls (vI y0 :: vI x :: st) h := by
  obtain ⟨hd, rfl⟩ := hd
  intro p e s m args below meth c H locs lsr C hC hS hl
  obtain ⟨lv, hv, hg⟩ := id hl
  exact lv_ishr C.1 C.2.1 hd (k p e s m args below meth c H locs lsr C hC hS hl)
theorem e_idiv {x y0 : Int32} (hd : At y.2.1 pc (.idiv) 1 pc') (hne : ¬ y0 = 0) (k : Ev X y d mc ms Q cells slots pc' ls (vI (x / y0) :: st) h) : Ev X y d mc ms Q cells slots pc ls (vI y0 :: vI x :: st) h := by
  obtain ⟨hd, rfl⟩ := hd
  intro p e s m args below meth c H locs lsr C hC hS hl
  obtain ⟨lv, hv, hg⟩ := id hl
  exact lv_idiv C.1 C.2.1 hd hne (k p e s m args below meth c H locs lsr C hC hS hl)
theorem e_irem {x y0 : Int32} (hd : At y.2.1 pc (.irem) 1 pc') (hne : ¬ y0 = 0) (k : Ev X y d mc ms Q cells slots pc' ls (vI (x - x / y0 * y0) :: st) h) : Ev X y d mc ms Q cells slots pc ls (vI y0 :: vI x :: st) h := by
  obtain ⟨hd, rfl⟩ := hd
  intro p e s m args below meth c H locs lsr C hC hS hl
  obtain ⟨lv, hv, hg⟩ := id hl
  exact lv_irem C.1 C.2.1 hd hne (k p e s m args below meth c H locs lsr C hC hS hl)
theorem e_ineg {x : Int32} (hd : At y.2.1 pc (.ineg) 1 pc') (k : Ev X y d mc ms Q cells slots pc' ls (vI (-x) :: st) h) : Ev X y d mc ms Q cells slots pc ls (vI x :: st) h := by
  obtain ⟨hd, rfl⟩ := hd
  intro p e s m args below meth c H locs lsr C hC hS hl
  obtain ⟨lv, hv, hg⟩ := id hl
  exact lv_ineg C.1 C.2.1 hd (k p e s m args below meth c H locs lsr C hC hS hl)
theorem e_iushr {x y0 : Int32} (hd : At y.2.1 pc (.iushr) 1 pc') (k : Ev X y d mc ms Q cells slots pc' ls (vI ((x.toUInt32 >>> (y0.toUInt32 &&& Int32.toUInt32 31)).toInt32) :: st) h) : Ev X y d mc ms Q cells slots pc ls (vI y0 :: vI x :: st) h := by
  obtain ⟨hd, rfl⟩ := hd
  intro p e s m args below meth c H locs lsr C hC hS hl
  obtain ⟨lv, hv, hg⟩ := id hl
  exact lv_iushr C.1 C.2.1 hd rfl (k p e s m args below meth c H locs lsr C hC hS hl)
theorem e_lshl {x : Int64} {y0 : Int32} (hd : At y.2.1 pc (.lshl) 1 pc') (k : Ev X y d mc ms Q cells slots pc' ls (vL (x <<< (y0.toInt64 &&& 63)) :: st) h) : Ev X y d mc ms Q cells slots pc ls (vI y0 :: vL x :: st) h := by
  obtain ⟨hd, rfl⟩ := hd
  intro p e s m args below meth c H locs lsr C hC hS hl
  obtain ⟨lv, hv, hg⟩ := id hl
  exact lv_lshl C.1 C.2.1 hd rfl (k p e s m args below meth c H locs lsr C hC hS hl)
theorem e_lshr {x : Int64} {y0 : Int32} (hd : At y.2.1 pc (.lshr) 1 pc') (k : Ev X y d mc ms Q cells slots pc' ls (vL (x >>> (y0.toInt64 &&& 63)) :: st) h) : Ev X y d mc ms Q cells slots pc ls (vI y0 :: vL x :: st) h := by
  obtain ⟨hd, rfl⟩ := hd
  intro p e s m args below meth c H locs lsr C hC hS hl
  obtain ⟨lv, hv, hg⟩ := id hl
  exact lv_lshr C.1 C.2.1 hd rfl (k p e s m args below meth c H locs lsr C hC hS hl)
theorem e_i2l {x : Int32} (hd : At y.2.1 pc (.i2l) 1 pc') (k : Ev X y d mc ms Q cells slots pc' ls (vL x.toInt64 :: st) h) : Ev X y d mc ms Q cells slots pc ls (vI x :: st) h := by
  obtain ⟨hd, rfl⟩ := hd
  intro p e s m args below meth c H locs lsr C hC hS hl
  obtain ⟨lv, hv, hg⟩ := id hl
  exact lv_i2l C.1 C.2.1 hd rfl (k p e s m args below meth c H locs lsr C hC hS hl)
theorem e_l2i {x : Int64} (hd : At y.2.1 pc (.l2i) 1 pc') (k : Ev X y d mc ms Q cells slots pc' ls (vI x.toInt32 :: st) h) : Ev X y d mc ms Q cells slots pc ls (vL x :: st) h := by
  obtain ⟨hd, rfl⟩ := hd
  intro p e s m args below meth c H locs lsr C hC hS hl
  obtain ⟨lv, hv, hg⟩ := id hl
  exact lv_l2i C.1 C.2.1 hd rfl (k p e s m args below meth c H locs lsr C hC hS hl)
theorem e_i2b {x : Int32} (hd : At y.2.1 pc (.i2b) 1 pc') (k : Ev X y d mc ms Q cells slots pc' ls (vI x.toInt8.toInt32 :: st) h) : Ev X y d mc ms Q cells slots pc ls (vI x :: st) h := by
  obtain ⟨hd, rfl⟩ := hd
  intro p e s m args below meth c H locs lsr C hC hS hl
  obtain ⟨lv, hv, hg⟩ := id hl
  exact lv_i2b C.1 C.2.1 hd rfl (k p e s m args below meth c H locs lsr C hC hS hl)
theorem e_i2s {x : Int32} (hd : At y.2.1 pc (.i2s) 1 pc') (k : Ev X y d mc ms Q cells slots pc' ls (vI x.toInt16.toInt32 :: st) h) : Ev X y d mc ms Q cells slots pc ls (vI x :: st) h := by
  obtain ⟨hd, rfl⟩ := hd
  intro p e s m args below meth c H locs lsr C hC hS hl
  obtain ⟨lv, hv, hg⟩ := id hl
  exact lv_i2s C.1 C.2.1 hd rfl (k p e s m args below meth c H locs lsr C hC hS hl)
theorem e_lcmp {x y0 : Int64} (hd : At y.2.1 pc (.lcmp) 1 pc') (k : Ev X y d mc ms Q cells slots pc' ls (vI (lg_cmp x y0) :: st) h) : Ev X y d mc ms Q cells slots pc ls (vL y0 :: vL x :: st) h := by
  obtain ⟨hd, rfl⟩ := hd
  intro p e s m args below meth c H locs lsr C hC hS hl
  obtain ⟨lv, hv, hg⟩ := id hl
  exact W.lcmp C.1 C.2.1 hd (k p e s m args below meth c H locs lsr C hC hS hl)
theorem e_dup {v : VV} (hd : At y.2.1 pc (.dup) 1 pc') (hc : is2 (some v) = false) (k : Ev X y d mc ms Q cells slots pc' ls (v :: v :: st) h) : Ev X y d mc ms Q cells slots pc ls (v :: st) h := by
  obtain ⟨hd, rfl⟩ := hd
  intro p e s m args below meth c H locs lsr C hC hS hl
  obtain ⟨lv, hv, hg⟩ := id hl
  exact lv_dup C.1 C.2.1 hd (by rw [cv_cat, hc]; rfl) (k p e s m args below meth c H locs lsr C hC hS hl)
theorem e_pop {v : VV} (hd : At y.2.1 pc (.pop) 1 pc') (hc : is2 (some v) = false) (k : Ev X y d mc ms Q cells slots pc' ls (st) h) : Ev X y d mc ms Q cells slots pc ls (v :: st) h := by
  obtain ⟨hd, rfl⟩ := hd
  intro p e s m args below meth c H locs lsr C hC hS hl
  obtain ⟨lv, hv, hg⟩ := id hl
  exact lv_pop C.1 C.2.1 hd (by rw [cv_cat, hc]; rfl) (k p e s m args below meth c H locs lsr C hC hS hl)
theorem e_dup2 {v w : VV} (hd : At y.2.1 pc (.dup2) 1 pc') (hc : is2 (some v) = false) (hc2 : is2 (some w) = false) (k : Ev X y d mc ms Q cells slots pc' ls (v :: w :: v :: w :: st) h) : Ev X y d mc ms Q cells slots pc ls (v :: w :: st) h := by
  obtain ⟨hd, rfl⟩ := hd
  intro p e s m args below meth c H locs lsr C hC hS hl
  obtain ⟨lv, hv, hg⟩ := id hl
  exact lv_dup2_11 C.1 C.2.1 hd (by rw [cv_cat, hc]; rfl) (by rw [cv_cat, hc2]; rfl) (k p e s m args below meth c H locs lsr C hC hS hl)
theorem e_if_eq {x : Int32} {off : Int} {tgt : Nat} (hd : Br y.2.1 pc (.ifCond .eq off) off pc' tgt) (kt : x = 0 → Ev X y d mc ms Q cells slots tgt ls st h) (kf : ¬ x = 0 → Ev X y d mc ms Q cells slots pc' ls st h) : Ev X y d mc ms Q cells slots pc ls (vI x :: st) h := by
  obtain ⟨hd, rfl, ht⟩ := hd
  intro p e s m args below meth c H locs lsr C hC hS hl
  exact lv_if_eq C.1 C.2.1 hd ht (fun q => kt q p e s m args below meth c H locs lsr C hC hS hl) (fun q => kf q p e s m args below meth c H locs lsr C hC hS hl)
theorem e_icmp_eq {x y0 : Int32} {off : Int} {tgt : Nat} (hd : Br y.2.1 pc (.if_icmp .eq off) off pc' tgt) (kt : x = y0 → Ev X y d mc ms Q cells slots tgt ls st h) (kf : ¬ x = y0 → Ev X y d mc ms Q cells slots pc' ls st h) : Ev X y d mc ms Q cells slots pc ls (vI y0 :: vI x :: st) h := by
  obtain ⟨hd, rfl, ht⟩ := hd
  intro p e s m args below meth c H locs lsr C hC hS hl
  exact lv_icmp_eq C.1 C.2.1 hd ht (fun q => kt q p e s m args below meth c H locs lsr C hC hS hl) (fun q => kf q p e s m args below meth c H locs lsr C hC hS hl)
theorem e_if_ne {x : Int32} {off : Int} {tgt : Nat} (hd : Br y.2.1 pc (.ifCond .ne off) off pc' tgt) (kt : ¬ x = 0 → Ev X y d mc ms Q cells slots tgt ls st h) (kf : x = 0 → Ev X y d mc ms Q cells slots pc' ls st h) : Ev X y d mc ms Q cells slots pc ls (vI x :: st) h := by
  obtain ⟨hd, rfl, ht⟩ := hd
  intro p e s m args below meth c H locs lsr C hC hS hl
  exact lv_if_ne C.1 C.2.1 hd ht (fun q => kt q p e s m args below meth c H locs lsr C hC hS hl) (fun q => kf q p e s m args below meth c H locs lsr C hC hS hl)
theorem e_icmp_ne {x y0 : Int32} {off : Int} {tgt : Nat} (hd : Br y.2.1 pc (.if_icmp .ne off) off pc' tgt) (kt : ¬ x = y0 → Ev X y d mc ms Q cells slots tgt ls st h) (kf : x = y0 → Ev X y d mc ms Q cells slots pc' ls st h) : Ev X y d mc ms Q cells slots pc ls (vI y0 :: vI x :: st) h := by
  obtain ⟨hd, rfl, ht⟩ := hd
  intro p e s m args below meth c H locs lsr C hC hS hl
  exact lv_icmp_ne C.1 C.2.1 hd ht (fun q => kt q p e s m args below meth c H locs lsr C hC hS hl) (fun q => kf q p e s m args below meth c H locs lsr C hC hS hl)
theorem e_if_lt {x : Int32} {off : Int} {tgt : Nat} (hd : Br y.2.1 pc (.ifCond .lt off) off pc' tgt) (kt : x < 0 → Ev X y d mc ms Q cells slots tgt ls st h) (kf : ¬ x < 0 → Ev X y d mc ms Q cells slots pc' ls st h) : Ev X y d mc ms Q cells slots pc ls (vI x :: st) h := by
  obtain ⟨hd, rfl, ht⟩ := hd
  intro p e s m args below meth c H locs lsr C hC hS hl
  exact lv_if_lt C.1 C.2.1 hd ht (fun q => kt q p e s m args below meth c H locs lsr C hC hS hl) (fun q => kf q p e s m args below meth c H locs lsr C hC hS hl)
theorem e_icmp_lt {x y0 : Int32} {off : Int} {tgt : Nat} (hd : Br y.2.1 pc (.if_icmp .lt off) off pc' tgt) (kt : x < y0 → Ev X y d mc ms Q cells slots tgt ls st h) (kf : ¬ x < y0 → Ev X y d mc ms Q cells slots pc' ls st h) : Ev X y d mc ms Q cells slots pc ls (vI y0 :: vI x :: st) h := by
  obtain ⟨hd, rfl, ht⟩ := hd
  intro p e s m args below meth c H locs lsr C hC hS hl
  exact lv_icmp_lt C.1 C.2.1 hd ht (fun q => kt q p e s m args below meth c H locs lsr C hC hS hl) (fun q => kf q p e s m args below meth c H locs lsr C hC hS hl)
theorem e_if_ge {x : Int32} {off : Int} {tgt : Nat} (hd : Br y.2.1 pc (.ifCond .ge off) off pc' tgt) (kt : 0 ≤ x → Ev X y d mc ms Q cells slots tgt ls st h) (kf : ¬ 0 ≤ x → Ev X y d mc ms Q cells slots pc' ls st h) : Ev X y d mc ms Q cells slots pc ls (vI x :: st) h := by
  obtain ⟨hd, rfl, ht⟩ := hd
  intro p e s m args below meth c H locs lsr C hC hS hl
  exact lv_if_ge C.1 C.2.1 hd ht (fun q => kt q p e s m args below meth c H locs lsr C hC hS hl) (fun q => kf q p e s m args below meth c H locs lsr C hC hS hl)
theorem e_icmp_ge {x y0 : Int32} {off : Int} {tgt : Nat} (hd : Br y.2.1 pc (.if_icmp .ge off) off pc' tgt) (kt : y0 ≤ x → Ev X y d mc ms Q cells slots tgt ls st h) (kf : ¬ y0 ≤ x → Ev X y d mc ms Q cells slots pc' ls st h) : Ev X y d mc ms Q cells slots pc ls (vI y0 :: vI x :: st) h := by
  obtain ⟨hd, rfl, ht⟩ := hd
  intro p e s m args below meth c H locs lsr C hC hS hl
  exact lv_icmp_ge C.1 C.2.1 hd ht (fun q => kt q p e s m args below meth c H locs lsr C hC hS hl) (fun q => kf q p e s m args below meth c H locs lsr C hC hS hl)
theorem e_if_gt {x : Int32} {off : Int} {tgt : Nat} (hd : Br y.2.1 pc (.ifCond .gt off) off pc' tgt) (kt : 0 < x → Ev X y d mc ms Q cells slots tgt ls st h) (kf : ¬ 0 < x → Ev X y d mc ms Q cells slots pc' ls st h) : Ev X y d mc ms Q cells slots pc ls (vI x :: st) h := by
  obtain ⟨hd, rfl, ht⟩ := hd
  intro p e s m args below meth c H locs lsr C hC hS hl
  exact lv_if_gt C.1 C.2.1 hd ht (fun q => kt q p e s m args below meth c H locs lsr C hC hS hl) (fun q => kf q p e s m args below meth c H locs lsr C hC hS hl)
theorem e_icmp_gt {x y0 : Int32} {off : Int} {tgt : Nat} (hd : Br y.2.1 pc (.if_icmp .gt off) off pc' tgt) (kt : y0 < x → Ev X y d mc ms Q cells slots tgt ls st h) (kf : ¬ y0 < x → Ev X y d mc ms Q cells slots pc' ls st h) : Ev X y d mc ms Q cells slots pc ls (vI y0 :: vI x :: st) h := by
  obtain ⟨hd, rfl, ht⟩ := hd
  intro p e s m args below meth c H locs lsr C hC hS hl
  exact lv_icmp_gt C.1 C.2.1 hd ht (fun q => kt q p e s m args below meth c H locs lsr C hC hS hl) (fun q => kf q p e s m args below meth c H locs lsr C hC hS hl)
theorem e_if_le {x : Int32} {off : Int} {tgt : Nat} (hd : Br y.2.1 pc (.ifCond .le off) off pc' tgt) (kt : x ≤ 0 → Ev X y d mc ms Q cells slots tgt ls st h) (kf : ¬ x ≤ 0 → Ev X y d mc ms Q cells slots pc' ls st h) : Ev X y d mc ms Q cells slots pc ls (vI x :: st) h := by
  obtain ⟨hd, rfl, ht⟩ := hd
  intro p e s m args below meth c H locs lsr C hC hS hl
  exact lv_if_le C.1 C.2.1 hd ht (fun q => kt q p e s m args below meth c H locs lsr C hC hS hl) (fun q => kf q p e s m args below meth c H locs lsr C hC hS hl)
theorem e_icmp_le {x y0 : Int32} {off : Int} {tgt : Nat} (hd : Br y.2.1 pc (.if_icmp .le off) off pc' tgt) (kt : x ≤ y0 → Ev X y d mc ms Q cells slots tgt ls st h) (kf : ¬ x ≤ y0 → Ev X y d mc ms Q cells slots pc' ls st h) : Ev X y d mc ms Q cells slots pc ls (vI y0 :: vI x :: st) h := by
  obtain ⟨hd, rfl, ht⟩ := hd
  intro p e s m args below meth c H locs lsr C hC hS hl
  exact lv_icmp_le C.1 C.2.1 hd ht (fun q => kt q p e s m args below meth c H locs lsr C hC hS hl) (fun q => kf q p e s m args below meth c H locs lsr C hC hS hl)
theorem e_goto {off : Int} {tgt : Nat} (hd : Br y.2.1 pc (.goto off) off pc' tgt) (k : Ev X y d mc ms Q cells slots tgt ls st h) : Ev X y d mc ms Q cells slots pc ls st h := by
  obtain ⟨hd, rfl, ht⟩ := hd
  intro p e s m args below meth c H locs lsr C hC hS hl
  exact lv_goto C.1 C.2.1 hd ht (k p e s m args below meth c H locs lsr C hC hS hl)
theorem e_ifnull {r : Option Nat} {off : Int} {tgt : Nat} (hd : Br y.2.1 pc (.ifnull off) off pc' tgt) (kt : r = none → Ev X y d mc ms Q cells slots tgt ls st h) (kf : ∀ a, r = some a → Ev X y d mc ms Q cells slots pc' ls st h) : Ev X y d mc ms Q cells slots pc ls (vR r :: st) h := by
  obtain ⟨hd, rfl, ht⟩ := hd
  intro p e s m args below meth c H locs lsr C hC hS hl
  cases r with
  | none => exact lv_ifnullN C.1 C.2.1 hd ht (kt rfl p e s m args below meth c H locs lsr C hC hS hl)
  | some a => exact lv_ifnull C.1 C.2.1 hd (kf a rfl p e s m args below meth c H locs lsr C hC hS hl)
theorem e_ifnonnull {r : Option Nat} {off : Int} {tgt : Nat} (hd : Br y.2.1 pc (.ifnonnull off) off pc' tgt) (kt : ∀ a, r = some a → Ev X y d mc ms Q cells slots tgt ls st h) (kf : r = none → Ev X y d mc ms Q cells slots pc' ls st h) : Ev X y d mc ms Q cells slots pc ls (vR r :: st) h := by
  obtain ⟨hd, rfl, ht⟩ := hd
  intro p e s m args below meth c H locs lsr C hC hS hl
  cases r with
  | none => exact lv_ifnonnullN C.1 C.2.1 hd (kf rfl p e s m args below meth c H locs lsr C hC hS hl)
  | some a => exact lv_ifnonnull C.1 C.2.1 hd ht (kt a rfl p e s m args below meth c H locs lsr C hC hS hl)
theorem e_tableIn {dflt lo hi : Int} {offs : Array Int} {n : Nat} {x : Int32} {off : Int} {tgt : Nat} (hd : At y.2.1 pc (.tableswitch dflt lo hi offs) n pc') (h1 : ¬ x.toInt < lo) (h2 : ¬ hi < x.toInt) (ho : offs[(x.toInt - lo).toNat]? = some off) (ht : (pc : Int) + off = (tgt : Int)) (k : Ev X y d mc ms Q cells slots tgt ls st h) : Ev X y d mc ms Q cells slots pc ls (vI x :: st) h := by
  obtain ⟨hd, rfl⟩ := hd
  intro p e s m args below meth c H locs lsr C hC hS hl
  exact lv_tableIn C.1 C.2.1 hd h1 h2 ho ht (k p e s m args below meth c H locs lsr C hC hS hl)
theorem e_tableOut {dflt lo hi : Int} {offs : Array Int} {n : Nat} {x : Int32} {tgt : Nat} (hd : At y.2.1 pc (.tableswitch dflt lo hi offs) n pc') (h1 : x.toInt < lo ∨ hi < x.toInt) (ht : (pc : Int) + dflt = (tgt : Int)) (k : Ev X y d mc ms Q cells slots tgt ls st h) : Ev X y d mc ms Q cells slots pc ls (vI x :: st) h := by
  obtain ⟨hd, rfl⟩ := hd
  intro p e s m args below meth c H locs lsr C hC hS hl
  exact lv_tableOut C.1 C.2.1 hd h1 ht (k p e s m args below meth c H locs lsr C hC hS hl)
theorem e_lookup {dflt : Int} {ps : Array (Int × Int)} {n : Nat} {x : Int32} {off : Int} {tgt : Nat} (hd : At y.2.1 pc (.lookupswitch dflt ps) n pc') (hp : (ps.toList.zip (ps.toList.drop 1)).all (fun (a, next) => a.1 < next.1) = true) (ho : Op.lookupswitch.offset ps.toList dflt x.toInt = off) (ht : (pc : Int) + off = (tgt : Int)) (k : Ev X y d mc ms Q cells slots tgt ls st h) : Ev X y d mc ms Q cells slots pc ls (vI x :: st) h := by
  obtain ⟨hd, rfl⟩ := hd
  intro p e s m args below meth c H locs lsr C hC hS hl
  exact lv_lookup C.1 C.2.1 hd hp ho ht (k p e s m args below meth c H locs lsr C hC hS hl)
end R4
end
section
/-! what stays while the machine goes on; returns; contracts; calls -/
theorem Kn.warm {X : EX} {s U : State} (hW : s.WarmedH U.vm) (h : Kn X s) : Kn X U := by
  obtain ⟨h1, h2, h3, h4⟩ := h
  refine ⟨h1.moved hW.alike, fun w hw => ?_, fun C hC => (h3 C hC).moved hW.alike, fun i q hq => (h4 i q hq).warm hW⟩
  have h5 := h2 w hw
  simp only [nestW, List.mem_cons, List.not_mem_nil, or_false] at hw
  rcases hw with rfl | rfl | rfl | rfl | rfl | rfl | rfl | rfl | rfl | rfl | rfl <;> first | exact va_Nw.warmM hW h5 | exact va_Nw.warmF hW h5
theorem Kn.same {X : EX} {u U : State} (hv : U.vm = u.vm) (h : Kn X u) : Kn X U := by
  obtain ⟨h1, h2, h3, h4⟩ := h
  have hal : u.vm.Alike U.vm := by rw [hv]; exact Vm.Alike.refl _
  refine ⟨h1.moved hal, fun w hw => ?_, fun C hC => (h3 C hC).moved hal, fun i q hq => (h4 i q hq).same hv⟩
  have h5 := h2 w hw
  simp only [nestW, List.mem_cons, List.not_mem_nil, or_false] at hw
  rcases hw with rfl | rfl | rfl | rfl | rfl | rfl | rfl | rfl | rfl | rfl | rfl <;> exact va_Nw.same rfl hv.symm h5
theorem Pre.moved {X : EX} {u U : State} {H : Heap} (hvm : u.vm.Alike U.vm) (h : Pre X u H) : Pre X U H := by
  obtain ⟨h1, h2, ⟨adV, h3⟩, h4, h5⟩ := h
  exact ⟨fun i q hq => ⟨va_Z.moved hvm (h1 i q hq).1, va_T.moved hvm (h1 i q hq).2⟩, va_T.moved hvm h2, ⟨adV, vk_S.moved hvm h3⟩, va_Z.moved hvm h4, va_Zq.moved hvm h5⟩
theorem Pre.kept {X : EX} {U : State} {H H1 : Heap} (h : Pre X U H) (hq : ∀ a : Nat, a < H.size → ¬ AA X a → H1[a]? = H[a]?) : Pre X U H1 := by
  obtain ⟨h1, h2, ⟨adV, h3⟩, h4, h5⟩ := h
  exact ⟨fun i q hi => ⟨va_Z.kept (h1 i q hi).1 hq, va_T.kept (h1 i q hi).2 hq⟩, va_T.kept h2 hq, ⟨adV, vk_S.kept h3 hq⟩, va_Z.kept h4 hq, va_Zq.kept h5 hq⟩
theorem cor_of {X : EX} {h : HP} {s t : State} {H : Heap} {locs : List Loc} (hK : Kn X s) (hP : Pre X s s.heap) (hC : CorH X h H) (hS : va_S (AA X) s.heap H locs) (ht : t.heap = H) (hW : s.WarmedH t.vm) : Cor X h t := by
  subst ht
  exact ⟨hC, hK.warm hW, (hP.moved hW.alike).kept hS.2.1⟩
theorem blind {X : EX} {h : HP} (av : List Value) : FrameBlind (va_Pc av (fun U => Cor X h U)) := fun a U g mk q => by
  obtain ⟨q1, q2, q3, q4⟩ := q
  exact ⟨q1, q2, Kn.same (u := U) (U := U.calling g mk a) rfl q3, q4.moved (U := U.calling g mk a) (Vm.Alike.refl _)⟩
/-- the locals at the beginning -/
def arL : Nat → List VV → ZL
  | _, [] => []
  | i, v :: vs => (i, some v) :: arL (if is2 (some v) then i + 2 else i + 1) vs
def szL : List VV → Nat
  | [] => 0
  | v :: vs => (if is2 (some v) then 2 else 1) + szL vs
theorem szL_eq {X : EX} (av : List VV) : (lg_sl (av.map (cv X))).length = szL av := by
  induction av with
  | nil => rfl
  | cons v vs ih =>
    unfold lg_sl at ih ⊢
    rw [List.map_cons, List.flatMap_cons, List.length_append, ih, cv_cat]
    show _ = (if is2 (some v) then 2 else 1) + szL vs
    cases is2 (some v) <;> simp
theorem arL_in {X : EX} (av : List VV) : ∀ (i0 i : Nat) (v : VV), gL (arL i0 av) i = some v → (i, cv X v) ∈ lv_args i0 (av.map (cv X)) := by
  induction av with
  | nil => intro i0 i v h; cases h
  | cons w vs ih =>
    intro i0 i v h
    unfold arL at h
    simp only [gL] at h
    rw [List.map_cons]
    unfold lv_args
    by_cases hi : i = i0
    · subst hi
      rw [if_pos rfl] at h
      cases h
      exact List.mem_cons_self
    · rw [if_neg hi] at h
      refine List.mem_cons_of_mem _ ?_
      have h2 := ih _ _ _ h
      rw [cv_cat]
      cases hw : is2 (some w)
      · rw [hw] at h2; exact h2
      · rw [hw] at h2; exact h2
theorem ct_of {X : EX} {y : MD} {d mc ms : Nat} {av : List VV} {h : HP} {Q : Option VV → HP → Prop} (hpl : plainName y.1.cls = true) (hlen : szL av ≤ y.2.2.1) (k : Ev X y d mc ms Q 0 0 0 (arL 0 av) [] h) : Ct X y d mc ms av h Q := by
  refine Met.ofW (cc := y.2.1) (maxL := y.2.2.1) (ret := y.2.2.2) (ws' := TT) hpl rfl ?_
  intro p e s m args below meth c s₁ B hml hv
  obtain ⟨rfl, hcor⟩ := hv
  have hts := atoms_spec (ws := wsM y) B.pre
  have hin := (name_of_methodNamed B.named B.method).1
  have hown : s.vm.findClass y.1.cls = some m.cls := findClass_of_methodNamed B.named
  rw [lg_entry_eq]
  refine k p e s m _ below meth c s.heap [] _ ⟨B.exec, B.bytes, hml, B.returns, hown, fun w hw => hts w (List.mem_cons_of_mem _ hw), B.notSynchronized, hin, hcor.2.1, hcor.2.2, ?_⟩ hcor.1 va_S.rf ⟨_, lv_entry (av.map (cv X)) (by rw [szL_eq]; exact hlen), arL_in av 0⟩
  rw [hcor.1.1]
  omega
section R5
variable {X : EX} {y : MD} {d mc ms : Nat} {Q : Option VV → HP → Prop} {cells slots pc pc' : Nat} {ls : ZL} {st : List VV} {h : HP}
theorem e_nret {x : Int32} {ty : FieldType} (hd : At y.2.1 pc .ireturn 1 pc') (hr : y.2.2.2 = some ty) (hn : narrow ty (.int x) = .int x) (hc : cells ≤ mc) (hs : slots ≤ ms) (hQ : Q (some (vI x)) h) : Ev X y d mc ms Q cells slots pc ls [vI x] h := by
  obtain ⟨hd, rfl⟩ := hd
  intro p e s m args below meth c H locs lsr C hC hS hl
  obtain ⟨hx, hb, hml, hret, hown, hts, hlk, hnm, hK, hP, hsz⟩ := C
  refine W.widen hc hs ?_
  exact W.zret (ty := ty) hx hb (hret.trans hr) hn (fun t ht hW => ⟨⟨some (vI x), h, rfl, hQ, cor_of hK hP hC hS ht hW⟩, hS.F ht⟩) hS.2.2 hd
theorem e_ireturn {x : Int32} (hd : At y.2.1 pc .ireturn 1 pc') (hr : y.2.2.2 = some .int) (hc : cells ≤ mc) (hs : slots ≤ ms) (hQ : Q (some (vI x)) h) : Ev X y d mc ms Q cells slots pc ls [vI x] h := e_nret hd hr rfl hc hs hQ
theorem e_zreturn {x : Int32} (hd : At y.2.1 pc .ireturn 1 pc') (hr : y.2.2.2 = some .boolean) (hx : x = 0 ∨ x = 1) (hc : cells ≤ mc) (hs : slots ≤ ms) (hQ : Q (some (vI x)) h) : Ev X y d mc ms Q cells slots pc ls [vI x] h := e_nret hd hr (by rcases hx with rfl | rfl <;> decide) hc hs hQ
theorem e_lreturn {x : Int64} (hd : At y.2.1 pc .lreturn 1 pc') (hr : y.2.2.2 = some .long) (hc : cells ≤ mc) (hs : slots ≤ ms) (hQ : Q (some (vL x)) h) : Ev X y d mc ms Q cells slots pc ls [vL x] h := by
  obtain ⟨hd, rfl⟩ := hd
  intro p e s m args below meth c H locs lsr C hC hS hl
  obtain ⟨hx, hb, hml, hret, hown, hts, hlk, hnm, hK, hP, hsz⟩ := C
  refine W.widen hc hs ?_
  exact W.lret hx hb (hret.trans hr) (fun t ht hW => ⟨⟨some (vL x), h, rfl, hQ, cor_of hK hP hC hS ht hW⟩, hS.F ht⟩) hS.2.2 hd
theorem e_areturn {r : Option Nat} {C0 : String} (hd : At y.2.1 pc .areturn 1 pc') (hr : y.2.2.2 = some (.object C0)) (hc : cells ≤ mc) (hs : slots ≤ ms) (hQ : Q (some (vR r)) h) : Ev X y d mc ms Q cells slots pc ls [vR r] h := by
  obtain ⟨hd, rfl⟩ := hd
  intro p e s m args below meth c H locs lsr C hC hS hl
  obtain ⟨hx, hb, hml, hret, hown, hts, hlk, hnm, hK, hP, hsz⟩ := C
  refine W.widen hc hs ?_
  refine W.aret (v := cv X (vR r)) hx hb (hret.trans hr) (Or.inl ⟨_, rfl⟩) ?_ (fun t ht hW => ⟨⟨some (vR r), h, rfl, hQ, cor_of hK hP hC hS ht hW⟩, hS.F ht⟩) hS.2.2 hd
  cases r with
  | none => exact Or.inl rfl
  | some a => exact Or.inr ⟨_, rfl⟩
theorem e_return (hd : At y.2.1 pc .return_ 1 pc') (hr : y.2.2.2 = none) (hc : cells ≤ mc) (hs : slots ≤ ms) (hQ : Q none h) : Ev X y d mc ms Q cells slots pc ls [] h := by
  obtain ⟨hd, rfl⟩ := hd
  intro p e s m args below meth c H locs lsr C hC hS hl
  obtain ⟨hx, hb, hml, hret, hown, hts, hlk, hnm, hK, hP, hsz⟩ := C
  refine W.widen hc hs ?_
  exact W.vret hx hb (hret.trans hr) (fun t ht hW => ⟨⟨none, h, rfl, hQ, cor_of hK hP hC hS ht hW⟩, hS.F ht⟩) hS.2.2 hd
theorem e_widen {k n : Nat} (h1 : cells ≤ k) (h2 : slots ≤ n) (kk : Ev X y d mc ms Q k n pc ls st h) : Ev X y d mc ms Q cells slots pc ls st h := by
  intro p e s m args below meth c H locs lsr C hC hS hl
  exact W.widen h1 h2 (kk p e s m args below meth c H locs lsr C hC hS hl)
end R5
/-- an object or array of kind t of ours -/
def Is (h : HP) (a t : Nat) : Prop := 32 ≤ a ∧ a < hZ h ∧ hT h a = t
theorem ent_obj {X : EX} {h : HP} {a ci : Nat} (hc : ci < 10) (h1 : hT h a = ci + 1) : ent X h a = .inr (ci, (List.range (nF ci)).map (fun i => if isR ci i then va_rf ((hR h a i).map (ad X)) else .int (hI h a i))) := by
  unfold ent
  rw [h1, if_pos (by omega)]
  rfl
theorem ent_int {X : EX} {h : HP} {a t : Nat} (ht : t = 11 ∨ t = 12 ∨ t = 13 ∨ t = 15) (h1 : hT h a = t) : ent X h a = .inl (xA X t, hN h a, .inl (hI h a)) := by
  unfold ent
  rw [h1, if_neg (by omega), if_neg (by omega), if_pos (by omega)]
theorem ent_long {X : EX} {h : HP} {a : Nat} (h1 : hT h a = 14) : ent X h a = .inl (xA X 14, hN h a, .inr (.inl (hL h a))) := by
  unfold ent
  rw [h1, if_neg (by omega), if_pos rfl]
theorem ent_ref {X : EX} {h : HP} {a t : Nat} (ht : 16 ≤ t) (h1 : hT h a = t) : ent X h a = .inl (xA X t, hN h a, .inr (.inr (.inr (.inr (fun i => (hR h a i).map (ad X)))))) := by
  unfold ent
  rw [h1, if_neg (by omega), if_neg (by omega), if_neg (by omega)]
/-- a class of the table -/
def Cl (ci : Nat) (C : String) : Prop := ci < 10 ∧ ∃ r, vwCl[ci]? = some r ∧ r.1 = C
/-- links of calls, and what the tables say of the callee -/
def MdOk (y : MD) : Prop := cw y ∈ TT ∧ (y.1.cls ≠ "java/lang/invoke/MethodHandle" ∧ y.1.cls ≠ "java/lang/invoke/VarHandle") ∧ .initialized y.1.cls ∈ TT
def npar (y : MD) (n : Nat) : Prop := (parseMethodDescriptor y.1.desc).map (fun d => d.parameters.length) = some n
def CalV (own : String) (ix ci : Nat) (y : MD) (n : Nat) : Prop := MdOk y ∧ npar y n ∧ Cl ci y.1.cls ∧ .methodLink own ix y.1 ∈ TT ∧ .instanceMethod y.1 ∈ TT ∧ .selects y.1.cls y.1 y.1 ∈ TT
def CalS (own : String) (ix : Nat) (y : MD) (n : Nat) : Prop := MdOk y ∧ npar y n ∧ .methodLink own ix y.1 ∈ TT ∧ .static y.1 ∈ TT
def CalSN (own : String) (ix : Nat) (y : MD) (n : Nat) : Prop := MdOk y ∧ npar y n ∧ .methodLinkNest own ix y.1 RX8 ∈ nestW ∧ .static y.1 ∈ TT
def CalI (own : String) (ix : Nat) (y : MD) (n : Nat) : Prop := MdOk y ∧ npar y n ∧ y.2.2.2 = none ∧ y.1.name = "<init>" ∧ .methodLink own ix y.1 ∈ TT ∧ .instanceMethod y.1 ∈ TT
def CalIN (own : String) (ix : Nat) (y : MD) (n : Nat) : Prop := MdOk y ∧ npar y n ∧ y.2.2.2 = none ∧ y.1.name = "<init>" ∧ .methodLinkNest own ix y.1 RX8 ∈ nestW ∧ .instanceMethod y.1 ∈ TT
theorem goodM {y : MD} (h : MdOk y) : ∀ w ∈ wsM y, w ∈ TT := fun w hw => by
  rcases List.mem_cons.mp hw with rfl | hw
  · exact h.1
  · exact hw
/-- categories of the stack below a call -/
def catL (st : List VV) : Nat := (st.map (fun v => if is2 (some v) then 2 else 1)).sum
theorem catL_eq {X : EX} (st : List VV) : ((st.map (cv X)).map fun v => v.category).sum = catL st := by
  unfold catL
  rw [List.map_map]
  congr 1
  apply List.map_congr_left
  intro v _
  exact cv_cat
section R6
variable {p : Program} {l : Launch} {e : Env} {R : Room} {s : State} {m : MethodId} {args : Array Value} {below : List Frame} {meth : Method} {c : Code} {H : Heap} {locs : List Loc} {cells slots : Nat} {Qs : State → Prop}
theorem ev_call {X : EX} {Q' : Option VV → HP → Prop} {pc : Nat} {lsr : Array Slot} {st0 rest : List Value} {mc ms : Nat} {a : Array Value} (hr : va_Run p l e R s m args below meth c H locs cells slots mc ms (F0 m pc lsr st0) rest (Qm X Q' a) (AA X)) (hS : va_S (AA X) s.heap H locs)
    (kk : ∀ (v : Option VV) (h' : HP) (H1 : Heap) (locs1 : List Loc), Q' v h' → CorH X h' H1 → va_S (AA X) s.heap H1 locs1 → W p l e R s m args below meth c H1 locs1 (cells + mc) (slots + ms) Qs (F0 m (pc + 3) lsr ((v.map (cv X)).toList ++ rest))) : W p l e R s m args below meth c H locs cells slots Qs (F0 m pc lsr st0) := by
  intro T hT X0
  obtain ⟨v, st₀, t, T', L, h0, X', hL, e1, e2, ⟨⟨v', h', hv, hq, hc⟩, hz, hk⟩, st⟩ := hr T hT X0
  cases hv
  rw [h0] at hz hk
  obtain ⟨t2, a1, b1⟩ := kk v' h' T'.heap (locs ++ L) hq (by rw [e1]; exact hc.1)
    ⟨Nat.le_trans hS.1 (by rw [e1]; exact hz), fun q h1 h2 => by rw [e1, hk q (Nat.lt_of_lt_of_le h1 hS.1) h2]; exact hS.2.1 q h1 h2, fun q hq => by
      rcases List.mem_append.mp hq with h | h
      · exact hS.2.2 q h
      · exact hL q h⟩ T' rfl X'
  exact ⟨t2, st t2 a1, b1⟩
end R6
section R7
variable {X : EX} {y : MD} {d mc ms : Nat} {Q : Option VV → HP → Prop} {cells slots pc pc' : Nat} {ls : ZL} {st rest : List VV} {h : HP} {y' : MD} {d' mc' ms' n ix ci : Nat} {as : List VV} {Q' : Option VV → HP → Prop}
theorem rest_cons {X : EX} (v : Option VV) (rest : List VV) : (v.map (cv X)).toList ++ rest.map (cv X) = (v.toList ++ rest).map (cv X) := by
  cases v <;> rfl
theorem cor_call {X : EX} {h : HP} {s : State} {H : Heap} {locs : List Loc} (hK : Kn X s) (hP : Pre X s s.heap) (hC : CorH X h H) (hS : va_S (AA X) s.heap H locs) (As : List Value) : PreS s H (va_Pc As (fun U => Cor X h U)) As :=
  ⟨blind As, fun U hU hW => ⟨rfl, cor_of hK hP hC hS hU hW⟩⟩
theorem room_ok {y' : MD} (hml : y'.2.2.1 ≤ 12) (hdd : d' + 1 ≤ d) : (rmd d' mc' ms').frames + 1 ≤ (rmd d mc ms).frames ∧ 8 + (y'.2.2.1 + 11) + (rmd d' mc' ms').locals ≤ (rmd d mc ms).locals := by
  refine ⟨hdd, ?_⟩
  show 8 + (y'.2.2.1 + 11) + 40 * d' ≤ 40 * d
  omega
theorem e_invv {a : Nat} (hd : At y.2.1 pc (.invokevirtual ix) 3 pc') (cal : CalV y.1.cls ix ci y' n) (hc : Ct X y' d' mc' ms' (vR (some a) :: as) h Q') (hst : st = as.reverse ++ vR (some a) :: rest) (hn : as.length = n) (hT : Is h a (ci + 1)) (hml : y'.2.2.1 ≤ 12) (hdd : d' + 1 ≤ d) (hcc : cells + mc' ≤ mc) (hss : slots + ms' ≤ ms) (hcat : catL rest ≤ 8)
    (k : ∀ v h', Q' v h' → Ev X y d mc ms Q (cells + mc') (slots + ms') pc' ls (v.toList ++ rest) h') : Ev X y d mc ms Q cells slots pc ls st h := by
  obtain ⟨hd, rfl⟩ := hd
  intro p e s m args below meth c H locs lsr C hC hS hl
  obtain ⟨lv, hv, -⟩ := id hl
  obtain ⟨hx, hb, hmx, hret, hown, hts, hlk, hnm, hK, hP, hsz⟩ := id C
  obtain ⟨hok, hnp, ⟨hci, r, hr, hrc⟩, w1, w2, w3⟩ := cal
  have he := wl_get (X := X) hT.1 hT.2.1
  rw [ent_obj hci hT.2.2] at he
  have hgood : GoodIn TT (wsV y.1.cls ix y'.1.cls y'.1 (wsM y')) := tt_goodIn (fun w hw => by
    rcases List.mem_append.mp hw with hw | hw
    · simp only [List.mem_cons, List.not_mem_nil, or_false] at hw
      rcases hw with rfl | rfl | rfl | rfl
      · exact w1
      · exact w2
      · exact w3
      · exact hok.2.2
    · exact goodM hok w hw)
  have hrv := va_recv hK.1 hC.2.2 hr he
  rw [hrc] at hrv
  have hpr : PreV s H y'.1.cls (ad X a) (va_Pc ((vR (some a) :: as).map (cv X)) (fun U => Cor X h U)) (as.map (cv X)) := ⟨blind _, hrv, fun U hU hW => ⟨rfl, cor_of hK hP hC hS hU hW⟩⟩
  have hstk : st.map (cv X) = (as.map (cv X)).reverse ++ .ref (ad X a) :: rest.map (cv X) := by
    rw [hst, List.map_append, List.map_reverse]
    rfl
  have run := va_runV (l := xl X) (e := e) (R := rmd d mc ms) (below := below) (meth := meth) (locs := locs) (cells := cells) (slots := slots) (rest := rest.map (cv X)) (g := F0 m pc lsr (st.map (cv X))) ⟨hx, hb, hmx, hown, hts⟩ hc
    (cwV n hts hgood rfl rfl rfl ⟨rfl, hok.2.1.1, hok.2.1.2, hnp⟩ (room_ok hml hdd)) hpr rfl (by rw [List.length_map]; exact hn) hv.1 hstk (lv_room (by rw [catL_eq]; exact hcat)) (by rw [hb] at *; exact hd) ⟨hcc, hss⟩
  refine ev_call run hS (fun v h' H1 locs1 q hC' hS' => ?_)
  rw [rest_cons]
  exact k v h' q p e s m args below meth c H1 locs1 lsr C hC' hS' hl
theorem e_invs (hd : At y.2.1 pc (.invokestatic ix) 3 pc') (cal : CalS y.1.cls ix y' n) (hc : Ct X y' d' mc' ms' as h Q') (hst : st = as.reverse ++ rest) (hn : as.length = n) (hml : y'.2.2.1 ≤ 12) (hdd : d' + 1 ≤ d) (hcc : cells + mc' ≤ mc) (hss : slots + ms' ≤ ms) (hcat : catL rest ≤ 8)
    (k : ∀ v h', Q' v h' → Ev X y d mc ms Q (cells + mc') (slots + ms') pc' ls (v.toList ++ rest) h') : Ev X y d mc ms Q cells slots pc ls st h := by
  obtain ⟨hd, rfl⟩ := hd
  intro p e s m args below meth c H locs lsr C hC hS hl
  obtain ⟨lv, hv, -⟩ := id hl
  obtain ⟨hx, hb, hmx, hret, hown, hts, hlk, hnm, hK, hP, hsz⟩ := id C
  obtain ⟨hok, hnp, w1, w2⟩ := cal
  have hgood : GoodIn TT (va_wsS y.1.cls ix y'.1 (wsM y')) := tt_goodIn (fun w hw => by
    rcases List.mem_append.mp hw with hw | hw
    · simp only [List.mem_cons, List.not_mem_nil, or_false] at hw
      rcases hw with rfl | rfl | rfl
      · exact w1
      · exact w2
      · exact hok.2.2
    · exact goodM hok w hw)
  have hstk : st.map (cv X) = (as.map (cv X)).reverse ++ rest.map (cv X) := by
    rw [hst, List.map_append, List.map_reverse]
  have run := va_runS (l := xl X) (e := e) (R := rmd d mc ms) (below := below) (meth := meth) (locs := locs) (cells := cells) (slots := slots) (rest := rest.map (cv X)) (g := F0 m pc lsr (st.map (cv X))) ⟨hx, hb, hmx, hown, hts⟩ hc
    (va_cwS n hts hgood rfl rfl rfl ⟨hok.2.1.1, hok.2.1.2, hnp⟩ (room_ok hml hdd)) (cor_call hK hP hC hS _) rfl (by rw [List.length_map]; exact hn) hv.1 hstk (lv_room (by rw [catL_eq]; exact hcat)) hd ⟨hcc, hss⟩
  refine ev_call run hS (fun v h' H1 locs1 q hC' hS' => ?_)
  rw [rest_cons]
  exact k v h' q p e s m args below meth c H1 locs1 lsr C hC' hS' hl
theorem e_invsN (hd : At y.2.1 pc (.invokestatic ix) 3 pc') (cal : CalSN y.1.cls ix y' n) (hc : Ct X y' d' mc' ms' as h Q') (hst : st = as.reverse ++ rest) (hn : as.length = n) (hml : y'.2.2.1 ≤ 12) (hdd : d' + 1 ≤ d) (hcc : cells + mc' ≤ mc) (hss : slots + ms' ≤ ms) (hcat : catL rest ≤ 8)
    (k : ∀ v h', Q' v h' → Ev X y d mc ms Q (cells + mc') (slots + ms') pc' ls (v.toList ++ rest) h') : Ev X y d mc ms Q cells slots pc ls st h := by
  obtain ⟨hd, rfl⟩ := hd
  intro p e s m args below meth c H locs lsr C hC hS hl
  obtain ⟨lv, hv, -⟩ := id hl
  obtain ⟨hx, hb, hmx, hret, hown, hts, hlk, hnm, hK, hP, hsz⟩ := id C
  obtain ⟨hok, hnp, w1, w2⟩ := cal
  have hstk : st.map (cv X) = (as.map (cv X)).reverse ++ rest.map (cv X) := by
    rw [hst, List.map_append, List.map_reverse]
  have run := va_runSN (l := xl X) (e := e) (R := rmd d mc ms) (below := below) (meth := meth) (locs := locs) (cells := cells) (slots := slots) (rest := rest.map (cv X)) (g := F0 m pc lsr (st.map (cv X))) ⟨hx, hb, hmx, hown, hts⟩ hc
    ⟨va_cnB (y := y'.1) n hts (tt_goodIn (goodM hok)) rfl rfl rfl (hK.2.1 _ w1) (hts _ hok.2.2) ⟨hok.2.1.1, hok.2.1.2, hnp⟩ (room_ok hml hdd), hts _ w2, trivial⟩ (cor_call hK hP hC hS _) rfl (by rw [List.length_map]; exact hn) hv.1 hstk (lv_room (by rw [catL_eq]; exact hcat)) hd ⟨hcc, hss⟩
  refine ev_call run hS (fun v h' H1 locs1 q hC' hS' => ?_)
  rw [rest_cons]
  exact k v h' q p e s m args below meth c H1 locs1 lsr C hC' hS' hl
theorem e_invi {a : Nat} (hd : At y.2.1 pc (.invokespecial ix) 3 pc') (cal : CalI y.1.cls ix y' n) (hc : Ct X y' d' mc' ms' (vR (some a) :: as) h Q') (hst : st = as.reverse ++ vR (some a) :: rest) (hn : as.length = n) (hml : y'.2.2.1 ≤ 12) (hdd : d' + 1 ≤ d) (hcc : cells + mc' ≤ mc) (hss : slots + ms' ≤ ms) (hcat : catL rest ≤ 8)
    (k : ∀ v h', Q' v h' → Ev X y d mc ms Q (cells + mc') (slots + ms') pc' ls (v.toList ++ rest) h') : Ev X y d mc ms Q cells slots pc ls st h := by
  obtain ⟨hd, rfl⟩ := hd
  intro p e s m args below meth c H locs lsr C hC hS hl
  obtain ⟨lv, hv, -⟩ := id hl
  obtain ⟨hx, hb, hmx, hret, hown, hts, hlk, hnm, hK, hP, hsz⟩ := id C
  obtain ⟨hok, hnp, hrn, hy1, w1, w2⟩ := cal
  have hstk : st.map (cv X) = (as.map (cv X)).reverse ++ .ref (ad X a) :: rest.map (cv X) := by
    rw [hst, List.map_append, List.map_reverse]
    rfl
  have hcw : wsM y' = Cond.code y'.1 y'.2.1 y'.2.2.1 none :: TT := by unfold wsM cw; rw [hrn]
  have run := va_runI (l := xl X) (e := e) (R := rmd d mc ms) (below := below) (meth := meth) (locs := locs) (cells := cells) (slots := slots) (b := ad X a) (As := as.map (cv X)) (rest := rest.map (cv X)) (g := F0 m pc lsr (st.map (cv X))) ⟨hx, hb, hmx, hown, hts⟩ hc
    (cwI n hts (tt_goodIn (goodM hok)) hcw rfl rfl (hts _ hok.2.2) (hts _ w1) (hts _ w2) hy1 ⟨hok.2.1.1, hok.2.1.2, hnp⟩ (room_ok hml hdd)) (cor_call hK hP hC hS _) rfl (by rw [List.length_map]; exact hn) hv.1 hstk (lv_room (by rw [catL_eq]; exact hcat)) hd ⟨hcc, hss⟩
  refine ev_call run hS (fun v h' H1 locs1 q hC' hS' => ?_)
  rw [rest_cons]
  exact k v h' q p e s m args below meth c H1 locs1 lsr C hC' hS' hl
theorem e_inviN {a : Nat} (hd : At y.2.1 pc (.invokespecial ix) 3 pc') (cal : CalIN y.1.cls ix y' n) (hc : Ct X y' d' mc' ms' (vR (some a) :: as) h Q') (hst : st = as.reverse ++ vR (some a) :: rest) (hn : as.length = n) (hml : y'.2.2.1 ≤ 12) (hdd : d' + 1 ≤ d) (hcc : cells + mc' ≤ mc) (hss : slots + ms' ≤ ms) (hcat : catL rest ≤ 8)
    (k : ∀ v h', Q' v h' → Ev X y d mc ms Q (cells + mc') (slots + ms') pc' ls (v.toList ++ rest) h') : Ev X y d mc ms Q cells slots pc ls st h := by
  obtain ⟨hd, rfl⟩ := hd
  intro p e s m args below meth c H locs lsr C hC hS hl
  obtain ⟨lv, hv, -⟩ := id hl
  obtain ⟨hx, hb, hmx, hret, hown, hts, hlk, hnm, hK, hP, hsz⟩ := id C
  obtain ⟨hok, hnp, hrn, hy1, w1, w2⟩ := cal
  have hstk : st.map (cv X) = (as.map (cv X)).reverse ++ .ref (ad X a) :: rest.map (cv X) := by
    rw [hst, List.map_append, List.map_reverse]
    rfl
  have hcw : wsM y' = Cond.code y'.1 y'.2.1 y'.2.2.1 none :: TT := by unfold wsM cw; rw [hrn]
  have run := va_runIN (l := xl X) (e := e) (R := rmd d mc ms) (below := below) (meth := meth) (locs := locs) (cells := cells) (slots := slots) (b := ad X a) (As := as.map (cv X)) (rest := rest.map (cv X)) (g := F0 m pc lsr (st.map (cv X))) ⟨hx, hb, hmx, hown, hts⟩ hc
    ⟨va_cnB (y := y'.1) n hts (tt_goodIn (goodM hok)) hcw rfl rfl (hK.2.1 _ w1) (hts _ hok.2.2) ⟨hok.2.1.1, hok.2.1.2, hnp⟩ (room_ok hml hdd), hy1, hts _ w2⟩ (cor_call hK hP hC hS _) rfl (by rw [List.length_map]; exact hn) hv.1 hstk (lv_room (by rw [catL_eq]; exact hcat)) hd ⟨hcc, hss⟩
  refine ev_call run hS (fun v h' H1 locs1 q hC' hS' => ?_)
  rw [rest_cons]
  exact k v h' q p e s m args below meth c H1 locs1 lsr C hC' hS' hl
/-- invokespecial java/lang/Object.<init> -/
theorem e_objInit {a : Nat} (hd : At y.2.1 pc (.invokespecial ix) 3 pc') (w1 : .methodLink y.1.cls ix Lib.objectInit ∈ TT) (w2 : .instanceMethod Lib.objectInit ∈ TT) (w3 : .code Lib.objectInit ⟨#[0xb1]⟩ 1 none ∈ TT) (hdd : 1 ≤ d) (hcat : catL st ≤ 8)
    (k : Ev X y d mc ms Q cells slots pc' ls st h) : Ev X y d mc ms Q cells slots pc ls (vR (some a) :: st) h := by
  obtain ⟨hd, rfl⟩ := hd
  intro p e s m args below meth c H locs lsr C hC hS hl
  obtain ⟨lv, hv, -⟩ := id hl
  obtain ⟨hx, hb, hmx, hret, hown, hts, hlk, hnm, hK, hP, hsz⟩ := id C
  refine W.objInit hx hb hown (hts _ w1) (hts _ w2) (hts _ w3) rfl (by rw [hmx]; exact hv.1) rfl hd hdd ?_ (k p e s m args below meth c H locs lsr C hC hS hl)
  rw [catL_eq]
  show 2 * 0 + catL st + 12 ≤ 40 * d
  omega
end R7
end
section
/-! RULES over the heap: fields, arrays, new cells (written by wip/whole/gen6.py) -/
theorem uw_0 : u_ws RX0 TX0 6 = ([118, 120, 122, 124, 126, 128] : List Nat).filterMap (fun i => lw_tbl[i]?) := by decide +kernel
theorem uv_0 : ∀ w ∈ u_ws RX0 TX0 6, w ∈ TT := by
  intro w hw
  have hg : (u_ws RX0 TX0 6).all goodWord = true := by decide +kernel
  have h1 := List.all_eq_true.mp hg w hw
  rw [uw_0] at hw
  obtain ⟨j, -, hj⟩ := List.mem_filterMap.mp hw
  exact tt_of j hj h1
theorem uw_1 : u_ws RX1 TX1 7 = ([331, 333, 335, 337, 339, 341, 343] : List Nat).filterMap (fun i => lw_tbl[i]?) := by decide +kernel
theorem uv_1 : ∀ w ∈ u_ws RX1 TX1 7, w ∈ TT := by
  intro w hw
  have hg : (u_ws RX1 TX1 7).all goodWord = true := by decide +kernel
  have h1 := List.all_eq_true.mp hg w hw
  rw [uw_1] at hw
  obtain ⟨j, -, hj⟩ := List.mem_filterMap.mp hw
  exact tt_of j hj h1
theorem uw_2 : u_ws RX2 TX2 1 = ([140] : List Nat).filterMap (fun i => lw_tbl[i]?) := by decide +kernel
theorem uv_2 : ∀ w ∈ u_ws RX2 TX2 1, w ∈ TT := by
  intro w hw
  have hg : (u_ws RX2 TX2 1).all goodWord = true := by decide +kernel
  have h1 := List.all_eq_true.mp hg w hw
  rw [uw_2] at hw
  obtain ⟨j, -, hj⟩ := List.mem_filterMap.mp hw
  exact tt_of j hj h1
theorem uw_3 : u_ws RX3 TX3 4 = ([188, 190, 192, 194] : List Nat).filterMap (fun i => lw_tbl[i]?) := by decide +kernel
theorem uv_3 : ∀ w ∈ u_ws RX3 TX3 4, w ∈ TT := by
  intro w hw
  have hg : (u_ws RX3 TX3 4).all goodWord = true := by decide +kernel
  have h1 := List.all_eq_true.mp hg w hw
  rw [uw_3] at hw
  obtain ⟨j, -, hj⟩ := List.mem_filterMap.mp hw
  exact tt_of j hj h1
theorem uw_4 : u_ws RX4 TX4 4 = ([722, 724, 726, 728] : List Nat).filterMap (fun i => lw_tbl[i]?) := by decide +kernel
theorem uv_4 : ∀ w ∈ u_ws RX4 TX4 4, w ∈ TT := by
  intro w hw
  have hg : (u_ws RX4 TX4 4).all goodWord = true := by decide +kernel
  have h1 := List.all_eq_true.mp hg w hw
  rw [uw_4] at hw
  obtain ⟨j, -, hj⟩ := List.mem_filterMap.mp hw
  exact tt_of j hj h1
theorem uw_5 : u_ws RX5 TX5 3 = ([211, 213, 215] : List Nat).filterMap (fun i => lw_tbl[i]?) := by decide +kernel
theorem uv_5 : ∀ w ∈ u_ws RX5 TX5 3, w ∈ TT := by
  intro w hw
  have hg : (u_ws RX5 TX5 3).all goodWord = true := by decide +kernel
  have h1 := List.all_eq_true.mp hg w hw
  rw [uw_5] at hw
  obtain ⟨j, -, hj⟩ := List.mem_filterMap.mp hw
  exact tt_of j hj h1
theorem uw_6 : u_ws RX6 TX6 1 = ([179] : List Nat).filterMap (fun i => lw_tbl[i]?) := by decide +kernel
theorem uv_6 : ∀ w ∈ u_ws RX6 TX6 1, w ∈ TT := by
  intro w hw
  have hg : (u_ws RX6 TX6 1).all goodWord = true := by decide +kernel
  have h1 := List.all_eq_true.mp hg w hw
  rw [uw_6] at hw
  obtain ⟨j, -, hj⟩ := List.mem_filterMap.mp hw
  exact tt_of j hj h1
theorem uw_7 : u_ws RX7 TX7 4 = ([160, 162, 164, 166] : List Nat).filterMap (fun i => lw_tbl[i]?) := by decide +kernel
theorem uv_7 : ∀ w ∈ u_ws RX7 TX7 4, w ∈ TT := by
  intro w hw
  have hg : (u_ws RX7 TX7 4).all goodWord = true := by decide +kernel
  have h1 := List.all_eq_true.mp hg w hw
  rw [uw_7] at hw
  obtain ⟨j, -, hj⟩ := List.mem_filterMap.mp hw
  exact tt_of j hj h1
theorem uw_8 : u_ws RX8 TX8 9 = ([232, 234, 236, 238, 240, 242, 244, 246, 248] : List Nat).filterMap (fun i => lw_tbl[i]?) := by decide +kernel
theorem uv_8 : ∀ w ∈ u_ws RX8 TX8 9, w ∈ TT := by
  intro w hw
  have hg : (u_ws RX8 TX8 9).all goodWord = true := by decide +kernel
  have h1 := List.all_eq_true.mp hg w hw
  rw [uw_8] at hw
  obtain ⟨j, -, hj⟩ := List.mem_filterMap.mp hw
  exact tt_of j hj h1
theorem uw_9 : u_ws RX9 TX9 39 = ([883, 885, 887, 889, 891, 893, 895, 897, 899, 901, 903, 905, 907, 909, 911, 913, 915, 917, 919, 921, 923, 925, 927, 929, 931, 933, 935, 937, 939, 941, 943, 945, 947, 949, 951, 953, 955, 957, 959] : List Nat).filterMap (fun i => lw_tbl[i]?) := by decide +kernel
theorem uv_9 : ∀ w ∈ u_ws RX9 TX9 39, w ∈ TT := by
  intro w hw
  have hg : (u_ws RX9 TX9 39).all goodWord = true := by decide +kernel
  have h1 := List.all_eq_true.mp hg w hw
  rw [uw_9] at hw
  obtain ⟨j, -, hj⟩ := List.mem_filterMap.mp hw
  exact tt_of j hj h1
theorem cl_ok : ∀ (ci : Nat) (r : vw_C), vwCl[ci]? = some r → (∀ w ∈ u_ws r.1 r.2.1 r.2.2, w ∈ TT) ∧ (∀ k, k < r.2.2 → parseFieldDescriptor (r.2.1 k).2.2.1 = some (tyF ci k)) ∧ (∀ a, a < r.2.2 → ∀ b, b < r.2.2 → a ≠ b → (r.2.1 a).2.1 ≠ (r.2.1 b).2.1) ∧ r.2.2 = nF ci ∧ ci < 10 := by
  intro ci r h
  match ci, h with
  | 0, h => cases h; exact ⟨uv_0, tyX0_ok, nmX0, rfl, by decide⟩
  | 1, h => cases h; exact ⟨uv_1, tyX1_ok, nmX1, rfl, by decide⟩
  | 2, h => cases h; exact ⟨uv_2, tyX2_ok, nmX2, rfl, by decide⟩
  | 3, h => cases h; exact ⟨uv_3, tyX3_ok, nmX3, rfl, by decide⟩
  | 4, h => cases h; exact ⟨uv_4, tyX4_ok, nmX4, rfl, by decide⟩
  | 5, h => cases h; exact ⟨uv_5, tyX5_ok, nmX5, rfl, by decide⟩
  | 6, h => cases h; exact ⟨uv_6, tyX6_ok, nmX6, rfl, by decide⟩
  | 7, h => cases h; exact ⟨uv_7, tyX7_ok, nmX7, rfl, by decide⟩
  | 8, h => cases h; exact ⟨uv_8, tyX8_ok, nmX8, rfl, by decide⟩
  | 9, h => cases h; exact ⟨uv_9, tyX9_ok, nmX9, rfl, by decide⟩
  | n + 10, h => simp [vwCl] at h
/-- a field: through the constant ix of own's pool, field k of the class ci -/
def Fld (own : String) (ix ci k : Nat) (ty : FieldType) (fin : Bool) : Prop := ∃ r, vwCl[ci]? = some r ∧ k < r.2.2 ∧ .fieldLink own ix (r.2.1 k).1 (r.2.1 k).2.1 (r.2.1 k).2.2.1 ∈ TT ∧ tyF ci k = ty ∧ (r.2.1 k).2.2.2 = fin ∧ (r.2.1 k).1 = r.1
theorem fs_at {X : EX} {h : HP} {a ci k : Nat} (hk : k < nF ci) : ((List.range (nF ci)).map (fun i => if isR ci i then va_rf ((hR h a i).map (ad X)) else .int (hI h a i)))[k]? = some (if isR ci k then va_rf ((hR h a k).map (ad X)) else .int (hI h a k)) := by
  rw [List.getElem?_map, List.getElem?_range hk]; rfl
theorem fs_set {X : EX} {h h' : HP} {a ci k : Nat} {v : Value} (hk : k < nF ci) (hv : (if isR ci k then va_rf ((hR h' a k).map (ad X)) else .int (hI h' a k)) = v) (ho : ∀ j, j ≠ k → hI h' a j = hI h a j ∧ hR h' a j = hR h a j) :
    ((List.range (nF ci)).map (fun i => if isR ci i then va_rf ((hR h a i).map (ad X)) else .int (hI h a i))).set k v = (List.range (nF ci)).map (fun i => if isR ci i then va_rf ((hR h' a i).map (ad X)) else .int (hI h' a i)) := by
  apply List.ext_getElem?
  intro j
  rw [List.getElem?_set]
  by_cases hj : j < nF ci
  · rw [fs_at hj, fs_at hj, List.length_map, List.length_range]
    by_cases hjk : k = j
    · subst hjk
      rw [if_pos rfl, if_pos hk, hv]
    · rw [if_neg hjk, (ho j (fun q => hjk q.symm)).1, (ho j (fun q => hjk q.symm)).2]
  · rw [if_neg (by omega), List.getElem?_eq_none (by simp; omega), List.getElem?_eq_none (by simp; omega)]
theorem corH_set {X : EX} {h h' : HP} {H H1 : Heap} {a : Nat} (hC : CorH X h H) (h1 : 32 ≤ a) (h2 : a < hZ h) (hz : hZ h' = hZ h) (he : va_at (xD X) vwCl (ad X a, ent X h' a) H1) (ho : ∀ k, k ≠ a → ent X h' k = ent X h k) (z : H1.size = H.size) (oq : ∀ q : Nat, q ≠ ad X a → H1[q]? = H[q]?) : CorH X h' H1 := by
  obtain ⟨q1, q2, q3⟩ := hC
  refine ⟨by rw [z, q1, hz], by rw [hz]; exact q2, ?_⟩
  rw [← wl_set h1 h2 hz rfl ho]
  exact q3.set (wl_D X h) (wl_get h1 h2) he oq
theorem corH_push {X : EX} {h h' : HP} {H H1 : Heap} (hC : CorH X h H) (hz : hZ h' = hZ h + 1) (he : va_at (xD X) vwCl (ad X (hZ h), ent X h' (hZ h)) H1) (ho : ∀ k, k < hZ h → ent X h' k = ent X h k) (z : H1.size = H.size + 1) (oq : ∀ q : Nat, q < H.size → H1[q]? = H[q]?) : CorH X h' H1 := by
  obtain ⟨q1, q2, q3⟩ := hC
  refine ⟨by rw [z, q1, hz]; omega, by omega, ?_⟩
  rw [← wl_push q2 hz rfl ho]
  refine (q3.kept (fun k q hq => oq _ ((q3 k q hq).lt))).app (fun k q hq => ?_)
  have hk : k = 0 := by
    have := (List.getElem?_eq_some_iff.mp hq).1
    simpa using this
  subst hk
  cases hq
  exact he
theorem ent_wI {X : EX} {h : HP} {a i k : Nat} {v : Int32} (hk : k ≠ a) : ent X (wI h a i v) k = ent X h k := by
  have e : hI (wI h a i v) k = hI h k := funext fun j => up2_a hk
  unfold ent
  rw [e]
  rfl
theorem ent_wL {X : EX} {h : HP} {a i k : Nat} {v : Int64} (hk : k ≠ a) : ent X (wL h a i v) k = ent X h k := by
  have e : hL (wL h a i v) k = hL h k := funext fun j => up2_a hk
  unfold ent
  rw [e]
  rfl
theorem ent_wR {X : EX} {h : HP} {a i k : Nat} {v : Option Nat} (hk : k ≠ a) : ent X (wR h a i v) k = ent X h k := by
  have e : hR (wR h a i v) k = hR h k := funext fun j => up2_a hk
  unfold ent
  rw [e]
  rfl
theorem ad_A {X : EX} {a : Nat} (h : 32 ≤ a) : AA X (ad X a) := by
  unfold ad AA
  rw [if_neg (by omega)]
  omega
theorem ad_sz {X : EX} {h : HP} {H : Heap} (hC : CorH X h H) : ad X (hZ h) = H.size := by
  unfold ad
  have := hC.2.1
  rw [if_neg (by omega), hC.1]
section R8
variable {X : EX} {y : MD} {d mc ms : Nat} {Q : Option VV → HP → Prop} {cells slots pc pc' : Nat} {ls : ZL} {st : List VV} {h : HP} {ix ci kf a : Nat}
theorem e_getI {ty : FieldType} {fin : Bool} (hd : At y.2.1 pc (.getfield ix) 3 pc') (F : Fld y.1.cls ix ci kf ty fin) (hr : isR ci kf = false) (ok : Is h a (ci + 1)) (k : Ev X y d mc ms Q cells slots pc' ls (vI (hI h a kf) :: st) h) : Ev X y d mc ms Q cells slots pc ls (vR (some a) :: st) h := by
  obtain ⟨hd, rfl⟩ := hd
  intro p e s m args below meth c H locs lsr C hC hS hl
  have kk := k p e s m args below meth c H locs lsr C hC hS hl
  obtain ⟨hx, hb, hmx, hret, hown, hts, hlk, hnm, hK, hP, hsz⟩ := C
  obtain ⟨r, q1, q2, q3, q4, q5, q6⟩ := F
  obtain ⟨c1, c2, c3, c4, c5⟩ := cl_ok ci r q1
  have he := wl_get (X := X) ok.1 ok.2.1
  rw [ent_obj c5 ok.2.2] at he
  refine va_get (C := r.1) (T := r.2.1) (N := r.2.2) hx hb hts c1 hown hK.1 hC.2.2 _ he q1 kf q2 (hts _ q3) (fun _ z => z) (v := .int (hI h a kf)) ?_ hd kk
  rw [fs_at (by rw [← c4]; exact q2), hr]
  rfl
theorem e_getR {ty : FieldType} {fin : Bool} (hd : At y.2.1 pc (.getfield ix) 3 pc') (F : Fld y.1.cls ix ci kf ty fin) (hr : isR ci kf = true) (ok : Is h a (ci + 1)) (k : Ev X y d mc ms Q cells slots pc' ls (vR (hR h a kf) :: st) h) : Ev X y d mc ms Q cells slots pc ls (vR (some a) :: st) h := by
  obtain ⟨hd, rfl⟩ := hd
  intro p e s m args below meth c H locs lsr C hC hS hl
  have kk := k p e s m args below meth c H locs lsr C hC hS hl
  obtain ⟨hx, hb, hmx, hret, hown, hts, hlk, hnm, hK, hP, hsz⟩ := C
  obtain ⟨r, q1, q2, q3, q4, q5, q6⟩ := F
  obtain ⟨c1, c2, c3, c4, c5⟩ := cl_ok ci r q1
  have he := wl_get (X := X) ok.1 ok.2.1
  rw [ent_obj c5 ok.2.2] at he
  refine va_get (C := r.1) (T := r.2.1) (N := r.2.2) hx hb hts c1 hown hK.1 hC.2.2 _ he q1 kf q2 (hts _ q3) (fun _ z => z) (v := va_rf ((hR h a kf).map (ad X))) ?_ hd kk
  rw [fs_at (by rw [← c4]; exact q2), hr]
  rfl
/-- a field's store, of any kind -/
theorem put_core {v : VV} {h' : HP} {ty : FieldType} {fin : Bool} (hd : decode y.2.1 pc = .ok (.putfield ix, 3)) (F : Fld y.1.cls ix ci kf ty fin) (ok : Is h a (ci + 1)) (hfin : fin = false ∨ (y.1.name = "<init>" ∧ ∀ r, vwCl[ci]? = some r → r.1 = y.1.cls))
    (hn : narrow ty (cv X v) = cv X v) (hf : fits ty (cv X v) = true) (hz : hZ h' = hZ h) (hv : (if isR ci kf then va_rf ((hR h' a kf).map (ad X)) else .int (hI h' a kf)) = cv X v) (ho : ∀ j, j ≠ kf → hI h' a j = hI h a j ∧ hR h' a j = hR h a j) (ht : hT h' a = hT h a) (he' : ∀ q, q ≠ a → ent X h' q = ent X h q)
    (k : Ev X y d mc ms Q cells slots (pc + 3) ls st h') : Ev X y d mc ms Q cells slots pc ls (v :: vR (some a) :: st) h := by
  intro p e s m args below meth c H locs lsr C hC hS hl
  have kk := fun H1 locs1 hC1 hS1 => k p e s m args below meth c H1 locs1 lsr C hC1 hS1 hl
  obtain ⟨hx, hb, hmx, hret, hown, hts, hlk, hnm, hK, hP, hsz⟩ := C
  obtain ⟨r, q1, q2, q3, q4, q5, q6⟩ := F
  obtain ⟨c1, c2, c3, c4, c5⟩ := cl_ok ci r q1
  have he := wl_get (X := X) ok.1 ok.2.1
  rw [ent_obj c5 ok.2.2] at he
  have hap := va_apart (own := y.1.cls) hts c1 (tyF ci) c2 c3 hK.1 q1
  obtain ⟨r', h1, cell, g1, g2, g3, g4⟩ := hC.2.2 _ _ he
  have hrr : r' = r := Option.some.inj (h1.symm.trans q1)
  subst hrr
  obtain ⟨hSl, hfc, kC, hkC, hkind⟩ := hK.1.1 ci _ q1
  obtain ⟨cf, kf0, fi, f, hi, hsl⟩ := hSl kf q2
  have hlay := hts _ (c1 _ (u_in_lay q2))
  have hst := (u_facts hfc hkC (u_lays hts c1 q2) hi).1
  have hd0 : parseFieldDescriptor (r'.2.1 kf).2.2.1 = some ty := by rw [c2 kf q2, q4]
  have hlen : kf < ((List.range (nF ci)).map (fun i => if isR ci i then va_rf ((hR h a i).map (ad X)) else .int (hI h a i))).length := by
    rw [List.length_map, List.length_range, ← c4]; exact q2
  have fin2 : ∀ H1 : Heap, H1[ad X a]? = some (cell.setSlot f.slot (cv X v)) → H1.size = H.size → (∀ q, q ≠ ad X a → H1[q]? = H[q]?) →
      W p (xl X) e (rmd d mc ms) s m args below meth c H1 (locs ++ [⟨ad X a, f.slot⟩]) cells slots (MQ below (Qm X Q) args s mc ms (AA X)) (F0 m (pc + 3) lsr (st.map (cv X))) := by
    intro H1 e1 e2 e3
    rw [hsl] at e1
    refine kk H1 _ (corH_set hC ok.1 ok.2.1 hz ?_ he' e2 e3) (hS.put e2 e3 (ad_A ok.1))
    rw [ent_obj c5 (ht.trans ok.2.2)]
    refine ⟨r', q1, ?_⟩
    have hset := fs_set (X := X) (h := h) (h' := h') (a := a) (ci := ci) (k := kf) (v := cv X v) (by rw [← c4]; exact q2) hv ho
    show t_OB (ad X a) _ _ _ H1 (vp_V ((List.range (nF ci)).map _))
    rw [← hset]
    exact t_OB.to (V := updV (vp_V _) kf (cv X v)) ⟨_, e1, g2, g3, t_set g4 hap q2 (cv X v)⟩ (fun j _ => vp_updV_set hlen (cv X v) j)
  have hslot : f.slot < cell.slots.size := by rw [hsl]; exact k2_hasslot (g4 kf q2)
  unfold u_lay at hlay
  rcases hfin with hfin | ⟨hin, hown2⟩
  · rw [if_neg (by rw [q5, hfin]; decide)] at hlay
    exact W.putK hx hb (f := f) ⟨hown, hts _ q3, ⟨_, _, _, hi⟩, hst⟩ (by rw [g2]; exact u_store hfc hkC hkind hlay hi hd0 hn hf) g1 g3 hslot rfl rfl hd fin2
  · cases hfb : fin with
    | false =>
      rw [if_neg (by rw [q5, hfb]; decide)] at hlay
      exact W.putK hx hb (f := f) ⟨hown, hts _ q3, ⟨_, _, _, hi⟩, hst⟩ (by rw [g2]; exact u_store hfc hkC hkind hlay hi hd0 hn hf) g1 g3 hslot rfl rfl hd fin2
    | true =>
      rw [if_pos (by rw [q5, hfb])] at hlay
      have hcf : m.cls = cf := by
        obtain ⟨_, _, c', _, _, _, -, -, hf', -, -, -, hown3, -⟩ := Cond.laysFinal_spec hlay
        have e1 : c' = cf := by have := hi.symm.trans hf'; simp at this; exact this.1.symm
        rw [q6, hown2 _ q1] at hown3
        rw [← e1]; exact Option.some.inj (hown.symm.trans hown3)
      exact W.putFinK hx hb hown (hts _ q3) hi hst hcf (hnm.trans hin) (by rw [g2]; exact u_fits hfc hkC hkind (Or.inr hlay) hi hd0 hn hf) g1 g3 hslot rfl rfl hd fin2
theorem e_putI {x : Int32} {fin : Bool} (hd : At y.2.1 pc (.putfield ix) 3 pc') (F : Fld y.1.cls ix ci kf .int fin) (hr : isR ci kf = false) (ok : Is h a (ci + 1)) (hfin : fin = false ∨ (y.1.name = "<init>" ∧ ∀ r, vwCl[ci]? = some r → r.1 = y.1.cls)) (k : Ev X y d mc ms Q cells slots pc' ls st (wI h a kf x)) : Ev X y d mc ms Q cells slots pc ls (vI x :: vR (some a) :: st) h := by
  obtain ⟨hd, rfl⟩ := hd
  refine put_core (v := vI x) (h' := wI h a kf x) hd F ok hfin rfl rfl rfl ?_ (fun j hj => ⟨up2_i hj, rfl⟩) rfl (fun q hq => ent_wI hq) k
  rw [hr]
  show Value.int (up2 _ _ _ _ _ _) = _
  rw [up2_s]
  rfl
theorem e_putZ {x : Int32} {fin : Bool} (hd : At y.2.1 pc (.putfield ix) 3 pc') (F : Fld y.1.cls ix ci kf .boolean fin) (hr : isR ci kf = false) (ok : Is h a (ci + 1)) (hfin : fin = false ∨ (y.1.name = "<init>" ∧ ∀ r, vwCl[ci]? = some r → r.1 = y.1.cls)) (hx : x = 0 ∨ x = 1) (k : Ev X y d mc ms Q cells slots pc' ls st (wI h a kf x)) : Ev X y d mc ms Q cells slots pc ls (vI x :: vR (some a) :: st) h := by
  obtain ⟨hd, rfl⟩ := hd
  refine put_core (v := vI x) (h' := wI h a kf x) hd F ok hfin (by rcases hx with rfl | rfl <;> rfl) (by rcases hx with rfl | rfl <;> rfl) rfl ?_ (fun j hj => ⟨up2_i hj, rfl⟩) rfl (fun q hq => ent_wI hq) k
  rw [hr]
  show Value.int (up2 _ _ _ _ _ _) = _
  rw [up2_s]
  rfl
theorem e_putR {r0 : Option Nat} {ty : FieldType} {fin : Bool} (hd : At y.2.1 pc (.putfield ix) 3 pc') (F : Fld y.1.cls ix ci kf ty fin) (hr : isR ci kf = true) (ok : Is h a (ci + 1)) (hfin : fin = false ∨ (y.1.name = "<init>" ∧ ∀ r, vwCl[ci]? = some r → r.1 = y.1.cls)) (k : Ev X y d mc ms Q cells slots pc' ls st (wR h a kf r0)) : Ev X y d mc ms Q cells slots pc ls (vR r0 :: vR (some a) :: st) h := by
  obtain ⟨hd, rfl⟩ := hd
  have hty : (∃ n, ty = .object n) ∨ ∃ t, ty = .array t := by
    obtain ⟨r, q1, q2, q3, q4, q5, q6⟩ := F
    unfold isR at hr
    rw [q4] at hr
    cases ty <;> first | exact Or.inl ⟨_, rfl⟩ | exact Or.inr ⟨_, rfl⟩ | cases hr
  refine put_core (v := vR r0) (h' := wR h a kf r0) hd F ok hfin ?_ ?_ rfl ?_ (fun j hj => ⟨rfl, up2_i hj⟩) rfl (fun q hq => ent_wR hq) k
  · cases r0 <;> rcases hty with ⟨n, rfl⟩ | ⟨t, rfl⟩ <;> rfl
  · cases r0 <;> rcases hty with ⟨n, rfl⟩ | ⟨t, rfl⟩ <;> rfl
  · rw [hr]
    show va_rf (Option.map _ (up2 _ _ _ _ _ _)) = _
    rw [up2_s]
    rfl
end R8
end
section
/-! RULES: arrays, new cells, statics, the pool's constants, JDK members (written by wip/whole/gen7.py) -/
section R9
variable {X : EX} {y : MD} {d mc ms : Nat} {Q : Option VV → HP → Prop} {cells slots pc pc' : Nat} {ls : ZL} {st : List VV} {h : HP} {ix a : Nat}
theorem e_iaload {i : Int32} (hd : At y.2.1 pc (.iaload) 1 pc') (ok : Is h a 13) (hin : vp_in i (hN h a)) (k : Ev X y d mc ms Q cells slots pc' ls (vI (hI h a i.toNatClampNeg) :: st) h) : Ev X y d mc ms Q cells slots pc ls (vI i :: vR (some a) :: st) h := by
  obtain ⟨hd, rfl⟩ := hd
  intro p e s m args below meth c H locs lsr C hC hS hl
  have kk := k p e s m args below meth c H locs lsr C hC hS hl
  obtain ⟨hx, hb, hmx, hret, hown, hts, hlk, hnm, hK, hP, hsz⟩ := C
  have he := wl_get (X := X) ok.1 ok.2.1
  rw [ent_int (by decide) ok.2.2] at he
  exact va_iald hx hb hK.1 hC.2.2 _ 2 he rfl hin hd kk
theorem e_caload {i : Int32} (hd : At y.2.1 pc (.caload) 1 pc') (ok : Is h a 12) (hin : vp_in i (hN h a)) (k : Ev X y d mc ms Q cells slots pc' ls (vI (hI h a i.toNatClampNeg) :: st) h) : Ev X y d mc ms Q cells slots pc ls (vI i :: vR (some a) :: st) h := by
  obtain ⟨hd, rfl⟩ := hd
  intro p e s m args below meth c H locs lsr C hC hS hl
  have kk := k p e s m args below meth c H locs lsr C hC hS hl
  obtain ⟨hx, hb, hmx, hret, hown, hts, hlk, hnm, hK, hP, hsz⟩ := C
  have he := wl_get (X := X) ok.1 ok.2.1
  rw [ent_int (by decide) ok.2.2] at he
  exact va_cald hx hb hK.1 hC.2.2 _ 1 he rfl hin hd kk
theorem e_baload {i : Int32} (hd : At y.2.1 pc (.baload) 1 pc') (ok : Is h a 11) (hin : vp_in i (hN h a)) (k : Ev X y d mc ms Q cells slots pc' ls (vI (hI h a i.toNatClampNeg) :: st) h) : Ev X y d mc ms Q cells slots pc ls (vI i :: vR (some a) :: st) h := by
  obtain ⟨hd, rfl⟩ := hd
  intro p e s m args below meth c H locs lsr C hC hS hl
  have kk := k p e s m args below meth c H locs lsr C hC hS hl
  obtain ⟨hx, hb, hmx, hret, hown, hts, hlk, hnm, hK, hP, hsz⟩ := C
  have he := wl_get (X := X) ok.1 ok.2.1
  rw [ent_int (by decide) ok.2.2] at he
  exact va_bald hx hb hK.1 hC.2.2 _ 0 he rfl hin hd kk
theorem e_zaload {i : Int32} (hd : At y.2.1 pc (.baload) 1 pc') (ok : Is h a 15) (hin : vp_in i (hN h a)) (k : Ev X y d mc ms Q cells slots pc' ls (vI (hI h a i.toNatClampNeg) :: st) h) : Ev X y d mc ms Q cells slots pc ls (vI i :: vR (some a) :: st) h := by
  obtain ⟨hd, rfl⟩ := hd
  intro p e s m args below meth c H locs lsr C hC hS hl
  have kk := k p e s m args below meth c H locs lsr C hC hS hl
  obtain ⟨hx, hb, hmx, hret, hown, hts, hlk, hnm, hK, hP, hsz⟩ := C
  have he := wl_get (X := X) ok.1 ok.2.1
  rw [ent_int (by decide) ok.2.2] at he
  exact va_zald hx hb hK.1 hC.2.2 _ 4 he rfl hin hd kk
theorem e_laload {i : Int32} (hd : At y.2.1 pc (.laload) 1 pc') (ok : Is h a 14) (hin : vp_in i (hN h a)) (k : Ev X y d mc ms Q cells slots pc' ls (vL (hL h a i.toNatClampNeg) :: st) h) : Ev X y d mc ms Q cells slots pc ls (vI i :: vR (some a) :: st) h := by
  obtain ⟨hd, rfl⟩ := hd
  intro p e s m args below meth c H locs lsr C hC hS hl
  have kk := k p e s m args below meth c H locs lsr C hC hS hl
  obtain ⟨hx, hb, hmx, hret, hown, hts, hlk, hnm, hK, hP, hsz⟩ := C
  have he := wl_get (X := X) ok.1 ok.2.1
  rw [ent_long ok.2.2] at he
  exact va_lald hx hb hK.1 hC.2.2 _ 3 he rfl hin hd kk
/-- the kinds of arrays of references: their class -/
def rfC : Nat → Nat × String
  | 16 => (0, RX0) | 17 => (1, RX1) | 18 => (5, RX5) | _ => (6, RX6)
theorem rf_ty {X : EX} {t : Nat} (h1 : 16 ≤ t) (h2 : t ≤ 19) : (tys X)[t - 11]? = some (xA X t, .object (rfC t).2) := by
  have : t = 16 ∨ t = 17 ∨ t = 18 ∨ t = 19 := by omega
  rcases this with rfl | rfl | rfl | rfl <;> rfl
theorem rf_cl {t : Nat} (h1 : 16 ≤ t) (h2 : t ≤ 19) : ∃ r, vwCl[(rfC t).1]? = some r ∧ r.1 = (rfC t).2 ∧ (rfC t).1 < 10 := by
  have : t = 16 ∨ t = 17 ∨ t = 18 ∨ t = 19 := by omega
  rcases this with rfl | rfl | rfl | rfl <;> exact ⟨_, rfl, rfl, by decide⟩
theorem e_aaload {i : Int32} {t : Nat} (hd : At y.2.1 pc (.aaload) 1 pc') (ok : Is h a t) (h1 : 16 ≤ t) (h2 : t ≤ 19) (hin : vp_in i (hN h a)) (k : Ev X y d mc ms Q cells slots pc' ls (vR (hR h a i.toNatClampNeg) :: st) h) : Ev X y d mc ms Q cells slots pc ls (vI i :: vR (some a) :: st) h := by
  obtain ⟨hd, rfl⟩ := hd
  intro p e s m args below meth c H locs lsr C hC hS hl
  have kk := k p e s m args below meth c H locs lsr C hC hS hl
  obtain ⟨hx, hb, hmx, hret, hown, hts, hlk, hnm, hK, hP, hsz⟩ := C
  have he := wl_get (X := X) ok.1 ok.2.1
  rw [ent_ref h1 ok.2.2] at he
  exact va_aldq hx hb hK.1 hC.2.2 _ (t - 11) he (rf_ty h1 h2) hin hd kk
theorem cell_size {cA : ClassId} {i : Int32} {n : Nat} {f : Nat → Value} (hin : vp_in i n) : ¬ (i < 0 ∨ (arrV cA n f).slots.size ≤ i.toNatClampNeg) := by
  rw [arrV_size]; exact hin
theorem e_iastore {i x : Int32} (hd : At y.2.1 pc (.iastore) 1 pc') (ok : Is h a 13) (hin : vp_in i (hN h a)) (k : Ev X y d mc ms Q cells slots pc' ls st (wI h a i.toNatClampNeg x)) : Ev X y d mc ms Q cells slots pc ls (vI x :: vI i :: vR (some a) :: st) h := by
  obtain ⟨hd, rfl⟩ := hd
  intro p e s m args below meth c H locs lsr C hC hS hl
  have kk := fun H1 locs1 hC1 hS1 => k p e s m args below meth c H1 locs1 lsr C hC1 hS1 hl
  obtain ⟨hx, hb, hmx, hret, hown, hts, hlk, hnm, hK, hP, hsz⟩ := C
  have he := wl_get (X := X) ok.1 ok.2.1
  rw [ent_int (by decide) ok.2.2] at he
  refine W.iast hx hb (hC.2.2 _ _ he) ((hK.1.2 2 _ rfl).1 (hN h a) (fun j => .int (hI h a j))) (fun q => by cases q) (cell_size hin) rfl rfl hd fun H1 e1 z oq => ?_
  refine kk H1 _ (corH_set hC ok.1 ok.2.1 rfl ?_ (fun q hq => ent_wI hq) z oq) (hS.put z oq (ad_A ok.1))
  have ok' : hT (wI h a i.toNatClampNeg x) a = 13 := ok.2.2
  rw [ent_int (by decide) ok']
  show H1[ad X a]? = some (vp_cell _ _)
  rw [e1, vp_cell_i, vp_cell_i, arrV_store]
  congr 2
  funext q
  by_cases hq : q = i.toNatClampNeg
  · subst hq
    simp [updV, up2, hI, wI]
    try rfl
  · simp [updV, hI, wI, up2, hq]
theorem e_castore {i x : Int32} (hd : At y.2.1 pc (.castore) 1 pc') (ok : Is h a 12) (hin : vp_in i (hN h a)) (k : Ev X y d mc ms Q cells slots pc' ls st (wI h a i.toNatClampNeg (vp_nar .char x))) : Ev X y d mc ms Q cells slots pc ls (vI x :: vI i :: vR (some a) :: st) h := by
  obtain ⟨hd, rfl⟩ := hd
  intro p e s m args below meth c H locs lsr C hC hS hl
  have kk := fun H1 locs1 hC1 hS1 => k p e s m args below meth c H1 locs1 lsr C hC1 hS1 hl
  obtain ⟨hx, hb, hmx, hret, hown, hts, hlk, hnm, hK, hP, hsz⟩ := C
  have he := wl_get (X := X) ok.1 ok.2.1
  rw [ent_int (by decide) ok.2.2] at he
  refine W.cast hx hb (hC.2.2 _ _ he) ((hK.1.2 1 _ rfl).1 (hN h a) (fun j => .int (hI h a j))) (fun q => by cases q) (cell_size hin) rfl rfl hd fun H1 e1 z oq => ?_
  refine kk H1 _ (corH_set hC ok.1 ok.2.1 rfl ?_ (fun q hq => ent_wI hq) z oq) (hS.put z oq (ad_A ok.1))
  have ok' : hT (wI h a i.toNatClampNeg (vp_nar .char x)) a = 12 := ok.2.2
  rw [ent_int (by decide) ok']
  show H1[ad X a]? = some (vp_cell _ _)
  rw [e1, vp_cell_i, vp_cell_i, arrV_store]
  congr 2
  funext q
  by_cases hq : q = i.toNatClampNeg
  · subst hq
    simp [updV, up2, hI, wI, vp_nar, narrow]
    try rfl
  · simp [updV, hI, wI, up2, hq]
theorem e_bastore {i x : Int32} (hd : At y.2.1 pc (.bastore) 1 pc') (ok : Is h a 11) (hin : vp_in i (hN h a)) (k : Ev X y d mc ms Q cells slots pc' ls st (wI h a i.toNatClampNeg (vp_nar .byte x))) : Ev X y d mc ms Q cells slots pc ls (vI x :: vI i :: vR (some a) :: st) h := by
  obtain ⟨hd, rfl⟩ := hd
  intro p e s m args below meth c H locs lsr C hC hS hl
  have kk := fun H1 locs1 hC1 hS1 => k p e s m args below meth c H1 locs1 lsr C hC1 hS1 hl
  obtain ⟨hx, hb, hmx, hret, hown, hts, hlk, hnm, hK, hP, hsz⟩ := C
  have he := wl_get (X := X) ok.1 ok.2.1
  rw [ent_int (by decide) ok.2.2] at he
  refine W.bast hx hb (hC.2.2 _ _ he) ((hK.1.2 0 _ rfl).1 (hN h a) (fun j => .int (hI h a j))) (fun q => by cases q) (cell_size hin) rfl rfl hd fun H1 e1 z oq => ?_
  refine kk H1 _ (corH_set hC ok.1 ok.2.1 rfl ?_ (fun q hq => ent_wI hq) z oq) (hS.put z oq (ad_A ok.1))
  have ok' : hT (wI h a i.toNatClampNeg (vp_nar .byte x)) a = 11 := ok.2.2
  rw [ent_int (by decide) ok']
  show H1[ad X a]? = some (vp_cell _ _)
  rw [e1, vp_cell_i, vp_cell_i, arrV_store]
  congr 2
  funext q
  by_cases hq : q = i.toNatClampNeg
  · subst hq
    simp [updV, up2, hI, wI, vp_nar, narrow]
    try rfl
  · simp [updV, hI, wI, up2, hq]
theorem e_zastore {i x : Int32} (hd : At y.2.1 pc (.bastore) 1 pc') (ok : Is h a 15) (hin : vp_in i (hN h a)) (k : Ev X y d mc ms Q cells slots pc' ls st (wI h a i.toNatClampNeg (vp_nar .boolean x))) : Ev X y d mc ms Q cells slots pc ls (vI x :: vI i :: vR (some a) :: st) h := by
  obtain ⟨hd, rfl⟩ := hd
  intro p e s m args below meth c H locs lsr C hC hS hl
  have kk := fun H1 locs1 hC1 hS1 => k p e s m args below meth c H1 locs1 lsr C hC1 hS1 hl
  obtain ⟨hx, hb, hmx, hret, hown, hts, hlk, hnm, hK, hP, hsz⟩ := C
  have he := wl_get (X := X) ok.1 ok.2.1
  rw [ent_int (by decide) ok.2.2] at he
  refine W.zast hx hb (hC.2.2 _ _ he) ((hK.1.2 4 _ rfl).1 (hN h a) (fun j => .int (hI h a j))) (fun q => by cases q) (cell_size hin) rfl rfl hd fun H1 e1 z oq => ?_
  refine kk H1 _ (corH_set hC ok.1 ok.2.1 rfl ?_ (fun q hq => ent_wI hq) z oq) (hS.put z oq (ad_A ok.1))
  have ok' : hT (wI h a i.toNatClampNeg (vp_nar .boolean x)) a = 15 := ok.2.2
  rw [ent_int (by decide) ok']
  show H1[ad X a]? = some (vp_cell _ _)
  rw [e1, vp_cell_i, vp_cell_i, arrV_store]
  congr 2
  funext q
  by_cases hq : q = i.toNatClampNeg
  · subst hq
    simp [updV, up2, hI, wI, vp_nar, narrow]
    try rfl
  · simp [updV, hI, wI, up2, hq]
theorem e_lastore {i : Int32} {x : Int64} (hd : At y.2.1 pc (.lastore) 1 pc') (ok : Is h a 14) (hin : vp_in i (hN h a)) (k : Ev X y d mc ms Q cells slots pc' ls st (wL h a i.toNatClampNeg x)) : Ev X y d mc ms Q cells slots pc ls (vL x :: vI i :: vR (some a) :: st) h := by
  obtain ⟨hd, rfl⟩ := hd
  intro p e s m args below meth c H locs lsr C hC hS hl
  have kk := fun H1 locs1 hC1 hS1 => k p e s m args below meth c H1 locs1 lsr C hC1 hS1 hl
  obtain ⟨hx, hb, hmx, hret, hown, hts, hlk, hnm, hK, hP, hsz⟩ := C
  have he := wl_get (X := X) ok.1 ok.2.1
  rw [ent_long ok.2.2] at he
  refine W.last hx hb (hC.2.2 _ _ he) ((hK.1.2 3 _ rfl).1 (hN h a) (fun j => .long (hL h a j))) (fun q => by cases q) (cell_size hin) rfl rfl hd fun H1 e1 z oq => ?_
  refine kk H1 _ (corH_set hC ok.1 ok.2.1 rfl ?_ (fun q hq => ent_wL hq) z oq) (hS.put z oq (ad_A ok.1))
  have ok' : hT (wL h a i.toNatClampNeg x) a = 14 := ok.2.2
  rw [ent_long ok']
  show H1[ad X a]? = some (vp_cell _ _)
  rw [e1, vp_cell_l, vp_cell_l, arrV_store]
  congr 2
  funext q
  by_cases hq : q = i.toNatClampNeg
  · subst hq
    simp [updV, up2, hL, wL]
    try rfl
  · simp [updV, hL, wL, up2, hq]
theorem e_aastoreN {i : Int32} {t : Nat} (hd : At y.2.1 pc (.aastore) 1 pc') (ok : Is h a t) (h1 : 16 ≤ t) (h2 : t ≤ 19) (hin : vp_in i (hN h a)) (k : Ev X y d mc ms Q cells slots pc' ls st (wR h a i.toNatClampNeg none)) : Ev X y d mc ms Q cells slots pc ls (vR none :: vI i :: vR (some a) :: st) h := by
  obtain ⟨hd, rfl⟩ := hd
  intro p e s m args below meth c H locs lsr C hC hS hl
  have kk := fun H1 locs1 hC1 hS1 => k p e s m args below meth c H1 locs1 lsr C hC1 hS1 hl
  obtain ⟨hx, hb, hmx, hret, hown, hts, hlk, hnm, hK, hP, hsz⟩ := C
  have he := wl_get (X := X) ok.1 ok.2.1
  rw [ent_ref h1 ok.2.2] at he
  refine va_WaastN (C := (rfC t).2) hx hb (hC.2.2 _ _ he) ((hK.1.2 (t - 11) _ (rf_ty h1 h2)).1 (hN h a) (fun j => va_rf ((hR h a j).map (ad X)))) (fun h => by cases h) (cell_size hin) rfl rfl hd fun H1 e1 z oq => ?_
  refine kk H1 _ (corH_set hC ok.1 ok.2.1 rfl ?_ (fun q hq => ent_wR hq) z oq) (hS.put z oq (ad_A ok.1))
  have ok' : hT (wR h a i.toNatClampNeg none) a = t := ok.2.2
  rw [ent_ref h1 ok']
  show H1[ad X a]? = some (vp_cell _ _)
  rw [e1, vp_cell_q, vp_cell_q, arrV_store]
  congr 2
  funext q
  by_cases hq : q = i.toNatClampNeg
  · subst hq
    simp [updV, up2, hR, wR, va_rf]
  · simp [updV, hR, wR, up2, hq]
theorem e_aastore {i : Int32} {t b : Nat} (hd : At y.2.1 pc (.aastore) 1 pc') (ok : Is h a t) (h1 : 16 ≤ t) (h2 : t ≤ 19) (ok2 : Is h b ((rfC t).1 + 1)) (hin : vp_in i (hN h a)) (k : Ev X y d mc ms Q cells slots pc' ls st (wR h a i.toNatClampNeg (some b))) : Ev X y d mc ms Q cells slots pc ls (vR (some b) :: vI i :: vR (some a) :: st) h := by
  obtain ⟨hd, rfl⟩ := hd
  intro p e s m args below meth c H locs lsr C hC hS hl
  have kk := fun H1 locs1 hC1 hS1 => k p e s m args below meth c H1 locs1 lsr C hC1 hS1 hl
  obtain ⟨hx, hb, hmx, hret, hown, hts, hlk, hnm, hK, hP, hsz⟩ := C
  have he := wl_get (X := X) ok.1 ok.2.1
  rw [ent_ref h1 ok.2.2] at he
  obtain ⟨r, hr, hr2, hr3⟩ := rf_cl h1 h2
  have hv := wl_get (X := X) ok2.1 ok2.2.1
  rw [ent_obj hr3 ok2.2.2] at hv
  obtain ⟨r', hr', cellV, g1, g2, g3, -⟩ := hC.2.2 _ _ hv
  have hcls := (hK.1.1 _ r hr).2
  rw [hr2] at hcls
  obtain ⟨kA, comp, k1, k2, k3, -⟩ := (hK.1.2 (t - 11) _ (rf_ty h1 h2)).2
  have hcomp : comp = (xD X).1 (rfC t).1 := Option.some.inj (k3.symm.trans hcls.1)
  subst hcomp
  obtain ⟨kC, hkC, -⟩ := hcls.2
  have hlt : i.toNatClampNeg < hN h a := Nat.not_le.mp fun q => hin (Or.inr q)
  have h0 : ¬ i < 0 := fun q => hin (Or.inl q)
  refine W.aast hx hb (hC.2.2 _ _ he) (fun q h => by cases h) (fun h => by cases h) k1 k2 rfl hkC ⟨h0, by show _ < (arrV _ _ _).slots.size; rw [arrV_size]; exact hlt⟩ g1 (fun q h => by rw [g3] at h; cases h) (by rw [g2]; exact hkC) (by rw [g2]; exact va_assign hcls) rfl rfl hd fun H1 e1 z oq => ?_
  refine kk H1 _ (corH_set hC ok.1 ok.2.1 rfl ?_ (fun q hq => ent_wR hq) z oq) (hS.put z oq (ad_A ok.1))
  have ok' : hT (wR h a i.toNatClampNeg (some b)) a = t := ok.2.2
  rw [ent_ref h1 ok']
  show H1[ad X a]? = some (vp_cell _ _)
  rw [e1, vp_cell_q, vp_cell_q, arrV_store]
  congr 2
  funext q
  by_cases hq : q = i.toNatClampNeg
  · subst hq
    simp [updV, up2, hR, wR, va_rf]
  · simp [updV, hR, wR, up2, hq]
theorem e_alen {t : Nat} (hd : At y.2.1 pc (.arraylength) 1 pc') (ok : Is h a t) (h1 : 11 ≤ t) (h2 : t ≤ 19) (k : Ev X y d mc ms Q cells slots pc' ls (vI (Int32.ofNat (hN h a)) :: st) h) : Ev X y d mc ms Q cells slots pc ls (vR (some a) :: st) h := by
  obtain ⟨hd, rfl⟩ := hd
  intro p e s m args below meth c H locs lsr C hC hS hl
  have kk := k p e s m args below meth c H locs lsr C hC hS hl
  obtain ⟨hx, hb, hmx, hret, hown, hts, hlk, hnm, hK, hP, hsz⟩ := C
  have he := wl_get (X := X) ok.1 ok.2.1
  by_cases h14 : t = 14
  · subst h14
    rw [ent_long ok.2.2] at he
    exact va_alen hx hb hK.1 hC.2.2 _ 3 he rfl rfl hd kk
  · by_cases h16 : 16 ≤ t
    · rw [ent_ref h16 ok.2.2] at he
      exact va_alen hx hb hK.1 hC.2.2 _ (t - 11) he (rf_ty h16 h2) rfl hd kk
    · have : t = 11 ∨ t = 12 ∨ t = 13 ∨ t = 15 := by omega
      rw [ent_int this ok.2.2] at he
      rcases this with rfl | rfl | rfl | rfl
      · exact va_alen hx hb hK.1 hC.2.2 _ 0 he rfl rfl hd kk
      · exact va_alen hx hb hK.1 hC.2.2 _ 1 he rfl rfl hd kk
      · exact va_alen hx hb hK.1 hC.2.2 _ 2 he rfl rfl hd kk
      · exact va_alen hx hb hK.1 hC.2.2 _ 4 he rfl rfl hd kk
/-! new cells -/
theorem ent_nw {X : EX} {h : HP} {t n k : Nat} (hk : k < hZ h) : ent X (nw h t n) k = ent X h k := by
  have hne : k ≠ hZ h := Nat.ne_of_lt hk
  have e1 : hI (nw h t n) k = hI h k := by funext j; simp [nw, hI, hne]
  have e2 : hL (nw h t n) k = hL h k := by funext j; simp [nw, hL, hne]
  have e3 : hR (nw h t n) k = hR h k := by funext j; simp [nw, hR, hne]
  have e4 : hT (nw h t n) k = hT h k := by simp [nw, hT, hne]
  have e5 : hN (nw h t n) k = hN h k := by simp [nw, hN, hne]
  unfold ent
  rw [e1, e2, e3, e4, e5]
def NewOk (own : String) (ix ci : Nat) : Prop := ∃ r, vwCl[ci]? = some r ∧ .classLink own ix r.1 ∈ TT ∧ .instantiable r.1 r.2.2 ∈ TT ∧ .initialized r.1 ∈ TT
theorem dflt_ok : ∀ (ci : Nat) (r : vw_C), vwCl[ci]? = some r → ∀ k, k < r.2.2 → defaultValue (tyF ci k) = (if isR ci k then va_rf none else .int 0) := by
  intro ci r h
  match ci, h with
  | 0, h => cases h; decide +kernel
  | 1, h => cases h; decide +kernel
  | 2, h => cases h; decide +kernel
  | 3, h => cases h; decide +kernel
  | 4, h => cases h; decide +kernel
  | 5, h => cases h; decide +kernel
  | 6, h => cases h; decide +kernel
  | 7, h => cases h; decide +kernel
  | 8, h => cases h; decide +kernel
  | 9, h => cases h; decide +kernel
  | n + 10, h => simp [vwCl] at h
theorem e_new {ci : Nat} (hd : At y.2.1 pc (.new ix) 3 pc') (N : NewOk y.1.cls ix ci) (hcc : cells + 1 ≤ mc) (hss : slots + nF ci ≤ ms) (k : Ev X y d mc ms Q (cells + 1) (slots + nF ci) pc' ls (vR (some (hZ h)) :: st) (nw h (ci + 1) 0)) : Ev X y d mc ms Q cells slots pc ls st h := by
  obtain ⟨hd, rfl⟩ := hd
  intro p e s m args below meth c H locs lsr C hC hS hl
  have kk := fun H1 hC1 hS1 => k p e s m args below meth c H1 locs lsr C hC1 hS1 hl
  obtain ⟨hx, hb, hmx, hret, hown, hts, hlk, hnm, hK, hP, hsz⟩ := C
  obtain ⟨r, hr, w1, w2, w3⟩ := N
  obtain ⟨c1, c2, c3, c4, c5⟩ := cl_ok ci r hr
  have hKn := hK.1.1 ci _ hr
  refine W.newcK (n := nF ci) hx hb hown (hts _ w1) (by rw [← c4]; exact hts _ w2) (hts _ w3) rfl hd hcc hss hKn.2.1 rfl fun H1 kC hkC e1 z1 o1 => ?_
  have hH : (F0 m (pc + 3) lsr (.ref H.size :: st.map (cv X))) = F0 m (pc + 3) lsr ((vR (some (hZ h)) :: st).map (cv X)) := by
    show _ = F0 m (pc + 3) lsr (.ref (ad X (hZ h)) :: st.map (cv X))
    rw [ad_sz hC]
  refine W.eq hH (kk H1 (corH_push hC rfl ?_ (fun q hq => ent_nw hq) z1 o1) ⟨Nat.le_trans hS.1 (by omega), fun x h1 h2 => (o1 x (Nat.lt_of_lt_of_le h1 hS.1)).trans (hS.2.1 x h1 h2), hS.2.2⟩)
  rw [ent_obj (ci := ci) c5 (by simp [nw, hT])]
  refine ⟨r, hr, ?_⟩
  rw [ad_sz hC]
  refine (u_born (tyF ci) hts c1 hKn hkC e1 c2).to (fun j hj => ?_)
  dsimp only
  rw [dflt_ok ci r hr j hj]
  have hv : ((List.range (nF ci)).map (fun i => if isR ci i then va_rf ((hR (nw h (ci + 1) 0) (hZ h) i).map (ad X)) else .int (hI (nw h (ci + 1) 0) (hZ h) i)))[j]? = some (if isR ci j then va_rf none else .int 0) := by
    rw [fs_at (by rw [← c4]; exact hj)]
    simp [nw, hI, hR]
  show _ = List.getD _ j Value.null
  rw [List.getD_eq_getElem?_getD, hv]
  rfl
theorem e_newI {n : Int32} {N' : Nat} (hd : At y.2.1 pc (.newarray .int) 2 pc') (w : .arrayClass .int ∈ TT) (hn : ¬ n < 0) (hN' : n.toNatClampNeg = N') (hbig : N' ≤ 60000000) (hcc : cells + 1 ≤ mc) (hss : slots + N' ≤ ms) (k : Ev X y d mc ms Q (cells + 1) (slots + N') pc' ls (vR (some (hZ h)) :: st) (nw h 13 N')) : Ev X y d mc ms Q cells slots pc ls (vI n :: st) h := by
  obtain ⟨hd, rfl⟩ := hd
  intro p e s m args below meth c H locs lsr C hC hS hl
  have kk := fun H1 hC1 hS1 => k p e s m args below meth c H1 locs lsr C hC1 hS1 hl
  obtain ⟨hx, hb, hmx, hret, hown, hts, hlk, hnm, hK, hP, hsz⟩ := C
  refine va_newaK (atype := .int) hx hb (hts _ w) rfl hd rfl hn hN' (by show N' * _ ≤ _; simp only [newarray.typeOf, componentBytes]; omega) hcc hss rfl fun H1 cA e1 z1 o1 hAr hNm => ?_
  have hcA : cA = xA X 13 := Option.some.inj (hNm.symm.trans (hK.1.2 2 _ rfl).2)
  have hH : (F0 m (pc + 2) lsr (.ref H.size :: st.map (cv X))) = F0 m (pc + 2) lsr ((vR (some (hZ h)) :: st).map (cv X)) := by
    show _ = F0 m (pc + 2) lsr (.ref (ad X (hZ h)) :: st.map (cv X))
    rw [ad_sz hC]
  refine W.eq hH (kk H1 (corH_push hC rfl ?_ (fun q hq => ent_nw hq) z1 o1) ⟨Nat.le_trans hS.1 (by omega), fun x h1 h2 => (o1 x (Nat.lt_of_lt_of_le h1 hS.1)).trans (hS.2.1 x h1 h2), hS.2.2⟩)
  rw [ent_int (t := 13) (by decide) (by simp [nw, hT])]
  show H1[ad X (hZ h)]? = some (vp_cell _ _)
  rw [ad_sz hC, e1, vp_cell_i, hcA]
  have e5 : hN (nw h 13 N') (hZ h) = N' := by simp [nw, hN]
  rw [e5]
  congr 2
  funext q
  simp [hI, nw, newarray.typeOf, defaultValue]
theorem e_newC {n : Int32} {N' : Nat} (hd : At y.2.1 pc (.newarray .char) 2 pc') (w : .arrayClass .char ∈ TT) (hn : ¬ n < 0) (hN' : n.toNatClampNeg = N') (hbig : N' ≤ 60000000) (hcc : cells + 1 ≤ mc) (hss : slots + N' ≤ ms) (k : Ev X y d mc ms Q (cells + 1) (slots + N') pc' ls (vR (some (hZ h)) :: st) (nw h 12 N')) : Ev X y d mc ms Q cells slots pc ls (vI n :: st) h := by
  obtain ⟨hd, rfl⟩ := hd
  intro p e s m args below meth c H locs lsr C hC hS hl
  have kk := fun H1 hC1 hS1 => k p e s m args below meth c H1 locs lsr C hC1 hS1 hl
  obtain ⟨hx, hb, hmx, hret, hown, hts, hlk, hnm, hK, hP, hsz⟩ := C
  refine va_newaK (atype := .char) hx hb (hts _ w) rfl hd rfl hn hN' (by show N' * _ ≤ _; simp only [newarray.typeOf, componentBytes]; omega) hcc hss rfl fun H1 cA e1 z1 o1 hAr hNm => ?_
  have hcA : cA = xA X 12 := Option.some.inj (hNm.symm.trans (hK.1.2 1 _ rfl).2)
  have hH : (F0 m (pc + 2) lsr (.ref H.size :: st.map (cv X))) = F0 m (pc + 2) lsr ((vR (some (hZ h)) :: st).map (cv X)) := by
    show _ = F0 m (pc + 2) lsr (.ref (ad X (hZ h)) :: st.map (cv X))
    rw [ad_sz hC]
  refine W.eq hH (kk H1 (corH_push hC rfl ?_ (fun q hq => ent_nw hq) z1 o1) ⟨Nat.le_trans hS.1 (by omega), fun x h1 h2 => (o1 x (Nat.lt_of_lt_of_le h1 hS.1)).trans (hS.2.1 x h1 h2), hS.2.2⟩)
  rw [ent_int (t := 12) (by decide) (by simp [nw, hT])]
  show H1[ad X (hZ h)]? = some (vp_cell _ _)
  rw [ad_sz hC, e1, vp_cell_i, hcA]
  have e5 : hN (nw h 12 N') (hZ h) = N' := by simp [nw, hN]
  rw [e5]
  congr 2
  funext q
  simp [hI, nw, newarray.typeOf, defaultValue]
theorem e_newB {n : Int32} {N' : Nat} (hd : At y.2.1 pc (.newarray .byte) 2 pc') (w : .arrayClass .byte ∈ TT) (hn : ¬ n < 0) (hN' : n.toNatClampNeg = N') (hbig : N' ≤ 60000000) (hcc : cells + 1 ≤ mc) (hss : slots + N' ≤ ms) (k : Ev X y d mc ms Q (cells + 1) (slots + N') pc' ls (vR (some (hZ h)) :: st) (nw h 11 N')) : Ev X y d mc ms Q cells slots pc ls (vI n :: st) h := by
  obtain ⟨hd, rfl⟩ := hd
  intro p e s m args below meth c H locs lsr C hC hS hl
  have kk := fun H1 hC1 hS1 => k p e s m args below meth c H1 locs lsr C hC1 hS1 hl
  obtain ⟨hx, hb, hmx, hret, hown, hts, hlk, hnm, hK, hP, hsz⟩ := C
  refine va_newaK (atype := .byte) hx hb (hts _ w) rfl hd rfl hn hN' (by show N' * _ ≤ _; simp only [newarray.typeOf, componentBytes]; omega) hcc hss rfl fun H1 cA e1 z1 o1 hAr hNm => ?_
  have hcA : cA = xA X 11 := Option.some.inj (hNm.symm.trans (hK.1.2 0 _ rfl).2)
  have hH : (F0 m (pc + 2) lsr (.ref H.size :: st.map (cv X))) = F0 m (pc + 2) lsr ((vR (some (hZ h)) :: st).map (cv X)) := by
    show _ = F0 m (pc + 2) lsr (.ref (ad X (hZ h)) :: st.map (cv X))
    rw [ad_sz hC]
  refine W.eq hH (kk H1 (corH_push hC rfl ?_ (fun q hq => ent_nw hq) z1 o1) ⟨Nat.le_trans hS.1 (by omega), fun x h1 h2 => (o1 x (Nat.lt_of_lt_of_le h1 hS.1)).trans (hS.2.1 x h1 h2), hS.2.2⟩)
  rw [ent_int (t := 11) (by decide) (by simp [nw, hT])]
  show H1[ad X (hZ h)]? = some (vp_cell _ _)
  rw [ad_sz hC, e1, vp_cell_i, hcA]
  have e5 : hN (nw h 11 N') (hZ h) = N' := by simp [nw, hN]
  rw [e5]
  congr 2
  funext q
  simp [hI, nw, newarray.typeOf, defaultValue]
theorem e_newZ {n : Int32} {N' : Nat} (hd : At y.2.1 pc (.newarray .boolean) 2 pc') (w : .arrayClass .boolean ∈ TT) (hn : ¬ n < 0) (hN' : n.toNatClampNeg = N') (hbig : N' ≤ 60000000) (hcc : cells + 1 ≤ mc) (hss : slots + N' ≤ ms) (k : Ev X y d mc ms Q (cells + 1) (slots + N') pc' ls (vR (some (hZ h)) :: st) (nw h 15 N')) : Ev X y d mc ms Q cells slots pc ls (vI n :: st) h := by
  obtain ⟨hd, rfl⟩ := hd
  intro p e s m args below meth c H locs lsr C hC hS hl
  have kk := fun H1 hC1 hS1 => k p e s m args below meth c H1 locs lsr C hC1 hS1 hl
  obtain ⟨hx, hb, hmx, hret, hown, hts, hlk, hnm, hK, hP, hsz⟩ := C
  refine va_newaK (atype := .boolean) hx hb (hts _ w) rfl hd rfl hn hN' (by show N' * _ ≤ _; simp only [newarray.typeOf, componentBytes]; omega) hcc hss rfl fun H1 cA e1 z1 o1 hAr hNm => ?_
  have hcA : cA = xA X 15 := Option.some.inj (hNm.symm.trans (hK.1.2 4 _ rfl).2)
  have hH : (F0 m (pc + 2) lsr (.ref H.size :: st.map (cv X))) = F0 m (pc + 2) lsr ((vR (some (hZ h)) :: st).map (cv X)) := by
    show _ = F0 m (pc + 2) lsr (.ref (ad X (hZ h)) :: st.map (cv X))
    rw [ad_sz hC]
  refine W.eq hH (kk H1 (corH_push hC rfl ?_ (fun q hq => ent_nw hq) z1 o1) ⟨Nat.le_trans hS.1 (by omega), fun x h1 h2 => (o1 x (Nat.lt_of_lt_of_le h1 hS.1)).trans (hS.2.1 x h1 h2), hS.2.2⟩)
  rw [ent_int (t := 15) (by decide) (by simp [nw, hT])]
  show H1[ad X (hZ h)]? = some (vp_cell _ _)
  rw [ad_sz hC, e1, vp_cell_i, hcA]
  have e5 : hN (nw h 15 N') (hZ h) = N' := by simp [nw, hN]
  rw [e5]
  congr 2
  funext q
  simp [hI, nw, newarray.typeOf, defaultValue]
theorem e_newL {n : Int32} {N' : Nat} (hd : At y.2.1 pc (.newarray .long) 2 pc') (w : .arrayClass .long ∈ TT) (hn : ¬ n < 0) (hN' : n.toNatClampNeg = N') (hbig : N' ≤ 60000000) (hcc : cells + 1 ≤ mc) (hss : slots + N' ≤ ms) (k : Ev X y d mc ms Q (cells + 1) (slots + N') pc' ls (vR (some (hZ h)) :: st) (nw h 14 N')) : Ev X y d mc ms Q cells slots pc ls (vI n :: st) h := by
  obtain ⟨hd, rfl⟩ := hd
  intro p e s m args below meth c H locs lsr C hC hS hl
  have kk := fun H1 hC1 hS1 => k p e s m args below meth c H1 locs lsr C hC1 hS1 hl
  obtain ⟨hx, hb, hmx, hret, hown, hts, hlk, hnm, hK, hP, hsz⟩ := C
  refine va_newaK (atype := .long) hx hb (hts _ w) rfl hd rfl hn hN' (by show N' * _ ≤ _; simp only [newarray.typeOf, componentBytes]; omega) hcc hss rfl fun H1 cA e1 z1 o1 hAr hNm => ?_
  have hcA : cA = xA X 14 := Option.some.inj (hNm.symm.trans (hK.1.2 3 _ rfl).2)
  have hH : (F0 m (pc + 2) lsr (.ref H.size :: st.map (cv X))) = F0 m (pc + 2) lsr ((vR (some (hZ h)) :: st).map (cv X)) := by
    show _ = F0 m (pc + 2) lsr (.ref (ad X (hZ h)) :: st.map (cv X))
    rw [ad_sz hC]
  refine W.eq hH (kk H1 (corH_push hC rfl ?_ (fun q hq => ent_nw hq) z1 o1) ⟨Nat.le_trans hS.1 (by omega), fun x h1 h2 => (o1 x (Nat.lt_of_lt_of_le h1 hS.1)).trans (hS.2.1 x h1 h2), hS.2.2⟩)
  rw [ent_long (by simp [nw, hT])]
  show H1[ad X (hZ h)]? = some (vp_cell _ _)
  rw [ad_sz hC, e1, vp_cell_l, hcA]
  have e5 : hN (nw h 14 N') (hZ h) = N' := by simp [nw, hN]
  rw [e5]
  congr 2
  funext q
  simp [hL, nw, newarray.typeOf, defaultValue]
theorem e_newR {n : Int32} {N' t : Nat} (hd : At y.2.1 pc (.anewarray ix) 3 pc') (h1 : 16 ≤ t) (h2 : t ≤ 19) (w : .classLink y.1.cls ix (rfC t).2 ∈ TT) (hn : ¬ n < 0) (hN' : n.toNatClampNeg = N') (hbig : N' ≤ 60000000) (hcc : cells + 1 ≤ mc) (hss : slots + N' ≤ ms) (k : Ev X y d mc ms Q (cells + 1) (slots + N') pc' ls (vR (some (hZ h)) :: st) (nw h t N')) : Ev X y d mc ms Q cells slots pc ls (vI n :: st) h := by
  obtain ⟨hd, rfl⟩ := hd
  intro p e s m args below meth c H locs lsr C hC hS hl
  have kk := fun H1 hC1 hS1 => k p e s m args below meth c H1 locs lsr C hC1 hS1 hl
  obtain ⟨hx, hb, hmx, hret, hown, hts, hlk, hnm, hK, hP, hsz⟩ := C
  have hao : va_AO (rfC t).2 s := hK.2.2.1 _ (by
    have : t = 16 ∨ t = 17 ∨ t = 18 ∨ t = 19 := by omega
    rcases this with rfl | rfl | rfl | rfl <;> simp [aoW, rfC])
  subst hN'
  refine W.anew hx hb hown (hts _ w) (va_AO.use hao) rfl hd rfl hn (by omega) hcc hss fun cA kA comp f1 f2 f3 f4 => ?_
  generalize hH1 : H.push ({ cls := cA, slots := Array.replicate n.toNatClampNeg .null, vm := .none } : Cell) = H1
  have z1 : H1.size = H.size + 1 := by rw [← hH1, Array.size_push]
  have e1 : H1[H.size]? = some (arrV cA n.toNatClampNeg (fun _ => .null)) := by rw [← hH1, Array.getElem?_push_size, ← arrV_new]
  have o1 : ∀ q : Nat, q < H.size → H1[q]? = H[q]? := fun q hq => by rw [← hH1, Array.getElem?_push, if_neg (Nat.ne_of_lt hq)]
  obtain ⟨kA2, comp2, k1, k2, k3, k4⟩ := (hK.1.2 (t - 11) _ (rf_ty h1 h2)).2
  have hcA : cA = xA X t := by first | exact Option.some.inj (f1.symm.trans k4) | exact Option.some.inj (f4.symm.trans k4)
  have hH : (F0 m (pc + 3) lsr (.ref H.size :: st.map (cv X))) = F0 m (pc + 3) lsr ((vR (some (hZ h)) :: st).map (cv X)) := by
    show _ = F0 m (pc + 3) lsr (.ref (ad X (hZ h)) :: st.map (cv X))
    rw [ad_sz hC]
  refine W.eq hH (kk H1 (corH_push hC rfl ?_ (fun q hq => ent_nw hq) z1 o1) ⟨Nat.le_trans hS.1 (by omega), fun x h1 h2 => (o1 x (Nat.lt_of_lt_of_le h1 hS.1)).trans (hS.2.1 x h1 h2), hS.2.2⟩)
  rw [ent_ref (t := t) h1 (by simp [nw, hT])]
  show H1[ad X (hZ h)]? = some (vp_cell _ _)
  rw [ad_sz hC, e1, vp_cell_q, hcA]
  have e5 : hN (nw h t n.toNatClampNeg) (hZ h) = n.toNatClampNeg := by simp [nw, hN]
  rw [e5]
  congr 2
  funext q
  simp [hR, nw, va_rf]
/-! statics, the pool's constants -/
theorem e_gets {i : Nat} {q : String × List Int32} (hd : At y.2.1 pc (.getstatic ix) 3 pc') (hq : stW[i]? = some q) (w : .fieldLink y.1.cls ix RX8 q.1 "[I" ∈ TT) (k : Ev X y d mc ms Q cells slots pc' ls (vR (some (i + 1)) :: st) h) : Ev X y d mc ms Q cells slots pc ls st h := by
  obtain ⟨hd, rfl⟩ := hd
  intro p e s m args below meth c H locs lsr C hC hS hl
  have kk := k p e s m args below meth c H locs lsr C hC hS hl
  obtain ⟨hx, hb, hmx, hret, hown, hts, hlk, hnm, hK, hP, hsz⟩ := C
  have hi : i < 5 := (List.getElem?_eq_some_iff.mp hq).1
  have e0 : ad X (i + 1) = xS X (i + 1) := by unfold ad; rw [if_pos (by omega)]
  have e1 : (vR (some (i + 1)) :: st).map (cv X) = .ref (xS X (i + 1)) :: st.map (cv X) := by rw [← e0]; rfl
  rw [e1] at kk
  exact va_gets hx hb (hP.1 i q hq).1 hS hown (hts _ w) (fun _ z => z) hd kk
theorem e_getsN {i : Nat} {q : String × List Int32} (hd : At y.2.1 pc (.getstatic ix) 3 pc') (hq : stW[i]? = some q) (w : .fieldLinkNest y.1.cls ix RX8 q.1 "[I" RX8 ∈ nestW) (k : Ev X y d mc ms Q cells slots pc' ls (vR (some (i + 1)) :: st) h) : Ev X y d mc ms Q cells slots pc ls st h := by
  obtain ⟨hd, rfl⟩ := hd
  intro p e s m args below meth c H locs lsr C hC hS hl
  have kk := k p e s m args below meth c H locs lsr C hC hS hl
  obtain ⟨hx, hb, hmx, hret, hown, hts, hlk, hnm, hK, hP, hsz⟩ := C
  have hi : i < 5 := (List.getElem?_eq_some_iff.mp hq).1
  have e0 : ad X (i + 1) = xS X (i + 1) := by unfold ad; rw [if_pos (by omega)]
  have e1 : (vR (some (i + 1)) :: st).map (cv X) = .ref (xS X (i + 1)) :: st.map (cv X) := by rw [← e0]; rfl
  rw [e1] at kk
  exact va_getsN hx hb (hP.1 i q hq).1 hS hown (va_Nw.use rfl (hK.2.1 _ w)) (fun _ z => z) hd kk
/-- an element of a static array -/
theorem e_ialoadS {i0 : Nat} {q : String × List Int32} {i : Int32} (hd : At y.2.1 pc (.iaload) 1 pc') (hq : stW[i0]? = some q) (hin : vp_in i q.2.length) (k : Ev X y d mc ms Q cells slots pc' ls (vI (q.2.getD i.toNatClampNeg 0) :: st) h) : Ev X y d mc ms Q cells slots pc ls (vI i :: vR (some (i0 + 1)) :: st) h := by
  obtain ⟨hd, rfl⟩ := hd
  intro p e s m args below meth c H locs lsr C hC hS hl
  have kk := k p e s m args below meth c H locs lsr C hC hS hl
  obtain ⟨hx, hb, hmx, hret, hown, hts, hlk, hnm, hK, hP, hsz⟩ := C
  have hi : i0 < 5 := (List.getElem?_eq_some_iff.mp hq).1
  have e0 : ad X (i0 + 1) = xS X (i0 + 1) := by unfold ad; rw [if_pos (by omega)]
  show W _ _ _ _ _ _ _ _ _ _ _ _ _ _ _ (F0 m pc lsr (.int i :: .ref (ad X (i0 + 1)) :: st.map (cv X)))
  rw [e0]
  exact va_ti hx hb (hP.1 i0 q hq).2 hS hin rfl hd kk
theorem e_ialoadX {i : Int32} (hd : At y.2.1 pc (.iaload) 1 pc') (hin : vp_in i (xN X)) (k : Ev X y d mc ms Q cells slots pc' ls (vI (xs X i.toNatClampNeg) :: st) h) : Ev X y d mc ms Q cells slots pc ls (vI i :: vR (some 6) :: st) h := by
  obtain ⟨hd, rfl⟩ := hd
  intro p e s m args below meth c H locs lsr C hC hS hl
  have kk := k p e s m args below meth c H locs lsr C hC hS hl
  obtain ⟨hx, hb, hmx, hret, hown, hts, hlk, hnm, hK, hP, hsz⟩ := C
  exact va_ti hx hb hP.2.1 hS hin rfl hd kk
theorem e_alenX (hd : At y.2.1 pc (.arraylength) 1 pc') (k : Ev X y d mc ms Q cells slots pc' ls (vI (Int32.ofNat (xN X)) :: st) h) : Ev X y d mc ms Q cells slots pc ls (vR (some 6) :: st) h := by
  obtain ⟨hd, rfl⟩ := hd
  intro p e s m args below meth c H locs lsr C hC hS hl
  have kk := k p e s m args below meth c H locs lsr C hC hS hl
  obtain ⟨hx, hb, hmx, hret, hown, hts, hlk, hnm, hK, hP, hsz⟩ := C
  exact va_tlen hx hb hP.2.1 hS rfl hd kk
theorem e_ldc {v : Int32} (hd : At y.2.1 pc (.ldc ix) 2 pc') (w : .constant y.1.cls ix v ∈ TT) (k : Ev X y d mc ms Q cells slots pc' ls (vI v :: st) h) : Ev X y d mc ms Q cells slots pc ls st h := by
  obtain ⟨hd, rfl⟩ := hd
  intro p e s m args below meth c H locs lsr C hC hS hl
  have kk := k p e s m args below meth c H locs lsr C hC hS hl
  exact lv_ldc C.1 C.2.1 C.2.2.2.2.1 (C.2.2.2.2.2.1 _ w) hd kk
theorem e_ldcw {v : Int32} (hd : At y.2.1 pc (.ldc_w ix) 3 pc') (w : .constant y.1.cls ix v ∈ TT) (k : Ev X y d mc ms Q cells slots pc' ls (vI v :: st) h) : Ev X y d mc ms Q cells slots pc ls st h := by
  obtain ⟨hd, rfl⟩ := hd
  intro p e s m args below meth c H locs lsr C hC hS hl
  have kk := k p e s m args below meth c H locs lsr C hC hS hl
  exact lv_ldcw C.1 C.2.1 C.2.2.2.2.1 (C.2.2.2.2.2.1 _ w) hd kk
theorem e_ldc2 {v : Int64} (hd : At y.2.1 pc (.ldc2_w ix) 3 pc') (w : .constantLong y.1.cls ix v ∈ TT) (k : Ev X y d mc ms Q cells slots pc' ls (vL v :: st) h) : Ev X y d mc ms Q cells slots pc ls st h := by
  obtain ⟨hd, rfl⟩ := hd
  intro p e s m args below meth c H locs lsr C hC hS hl
  have kk := k p e s m args below meth c H locs lsr C hC hS hl
  exact lv_ldc2 C.1 C.2.1 C.2.2.2.2.1 (C.2.2.2.2.2.1 _ w) hd kk
theorem e_ldcS {i : Nat} {q : Nat × String} (hd : At y.2.1 pc (.ldc ix) 2 pc') (hcls : y.1.cls = RX3) (hq : strs[i]? = some q) (hix : q.1 = ix) (k : Ev X y d mc ms Q cells slots pc' ls (vR (some (i + 8)) :: st) h) : Ev X y d mc ms Q cells slots pc ls st h := by
  obtain ⟨hd, rfl⟩ := hd
  intro p e s m args below meth c H locs lsr C hC hS hl
  have kk := k p e s m args below meth c H locs lsr C hC hS hl
  obtain ⟨hx, hb, hmx, hret, hown, hts, hlk, hnm, hK, hP, hsz⟩ := C
  have hi : i < 18 := (List.getElem?_eq_some_iff.mp hq).1
  have e0 : ad X (i + 8) = xS X (i + 8) := by unfold ad; rw [if_pos (by omega)]
  have e1 : (vR (some (i + 8)) :: st).map (cv X) = .ref (xS X (i + 8)) :: st.map (cv X) := by rw [← e0]; rfl
  rw [e1] at kk
  rw [hcls] at hown
  exact va_ldcS hx hb hown (hix ▸ hK.2.2.2 i q hq) hd kk
/-! two references -/
theorem ad_inj {X : EX} {a b : Nat} (h1 : 32 ≤ a) (h2 : 32 ≤ b) : ad X a = ad X b ↔ a = b := by
  unfold ad
  rw [if_neg (by omega), if_neg (by omega)]
  omega
theorem e_acmpne {r1 r2 : Option Nat} {off : Int} {tgt : Nat} (hd : Br y.2.1 pc (.if_acmp .ne off) off pc' tgt) (g1 : ∀ a, r1 = some a → 32 ≤ a) (g2 : ∀ a, r2 = some a → 32 ≤ a) (kt : ¬ r1 = r2 → Ev X y d mc ms Q cells slots tgt ls st h) (kf : r1 = r2 → Ev X y d mc ms Q cells slots pc' ls st h) : Ev X y d mc ms Q cells slots pc ls (vR r2 :: vR r1 :: st) h := by
  obtain ⟨hd, rfl, ht⟩ := hd
  intro p e s m args below meth c H locs lsr C hC hS hl
  have key : r1.map (ad X) = r2.map (ad X) ↔ r1 = r2 := by
    cases r1 with
    | none => cases r2 <;> simp
    | some a => cases r2 with
      | none => simp
      | some b =>
        have := ad_inj (X := X) (g1 a rfl) (g2 b rfl)
        simp [this]
  exact lv_acmp_ne C.1 C.2.1 hd ht (fun q => kt (fun z => q (key.mpr z)) p e s m args below meth c H locs lsr C hC hS hl) (fun q => kf (key.mp q) p e s m args below meth c H locs lsr C hC hS hl)
/-! Math.min -/
theorem e_min {x y0 : Int32} (hd : At y.2.1 pc (.invokestatic ix) 3 pc') (w1 : .methodLink y.1.cls ix Lib.Math.min.name ∈ TT) (w2 : .static Lib.Math.min.name ∈ TT) (w3 : .initialized "java/lang/Math" ∈ TT) (w4 : .code Lib.Math.min.name Lib.Math.min.code 2 (some .int) ∈ TT) (hdd : 1 ≤ d) (hcc : cells ≤ mc) (hss : slots ≤ ms) (hcat : catL st ≤ 8) (k : Ev X y d mc ms Q cells slots pc' ls (vI (if y0 < x then y0 else x) :: st) h) : Ev X y d mc ms Q cells slots pc ls (vI y0 :: vI x :: st) h := by
  obtain ⟨hd, rfl⟩ := hd
  intro p e s m args below meth c H locs lsr C hC hS hl
  have kk := k p e s m args below meth c H locs lsr C hC hS hl
  obtain ⟨lv, hv, -⟩ := id hl
  obtain ⟨hx, hb, hmx, hret, hown, hts, hlk, hnm, hK, hP, hsz⟩ := C
  exact va_mmin hx hb (by rw [hmx]; exact hv.1.symm) hown (hts _ w1) (hts _ w2) (hts _ w3) (hts _ w4) hdd (by rw [catL_eq]; show catL st + 13 ≤ 40 * d; omega) hcc hss hd kk
end R9
end
section
/-! System.arraycopy (ints, longs) (written by wip/whole/gen8.py) -/
def cpI (h : HP) (a b sp dp n : Nat) : HP := (fun q j => if q = b then va_cpy (hI h a) (hI h b) sp dp n j else hI h q j, h.2)
def cpL (h : HP) (a b sp dp n : Nat) : HP := (h.1, fun q j => if q = b then va_cpy (hL h a) (hL h b) sp dp n j else hL h q j, h.2.2)
theorem nn_int {z : Int32} (hz : ¬ z < 0) : z.toInt = (z.toNatClampNeg : Int) := by
  have h0 : (0 : Int) ≤ z.toInt := by
    have := Int32.le_iff_toInt_le.mp (Int32.not_lt.mp hz)
    simpa using this
  show z.toInt = ((z.toInt.toNat : Nat) : Int)
  omega
section R10
variable {X : EX} {y : MD} {d mc ms : Nat} {Q : Option VV → HP → Prop} {cells slots pc pc' : Nat} {ls : ZL} {st : List VV} {h : HP} {ix a b : Nat}
theorem e_copyI {sp dp n : Int32} (hd : At y.2.1 pc (.invokestatic ix) 3 pc') (w1 : .methodLink y.1.cls ix arraycopyName ∈ TT) (w2 : .native arraycopyName ∈ TT) (w3 : .static arraycopyName ∈ TT) (w4 : .initialized "java/lang/System" ∈ TT) (ok1 : Is h a 13) (ok2 : Is h b 13) (h1 : ¬ sp < 0) (h2 : ¬ dp < 0) (h3 : ¬ n < 0) (h4 : sp.toNatClampNeg + n.toNatClampNeg ≤ hN h a) (h5 : dp.toNatClampNeg + n.toNatClampNeg ≤ hN h b)
    (hdd : 1 ≤ d) (hcat : catL st ≤ 8) (k : Ev X y d mc ms Q cells slots pc' ls st (cpI h a b sp.toNatClampNeg dp.toNatClampNeg n.toNatClampNeg)) : Ev X y d mc ms Q cells slots pc ls (vI n :: vI dp :: vR (some b) :: vI sp :: vR (some a) :: st) h := by
  obtain ⟨hd, rfl⟩ := hd
  intro p e s m args below meth c H locs lsr C hC hS hl
  have kk := fun H1 locs1 hC1 hS1 => k p e s m args below meth c H1 locs1 lsr C hC1 hS1 hl
  obtain ⟨lv, hv, -⟩ := id hl
  obtain ⟨hx, hb, hmx, hret, hown, hts, hlk, hnm, hK, hP, hsz⟩ := C
  have he1 := wl_get (X := X) ok1.1 ok1.2.1
  have he2 := wl_get (X := X) ok2.1 ok2.2.1
  rw [ent_int (t := 13) (by decide) ok1.2.2] at he1
  rw [ent_int (t := 13) (by decide) ok2.2.2] at he2
  have hc1 : H[ad X a]? = some (vp_cell (xA X 13) (hN h a, .inl (hI h a))) := hC.2.2 _ _ he1
  have hc2 : H[ad X b]? = some (vp_cell (xA X 13) (hN h b, .inl (hI h b))) := hC.2.2 _ _ he2
  obtain ⟨-, k1, hk1, cm1, hkk1⟩ := (hK.1.2 2 _ rfl).1 0 (fun _ => .null)
  have hk1 : s.vm.classes[xA X 13]? = some k1 := hk1
  have hkk1 : k1.kind = .array cm1 .int := hkk1
  intro T hT X0
  obtain ⟨vm', X', step⟩ := X0.arraycopy hx hown (hts _ w1) (hts _ w2) (hts _ w3) (hts _ w4) (src := ad X a) (dst := ad X b) (cs := vp_cell (xA X 13) (hN h a, .inl (hI h a))) (cd := vp_cell (xA X 13) (hN h b, .inl (hI h b))) (srcPos := sp) (destPos := dp) (n := n) (by rw [hT]; exact hc1) (by rw [hT]; exact hc2)
    (fun _ h => by cases h) (fun _ h => by cases h) (fun h => by cases h) (fun h => by cases h) hk1 hk1 hkk1 hkk1 (by simp [refKind]) h1 h2 h3
    (by rw [nn_int h1, nn_int h3]; show ¬ _ > ((arrV _ _ (fun j => .int (hI h a j))).slots.size : Int); rw [arrV_size]; omega)
    (by rw [nn_int h2, nn_int h3]; show ¬ _ > ((arrV _ _ (fun j => .int (hI h b j))).slots.size : Int); rw [arrV_size]; omega)
    (fun vm₁ _ i hi => by
      have e9 : (vp_cell (xA X 13) (hN h a, .inl (hI h a))).slots.getD (sp.toNatClampNeg + i) .null = .int (hI h a (sp.toNatClampNeg + i)) := by
        show (arrV _ _ (fun j => .int (hI h a j))).slots.getD _ _ = _
        rw [Array.getD_eq_getD_getElem?, arrV_read _ _ (by omega)]
        rfl
      refine ⟨?_, ?_⟩
      · rw [e9]; rfl
      · rw [e9]; exact trivial)
    (g := F0 m pc lsr (.int n :: .int dp :: .ref (ad X b) :: .int sp :: .ref (ad X a) :: st.map (cv X))) rfl (by rw [hmx]; exact hv.1) (rest := st.map (cv X)) rfl (by rw [hb]; exact hd) hdd
    (by rw [catL_eq]; have hnf : nativeFrameWords "java/lang/System" "arraycopy" 5 ≤ 20 := by decide
        show 2 * 0 + catL st + (nativeFrameWords "java/lang/System" "arraycopy" 5 + 11) ≤ 40 * d; omega)
  have e1 : copied (vp_cell (xA X 13) (hN h a, .inl (hI h a))) (vp_cell (xA X 13) (hN h b, .inl (hI h b))) sp dp n = vp_cell (xA X 13) (hN h b, .inl (va_cpy (hI h a) (hI h b) sp.toNatClampNeg dp.toNatClampNeg n.toNatClampNeg)) := va_copied (fun z => .int z) _ _ (hI h a) (hI h b) h4
  rw [e1] at X' step
  have hlt : ad X b < H.size := (Array.getElem?_eq_some_iff.mp hc2).1
  generalize hnew : vp_cell (xA X 13) (hN h b, .inl (va_cpy (hI h a) (hI h b) sp.toNatClampNeg dp.toNatClampNeg n.toNatClampNeg)) = cN at X' step
  have hheap : ((T.setVm vm').setCell (ad X b) cN).heap = H.setIfInBounds (ad X b) cN := by rw [← hT]; rfl
  have oq : ∀ q : Nat, q ≠ ad X b → (H.setIfInBounds (ad X b) cN)[q]? = H[q]? := fun q hq => by simp [Array.getElem?_setIfInBounds, Ne.symm hq]
  have hz : (H.setIfInBounds (ad X b) cN).size = H.size := by simp
  have hcor : CorH X (cpI h a b sp.toNatClampNeg dp.toNatClampNeg n.toNatClampNeg) (H.setIfInBounds (ad X b) cN) := by
    refine corH_set (a := b) hC ok2.1 ok2.2.1 rfl ?_ ?_ hz oq
    · have ok' : (cpI h a b sp.toNatClampNeg dp.toNatClampNeg n.toNatClampNeg).2.2.2.1 b = 13 := ok2.2.2
      rw [ent_int (t := 13) (by decide) ok']
      have e5 : hI (cpI h a b sp.toNatClampNeg dp.toNatClampNeg n.toNatClampNeg) b = va_cpy (hI h a) (hI h b) sp.toNatClampNeg dp.toNatClampNeg n.toNatClampNeg := by
        funext j
        exact if_pos rfl
      rw [e5]
      show (H.setIfInBounds (ad X b) cN)[ad X b]? = some (vp_cell (xA X 13) (hN h b, _))
      rw [hnew]
      simp [Array.getElem?_setIfInBounds, hlt]
    · intro q hq
      have e5 : hI (cpI h a b sp.toNatClampNeg dp.toNatClampNeg n.toNatClampNeg) q = hI h q := by
        funext j
        exact if_neg hq
      unfold ent
      rw [e5]
      rfl
  obtain ⟨t, a1, b1⟩ := kk (H.setIfInBounds (ad X b) cN) _ hcor ⟨by rw [hz]; exact hS.1, fun q g1 g2 => by
      rw [oq q (fun e => g2 (by rw [e]; exact ad_A ok2.1))]
      exact hS.2.1 q g1 g2, fun q hq => by
      rcases List.mem_append.mp hq with h | h
      · exact hS.2.2 q h
      · obtain ⟨z, -, hz⟩ := List.mem_map.mp h
        rw [← hz]
        exact ad_A ok2.1⟩ _ hheap X'
  exact ⟨t, step t a1, b1⟩
theorem e_copyL {sp dp n : Int32} (hd : At y.2.1 pc (.invokestatic ix) 3 pc') (w1 : .methodLink y.1.cls ix arraycopyName ∈ TT) (w2 : .native arraycopyName ∈ TT) (w3 : .static arraycopyName ∈ TT) (w4 : .initialized "java/lang/System" ∈ TT) (ok1 : Is h a 14) (ok2 : Is h b 14) (h1 : ¬ sp < 0) (h2 : ¬ dp < 0) (h3 : ¬ n < 0) (h4 : sp.toNatClampNeg + n.toNatClampNeg ≤ hN h a) (h5 : dp.toNatClampNeg + n.toNatClampNeg ≤ hN h b)
    (hdd : 1 ≤ d) (hcat : catL st ≤ 8) (k : Ev X y d mc ms Q cells slots pc' ls st (cpL h a b sp.toNatClampNeg dp.toNatClampNeg n.toNatClampNeg)) : Ev X y d mc ms Q cells slots pc ls (vI n :: vI dp :: vR (some b) :: vI sp :: vR (some a) :: st) h := by
  obtain ⟨hd, rfl⟩ := hd
  intro p e s m args below meth c H locs lsr C hC hS hl
  have kk := fun H1 locs1 hC1 hS1 => k p e s m args below meth c H1 locs1 lsr C hC1 hS1 hl
  obtain ⟨lv, hv, -⟩ := id hl
  obtain ⟨hx, hb, hmx, hret, hown, hts, hlk, hnm, hK, hP, hsz⟩ := C
  have he1 := wl_get (X := X) ok1.1 ok1.2.1
  have he2 := wl_get (X := X) ok2.1 ok2.2.1
  rw [ent_long ok1.2.2] at he1
  rw [ent_long ok2.2.2] at he2
  have hc1 : H[ad X a]? = some (vp_cell (xA X 14) (hN h a, .inr (.inl (hL h a)))) := hC.2.2 _ _ he1
  have hc2 : H[ad X b]? = some (vp_cell (xA X 14) (hN h b, .inr (.inl (hL h b)))) := hC.2.2 _ _ he2
  obtain ⟨-, k1, hk1, cm1, hkk1⟩ := (hK.1.2 3 _ rfl).1 0 (fun _ => .null)
  have hk1 : s.vm.classes[xA X 14]? = some k1 := hk1
  have hkk1 : k1.kind = .array cm1 .long := hkk1
  intro T hT X0
  obtain ⟨vm', X', step⟩ := X0.arraycopy hx hown (hts _ w1) (hts _ w2) (hts _ w3) (hts _ w4) (src := ad X a) (dst := ad X b) (cs := vp_cell (xA X 14) (hN h a, .inr (.inl (hL h a)))) (cd := vp_cell (xA X 14) (hN h b, .inr (.inl (hL h b)))) (srcPos := sp) (destPos := dp) (n := n) (by rw [hT]; exact hc1) (by rw [hT]; exact hc2)
    (fun _ h => by cases h) (fun _ h => by cases h) (fun h => by cases h) (fun h => by cases h) hk1 hk1 hkk1 hkk1 (by simp [refKind]) h1 h2 h3
    (by rw [nn_int h1, nn_int h3]; show ¬ _ > ((arrV _ _ (fun j => .long (hL h a j))).slots.size : Int); rw [arrV_size]; omega)
    (by rw [nn_int h2, nn_int h3]; show ¬ _ > ((arrV _ _ (fun j => .long (hL h b j))).slots.size : Int); rw [arrV_size]; omega)
    (fun vm₁ _ i hi => by
      have e9 : (vp_cell (xA X 14) (hN h a, .inr (.inl (hL h a)))).slots.getD (sp.toNatClampNeg + i) .null = .long (hL h a (sp.toNatClampNeg + i)) := by
        show (arrV _ _ (fun j => .long (hL h a j))).slots.getD _ _ = _
        rw [Array.getD_eq_getD_getElem?, arrV_read _ _ (by omega)]
        rfl
      refine ⟨?_, ?_⟩
      · rw [e9]; rfl
      · rw [e9]; exact trivial)
    (g := F0 m pc lsr (.int n :: .int dp :: .ref (ad X b) :: .int sp :: .ref (ad X a) :: st.map (cv X))) rfl (by rw [hmx]; exact hv.1) (rest := st.map (cv X)) rfl (by rw [hb]; exact hd) hdd
    (by rw [catL_eq]; have hnf : nativeFrameWords "java/lang/System" "arraycopy" 5 ≤ 20 := by decide
        show 2 * 0 + catL st + (nativeFrameWords "java/lang/System" "arraycopy" 5 + 11) ≤ 40 * d; omega)
  have e1 : copied (vp_cell (xA X 14) (hN h a, .inr (.inl (hL h a)))) (vp_cell (xA X 14) (hN h b, .inr (.inl (hL h b)))) sp dp n = vp_cell (xA X 14) (hN h b, .inr (.inl (va_cpy (hL h a) (hL h b) sp.toNatClampNeg dp.toNatClampNeg n.toNatClampNeg))) := va_copied (fun z => .long z) _ _ (hL h a) (hL h b) h4
  rw [e1] at X' step
  have hlt : ad X b < H.size := (Array.getElem?_eq_some_iff.mp hc2).1
  generalize hnew : vp_cell (xA X 14) (hN h b, .inr (.inl (va_cpy (hL h a) (hL h b) sp.toNatClampNeg dp.toNatClampNeg n.toNatClampNeg))) = cN at X' step
  have hheap : ((T.setVm vm').setCell (ad X b) cN).heap = H.setIfInBounds (ad X b) cN := by rw [← hT]; rfl
  have oq : ∀ q : Nat, q ≠ ad X b → (H.setIfInBounds (ad X b) cN)[q]? = H[q]? := fun q hq => by simp [Array.getElem?_setIfInBounds, Ne.symm hq]
  have hz : (H.setIfInBounds (ad X b) cN).size = H.size := by simp
  have hcor : CorH X (cpL h a b sp.toNatClampNeg dp.toNatClampNeg n.toNatClampNeg) (H.setIfInBounds (ad X b) cN) := by
    refine corH_set (a := b) hC ok2.1 ok2.2.1 rfl ?_ ?_ hz oq
    · have ok' : (cpL h a b sp.toNatClampNeg dp.toNatClampNeg n.toNatClampNeg).2.2.2.1 b = 14 := ok2.2.2
      rw [ent_long ok']
      have e5 : hL (cpL h a b sp.toNatClampNeg dp.toNatClampNeg n.toNatClampNeg) b = va_cpy (hL h a) (hL h b) sp.toNatClampNeg dp.toNatClampNeg n.toNatClampNeg := by
        funext j
        exact if_pos rfl
      rw [e5]
      show (H.setIfInBounds (ad X b) cN)[ad X b]? = some (vp_cell (xA X 14) (hN h b, _))
      rw [hnew]
      simp [Array.getElem?_setIfInBounds, hlt]
    · intro q hq
      have e5 : hL (cpL h a b sp.toNatClampNeg dp.toNatClampNeg n.toNatClampNeg) q = hL h q := by
        funext j
        exact if_neg hq
      unfold ent
      rw [e5]
      rfl
  obtain ⟨t, a1, b1⟩ := kk (H.setIfInBounds (ad X b) cN) _ hcor ⟨by rw [hz]; exact hS.1, fun q g1 g2 => by
      rw [oq q (fun e => g2 (by rw [e]; exact ad_A ok2.1))]
      exact hS.2.1 q g1 g2, fun q hq => by
      rcases List.mem_append.mp hq with h | h
      · exact hS.2.2 q h
      · obtain ⟨z, -, hz⟩ := List.mem_map.mp h
        rw [← hz]
        exact ad_A ok2.1⟩ _ hheap X'
  exact ⟨t, step t a1, b1⟩
end R10
end
section
/-! decode rows: the nested classes, the JDK's methods (written by wip/whole/gen9.py) -/
theorem aX0_init_0 : At cX0_init 0 (.aload_n 0) 1 1 := ⟨by decide +kernel, rfl⟩
theorem aX0_init_1 : At cX0_init 1 (.invokespecial 3) 3 4 := ⟨by decide +kernel, rfl⟩
theorem aX0_init_4 : At cX0_init 4 (.aload_n 0) 1 5 := ⟨by decide +kernel, rfl⟩
theorem aX0_init_5 : At cX0_init 5 (.bipush 12) 2 7 := ⟨by decide +kernel, rfl⟩
theorem aX0_init_7 : At cX0_init 7 (.anewarray 9) 3 10 := ⟨by decide +kernel, rfl⟩
theorem aX0_init_10 : At cX0_init 10 (.putfield 11) 3 13 := ⟨by decide +kernel, rfl⟩
theorem aX0_init_13 : At cX0_init 13 (.aload_n 0) 1 14 := ⟨by decide +kernel, rfl⟩
theorem aX0_init_14 : At cX0_init 14 (.iconst 4) 1 15 := ⟨by decide +kernel, rfl⟩
theorem aX0_init_15 : At cX0_init 15 (.newarray .int) 2 17 := ⟨by decide +kernel, rfl⟩
theorem aX0_init_17 : At cX0_init 17 (.putfield 17) 3 20 := ⟨by decide +kernel, rfl⟩
theorem aX0_init_20 : At cX0_init 20 (.aload_n 0) 1 21 := ⟨by decide +kernel, rfl⟩
theorem aX0_init_21 : At cX0_init 21 (.iconst 3) 1 22 := ⟨by decide +kernel, rfl⟩
theorem aX0_init_22 : At cX0_init 22 (.newarray .int) 2 24 := ⟨by decide +kernel, rfl⟩
theorem aX0_init_24 : At cX0_init 24 (.dup) 1 25 := ⟨by decide +kernel, rfl⟩
theorem aX0_init_25 : At cX0_init 25 (.iconst 0) 1 26 := ⟨by decide +kernel, rfl⟩
theorem aX0_init_26 : At cX0_init 26 (.bipush 8) 2 28 := ⟨by decide +kernel, rfl⟩
theorem aX0_init_28 : At cX0_init 28 (.iastore) 1 29 := ⟨by decide +kernel, rfl⟩
theorem aX0_init_29 : At cX0_init 29 (.dup) 1 30 := ⟨by decide +kernel, rfl⟩
theorem aX0_init_30 : At cX0_init 30 (.iconst 1) 1 31 := ⟨by decide +kernel, rfl⟩
theorem aX0_init_31 : At cX0_init 31 (.iconst 4) 1 32 := ⟨by decide +kernel, rfl⟩
theorem aX0_init_32 : At cX0_init 32 (.iastore) 1 33 := ⟨by decide +kernel, rfl⟩
theorem aX0_init_33 : At cX0_init 33 (.dup) 1 34 := ⟨by decide +kernel, rfl⟩
theorem aX0_init_34 : At cX0_init 34 (.iconst 2) 1 35 := ⟨by decide +kernel, rfl⟩
theorem aX0_init_35 : At cX0_init 35 (.iconst 2) 1 36 := ⟨by decide +kernel, rfl⟩
theorem aX0_init_36 : At cX0_init 36 (.iastore) 1 37 := ⟨by decide +kernel, rfl⟩
theorem aX0_init_37 : At cX0_init 37 (.putfield 21) 3 40 := ⟨by decide +kernel, rfl⟩
theorem aX0_init_40 : At cX0_init 40 (.aload_n 0) 1 41 := ⟨by decide +kernel, rfl⟩
theorem aX0_init_41 : At cX0_init 41 (.iconst 1) 1 42 := ⟨by decide +kernel, rfl⟩
theorem aX0_init_42 : At cX0_init 42 (.putfield 24) 3 45 := ⟨by decide +kernel, rfl⟩
theorem aX0_init_45 : At cX0_init 45 (.return_) 1 46 := ⟨by decide +kernel, rfl⟩
theorem aX0_become_0 : At cX0_become 0 (.aload_n 0) 1 1 := ⟨by decide +kernel, rfl⟩
theorem aX0_become_1 : At cX0_become 1 (.aload_n 1) 1 2 := ⟨by decide +kernel, rfl⟩
theorem aX0_become_2 : At cX0_become 2 (.getfield 28) 3 5 := ⟨by decide +kernel, rfl⟩
theorem aX0_become_5 : At cX0_become 5 (.putfield 28) 3 8 := ⟨by decide +kernel, rfl⟩
theorem aX0_become_8 : At cX0_become 8 (.iconst 0) 1 9 := ⟨by decide +kernel, rfl⟩
theorem aX0_become_9 : At cX0_become 9 (.istore_n 2) 1 10 := ⟨by decide +kernel, rfl⟩
theorem aX0_become_10 : At cX0_become 10 (.iload_n 2) 1 11 := ⟨by decide +kernel, rfl⟩
theorem aX0_become_11 : At cX0_become 11 (.aload_n 0) 1 12 := ⟨by decide +kernel, rfl⟩
theorem aX0_become_12 : At cX0_become 12 (.getfield 28) 3 15 := ⟨by decide +kernel, rfl⟩
theorem aX0_become_15 : Br cX0_become 15 (.if_icmp .ge (21)) (21) 18 36 := ⟨by decide +kernel, rfl, by decide⟩
theorem aX0_become_18 : At cX0_become 18 (.aload_n 0) 1 19 := ⟨by decide +kernel, rfl⟩
theorem aX0_become_19 : At cX0_become 19 (.getfield 11) 3 22 := ⟨by decide +kernel, rfl⟩
theorem aX0_become_22 : At cX0_become 22 (.iload_n 2) 1 23 := ⟨by decide +kernel, rfl⟩
theorem aX0_become_23 : At cX0_become 23 (.aload_n 1) 1 24 := ⟨by decide +kernel, rfl⟩
theorem aX0_become_24 : At cX0_become 24 (.getfield 11) 3 27 := ⟨by decide +kernel, rfl⟩
theorem aX0_become_27 : At cX0_become 27 (.iload_n 2) 1 28 := ⟨by decide +kernel, rfl⟩
theorem aX0_become_28 : At cX0_become 28 (.aaload) 1 29 := ⟨by decide +kernel, rfl⟩
theorem aX0_become_29 : At cX0_become 29 (.aastore) 1 30 := ⟨by decide +kernel, rfl⟩
theorem aX0_become_30 : At cX0_become 30 (.iinc 2 1) 3 33 := ⟨by decide +kernel, rfl⟩
theorem aX0_become_33 : Br cX0_become 33 (.goto (-23)) (-23) 36 10 := ⟨by decide +kernel, rfl, by decide⟩
theorem aX0_become_36 : At cX0_become 36 (.aload_n 1) 1 37 := ⟨by decide +kernel, rfl⟩
theorem aX0_become_37 : At cX0_become 37 (.getfield 17) 3 40 := ⟨by decide +kernel, rfl⟩
theorem aX0_become_40 : At cX0_become 40 (.iconst 0) 1 41 := ⟨by decide +kernel, rfl⟩
theorem aX0_become_41 : At cX0_become 41 (.aload_n 0) 1 42 := ⟨by decide +kernel, rfl⟩
theorem aX0_become_42 : At cX0_become 42 (.getfield 17) 3 45 := ⟨by decide +kernel, rfl⟩
theorem aX0_become_45 : At cX0_become 45 (.iconst 0) 1 46 := ⟨by decide +kernel, rfl⟩
theorem aX0_become_46 : At cX0_become 46 (.iconst 4) 1 47 := ⟨by decide +kernel, rfl⟩
theorem aX0_become_47 : At cX0_become 47 (.invokestatic 31) 3 50 := ⟨by decide +kernel, rfl⟩
theorem aX0_become_50 : At cX0_become 50 (.aload_n 0) 1 51 := ⟨by decide +kernel, rfl⟩
theorem aX0_become_51 : At cX0_become 51 (.aload_n 1) 1 52 := ⟨by decide +kernel, rfl⟩
theorem aX0_become_52 : At cX0_become 52 (.getfield 37) 3 55 := ⟨by decide +kernel, rfl⟩
theorem aX0_become_55 : At cX0_become 55 (.putfield 37) 3 58 := ⟨by decide +kernel, rfl⟩
theorem aX0_become_58 : At cX0_become 58 (.aload_n 1) 1 59 := ⟨by decide +kernel, rfl⟩
theorem aX0_become_59 : At cX0_become 59 (.getfield 21) 3 62 := ⟨by decide +kernel, rfl⟩
theorem aX0_become_62 : At cX0_become 62 (.iconst 0) 1 63 := ⟨by decide +kernel, rfl⟩
theorem aX0_become_63 : At cX0_become 63 (.aload_n 0) 1 64 := ⟨by decide +kernel, rfl⟩
theorem aX0_become_64 : At cX0_become 64 (.getfield 21) 3 67 := ⟨by decide +kernel, rfl⟩
theorem aX0_become_67 : At cX0_become 67 (.iconst 0) 1 68 := ⟨by decide +kernel, rfl⟩
theorem aX0_become_68 : At cX0_become 68 (.iconst 3) 1 69 := ⟨by decide +kernel, rfl⟩
theorem aX0_become_69 : At cX0_become 69 (.invokestatic 31) 3 72 := ⟨by decide +kernel, rfl⟩
theorem aX0_become_72 : At cX0_become 72 (.aload_n 0) 1 73 := ⟨by decide +kernel, rfl⟩
theorem aX0_become_73 : At cX0_become 73 (.aload_n 1) 1 74 := ⟨by decide +kernel, rfl⟩
theorem aX0_become_74 : At cX0_become 74 (.getfield 24) 3 77 := ⟨by decide +kernel, rfl⟩
theorem aX0_become_77 : At cX0_become 77 (.putfield 24) 3 80 := ⟨by decide +kernel, rfl⟩
theorem aX0_become_80 : At cX0_become 80 (.return_) 1 81 := ⟨by decide +kernel, rfl⟩
theorem aX0_firstOpen_0 : At cX0_firstOpen 0 (.iconst 0) 1 1 := ⟨by decide +kernel, rfl⟩
theorem aX0_firstOpen_1 : At cX0_firstOpen 1 (.istore_n 1) 1 2 := ⟨by decide +kernel, rfl⟩
theorem aX0_firstOpen_2 : At cX0_firstOpen 2 (.iconst 0) 1 3 := ⟨by decide +kernel, rfl⟩
theorem aX0_firstOpen_3 : At cX0_firstOpen 3 (.istore_n 2) 1 4 := ⟨by decide +kernel, rfl⟩
theorem aX0_firstOpen_4 : At cX0_firstOpen 4 (.iload_n 2) 1 5 := ⟨by decide +kernel, rfl⟩
theorem aX0_firstOpen_5 : At cX0_firstOpen 5 (.aload_n 0) 1 6 := ⟨by decide +kernel, rfl⟩
theorem aX0_firstOpen_6 : At cX0_firstOpen 6 (.getfield 37) 3 9 := ⟨by decide +kernel, rfl⟩
theorem aX0_firstOpen_9 : Br cX0_firstOpen 9 (.if_icmp .ge (24)) (24) 12 33 := ⟨by decide +kernel, rfl, by decide⟩
theorem aX0_firstOpen_12 : At cX0_firstOpen 12 (.iload_n 1) 1 13 := ⟨by decide +kernel, rfl⟩
theorem aX0_firstOpen_13 : At cX0_firstOpen 13 (.aload_n 0) 1 14 := ⟨by decide +kernel, rfl⟩
theorem aX0_firstOpen_14 : At cX0_firstOpen 14 (.getfield 17) 3 17 := ⟨by decide +kernel, rfl⟩
theorem aX0_firstOpen_17 : At cX0_firstOpen 17 (.iload_n 2) 1 18 := ⟨by decide +kernel, rfl⟩
theorem aX0_firstOpen_18 : At cX0_firstOpen 18 (.iaload) 1 19 := ⟨by decide +kernel, rfl⟩
theorem aX0_firstOpen_19 : At cX0_firstOpen 19 (.getstatic 40) 3 22 := ⟨by decide +kernel, rfl⟩
theorem aX0_firstOpen_22 : At cX0_firstOpen 22 (.iload_n 2) 1 23 := ⟨by decide +kernel, rfl⟩
theorem aX0_firstOpen_23 : At cX0_firstOpen 23 (.iaload) 1 24 := ⟨by decide +kernel, rfl⟩
theorem aX0_firstOpen_24 : At cX0_firstOpen 24 (.imul) 1 25 := ⟨by decide +kernel, rfl⟩
theorem aX0_firstOpen_25 : At cX0_firstOpen 25 (.iadd) 1 26 := ⟨by decide +kernel, rfl⟩
theorem aX0_firstOpen_26 : At cX0_firstOpen 26 (.istore_n 1) 1 27 := ⟨by decide +kernel, rfl⟩
theorem aX0_firstOpen_27 : At cX0_firstOpen 27 (.iinc 2 1) 3 30 := ⟨by decide +kernel, rfl⟩
theorem aX0_firstOpen_30 : Br cX0_firstOpen 30 (.goto (-26)) (-26) 33 4 := ⟨by decide +kernel, rfl, by decide⟩
theorem aX0_firstOpen_33 : At cX0_firstOpen 33 (.iload_n 1) 1 34 := ⟨by decide +kernel, rfl⟩
theorem aX0_firstOpen_34 : At cX0_firstOpen 34 (.ireturn) 1 35 := ⟨by decide +kernel, rfl⟩
theorem aX0_openCount_0 : At cX0_openCount 0 (.getstatic 43) 3 3 := ⟨by decide +kernel, rfl⟩
theorem aX0_openCount_3 : At cX0_openCount 3 (.aload_n 0) 1 4 := ⟨by decide +kernel, rfl⟩
theorem aX0_openCount_4 : At cX0_openCount 4 (.getfield 37) 3 7 := ⟨by decide +kernel, rfl⟩
theorem aX0_openCount_7 : At cX0_openCount 7 (.iaload) 1 8 := ⟨by decide +kernel, rfl⟩
theorem aX0_openCount_8 : At cX0_openCount 8 (.ireturn) 1 9 := ⟨by decide +kernel, rfl⟩
theorem aX0_endOpen_0 : At cX0_endOpen 0 (.aload_n 0) 1 1 := ⟨by decide +kernel, rfl⟩
theorem aX0_endOpen_1 : At cX0_endOpen 1 (.invokevirtual 46) 3 4 := ⟨by decide +kernel, rfl⟩
theorem aX0_endOpen_4 : At cX0_endOpen 4 (.aload_n 0) 1 5 := ⟨by decide +kernel, rfl⟩
theorem aX0_endOpen_5 : At cX0_endOpen 5 (.invokevirtual 50) 3 8 := ⟨by decide +kernel, rfl⟩
theorem aX0_endOpen_8 : At cX0_endOpen 8 (.iadd) 1 9 := ⟨by decide +kernel, rfl⟩
theorem aX0_endOpen_9 : At cX0_endOpen 9 (.ireturn) 1 10 := ⟨by decide +kernel, rfl⟩
theorem aX0_isOpen_0 : At cX0_isOpen 0 (.iload_n 1) 1 1 := ⟨by decide +kernel, rfl⟩
theorem aX0_isOpen_1 : At cX0_isOpen 1 (.aload_n 0) 1 2 := ⟨by decide +kernel, rfl⟩
theorem aX0_isOpen_2 : At cX0_isOpen 2 (.invokevirtual 46) 3 5 := ⟨by decide +kernel, rfl⟩
theorem aX0_isOpen_5 : Br cX0_isOpen 5 (.if_icmp .lt (15)) (15) 8 20 := ⟨by decide +kernel, rfl, by decide⟩
theorem aX0_isOpen_8 : At cX0_isOpen 8 (.iload_n 1) 1 9 := ⟨by decide +kernel, rfl⟩
theorem aX0_isOpen_9 : At cX0_isOpen 9 (.aload_n 0) 1 10 := ⟨by decide +kernel, rfl⟩
theorem aX0_isOpen_10 : At cX0_isOpen 10 (.invokevirtual 53) 3 13 := ⟨by decide +kernel, rfl⟩
theorem aX0_isOpen_13 : Br cX0_isOpen 13 (.if_icmp .ge (7)) (7) 16 20 := ⟨by decide +kernel, rfl, by decide⟩
theorem aX0_isOpen_16 : At cX0_isOpen 16 (.iconst 1) 1 17 := ⟨by decide +kernel, rfl⟩
theorem aX0_isOpen_17 : Br cX0_isOpen 17 (.goto (4)) (4) 20 21 := ⟨by decide +kernel, rfl, by decide⟩
theorem aX0_isOpen_20 : At cX0_isOpen 20 (.iconst 0) 1 21 := ⟨by decide +kernel, rfl⟩
theorem aX0_isOpen_21 : At cX0_isOpen 21 (.ireturn) 1 22 := ⟨by decide +kernel, rfl⟩
theorem aX0_dealAt_0 : At cX0_dealAt 0 (.iload_n 1) 1 1 := ⟨by decide +kernel, rfl⟩
theorem aX0_dealAt_1 : At cX0_dealAt 1 (.aload_n 0) 1 2 := ⟨by decide +kernel, rfl⟩
theorem aX0_dealAt_2 : At cX0_dealAt 2 (.getfield 28) 3 5 := ⟨by decide +kernel, rfl⟩
theorem aX0_dealAt_5 : At cX0_dealAt 5 (.invokestatic 56) 3 8 := ⟨by decide +kernel, rfl⟩
theorem aX0_dealAt_8 : Br cX0_dealAt 8 (.ifCond .eq (7)) (7) 11 15 := ⟨by decide +kernel, rfl, by decide⟩
theorem aX0_dealAt_11 : At cX0_dealAt 11 (.aconst_null) 1 12 := ⟨by decide +kernel, rfl⟩
theorem aX0_dealAt_12 : Br cX0_dealAt 12 (.goto (9)) (9) 15 21 := ⟨by decide +kernel, rfl, by decide⟩
theorem aX0_dealAt_15 : At cX0_dealAt 15 (.aload_n 0) 1 16 := ⟨by decide +kernel, rfl⟩
theorem aX0_dealAt_16 : At cX0_dealAt 16 (.getfield 11) 3 19 := ⟨by decide +kernel, rfl⟩
theorem aX0_dealAt_19 : At cX0_dealAt 19 (.iload_n 1) 1 20 := ⟨by decide +kernel, rfl⟩
theorem aX0_dealAt_20 : At cX0_dealAt 20 (.aaload) 1 21 := ⟨by decide +kernel, rfl⟩
theorem aX0_dealAt_21 : At cX0_dealAt 21 (.areturn) 1 22 := ⟨by decide +kernel, rfl⟩
theorem aX0_numberOf_0 : At cX0_numberOf 0 (.iconst 0) 1 1 := ⟨by decide +kernel, rfl⟩
theorem aX0_numberOf_1 : At cX0_numberOf 1 (.istore_n 2) 1 2 := ⟨by decide +kernel, rfl⟩
theorem aX0_numberOf_2 : At cX0_numberOf 2 (.iload_n 2) 1 3 := ⟨by decide +kernel, rfl⟩
theorem aX0_numberOf_3 : At cX0_numberOf 3 (.aload_n 0) 1 4 := ⟨by decide +kernel, rfl⟩
theorem aX0_numberOf_4 : At cX0_numberOf 4 (.getfield 28) 3 7 := ⟨by decide +kernel, rfl⟩
theorem aX0_numberOf_7 : Br cX0_numberOf 7 (.if_icmp .ge (21)) (21) 10 28 := ⟨by decide +kernel, rfl, by decide⟩
theorem aX0_numberOf_10 : At cX0_numberOf 10 (.aload_n 0) 1 11 := ⟨by decide +kernel, rfl⟩
theorem aX0_numberOf_11 : At cX0_numberOf 11 (.getfield 11) 3 14 := ⟨by decide +kernel, rfl⟩
theorem aX0_numberOf_14 : At cX0_numberOf 14 (.iload_n 2) 1 15 := ⟨by decide +kernel, rfl⟩
theorem aX0_numberOf_15 : At cX0_numberOf 15 (.aaload) 1 16 := ⟨by decide +kernel, rfl⟩
theorem aX0_numberOf_16 : At cX0_numberOf 16 (.aload_n 1) 1 17 := ⟨by decide +kernel, rfl⟩
theorem aX0_numberOf_17 : Br cX0_numberOf 17 (.if_acmp .ne (5)) (5) 20 22 := ⟨by decide +kernel, rfl, by decide⟩
theorem aX0_numberOf_20 : At cX0_numberOf 20 (.iload_n 2) 1 21 := ⟨by decide +kernel, rfl⟩
theorem aX0_numberOf_21 : At cX0_numberOf 21 (.ireturn) 1 22 := ⟨by decide +kernel, rfl⟩
theorem aX0_numberOf_22 : At cX0_numberOf 22 (.iinc 2 1) 3 25 := ⟨by decide +kernel, rfl⟩
theorem aX0_numberOf_25 : Br cX0_numberOf 25 (.goto (-23)) (-23) 28 2 := ⟨by decide +kernel, rfl, by decide⟩
theorem aX0_numberOf_28 : At cX0_numberOf 28 (.iconst (-1)) 1 29 := ⟨by decide +kernel, rfl⟩
theorem aX0_numberOf_29 : At cX0_numberOf 29 (.ireturn) 1 30 := ⟨by decide +kernel, rfl⟩
theorem aX0_clashOf_0 : At cX0_clashOf 0 (.iload_n 2) 1 1 := ⟨by decide +kernel, rfl⟩
theorem aX0_clashOf_1 : At cX0_clashOf 1 (.iconst 3) 1 2 := ⟨by decide +kernel, rfl⟩
theorem aX0_clashOf_2 : At cX0_clashOf 2 (.irem) 1 3 := ⟨by decide +kernel, rfl⟩
theorem aX0_clashOf_3 : At cX0_clashOf 3 (.istore 5) 2 5 := ⟨by decide +kernel, rfl⟩
theorem aX0_clashOf_5 : At cX0_clashOf 5 (.iconst 1) 1 6 := ⟨by decide +kernel, rfl⟩
theorem aX0_clashOf_6 : At cX0_clashOf 6 (.iload 5) 2 8 := ⟨by decide +kernel, rfl⟩
theorem aX0_clashOf_8 : At cX0_clashOf 8 (.ishl) 1 9 := ⟨by decide +kernel, rfl⟩
theorem aX0_clashOf_9 : At cX0_clashOf 9 (.istore 6) 2 11 := ⟨by decide +kernel, rfl⟩
theorem aX0_clashOf_11 : At cX0_clashOf 11 (.iconst 0) 1 12 := ⟨by decide +kernel, rfl⟩
theorem aX0_clashOf_12 : At cX0_clashOf 12 (.istore 7) 2 14 := ⟨by decide +kernel, rfl⟩
theorem aX0_clashOf_14 : At cX0_clashOf 14 (.iload 7) 2 16 := ⟨by decide +kernel, rfl⟩
theorem aX0_clashOf_16 : At cX0_clashOf 16 (.aload_n 0) 1 17 := ⟨by decide +kernel, rfl⟩
theorem aX0_clashOf_17 : At cX0_clashOf 17 (.getfield 28) 3 20 := ⟨by decide +kernel, rfl⟩
theorem aX0_clashOf_20 : Br cX0_clashOf 20 (.if_icmp .ge (53)) (53) 23 73 := ⟨by decide +kernel, rfl, by decide⟩
theorem aX0_clashOf_23 : At cX0_clashOf 23 (.aload_n 0) 1 24 := ⟨by decide +kernel, rfl⟩
theorem aX0_clashOf_24 : At cX0_clashOf 24 (.iload 7) 2 26 := ⟨by decide +kernel, rfl⟩
theorem aX0_clashOf_26 : At cX0_clashOf 26 (.invokevirtual 60) 3 29 := ⟨by decide +kernel, rfl⟩
theorem aX0_clashOf_29 : At cX0_clashOf 29 (.astore 8) 2 31 := ⟨by decide +kernel, rfl⟩
theorem aX0_clashOf_31 : At cX0_clashOf 31 (.aload 8) 2 33 := ⟨by decide +kernel, rfl⟩
theorem aX0_clashOf_33 : Br cX0_clashOf 33 (.ifnonnull (7)) (7) 36 40 := ⟨by decide +kernel, rfl, by decide⟩
theorem aX0_clashOf_36 : At cX0_clashOf 36 (.iconst (-1)) 1 37 := ⟨by decide +kernel, rfl⟩
theorem aX0_clashOf_37 : Br cX0_clashOf 37 (.goto (10)) (10) 40 47 := ⟨by decide +kernel, rfl, by decide⟩
theorem aX0_clashOf_40 : At cX0_clashOf 40 (.aload 8) 2 42 := ⟨by decide +kernel, rfl⟩
theorem aX0_clashOf_42 : At cX0_clashOf 42 (.iload_n 1) 1 43 := ⟨by decide +kernel, rfl⟩
theorem aX0_clashOf_43 : At cX0_clashOf 43 (.iload_n 2) 1 44 := ⟨by decide +kernel, rfl⟩
theorem aX0_clashOf_44 : At cX0_clashOf 44 (.invokevirtual 64) 3 47 := ⟨by decide +kernel, rfl⟩
theorem aX0_clashOf_47 : At cX0_clashOf 47 (.istore 9) 2 49 := ⟨by decide +kernel, rfl⟩
theorem aX0_clashOf_49 : At cX0_clashOf 49 (.iload 9) 2 51 := ⟨by decide +kernel, rfl⟩
theorem aX0_clashOf_51 : Br cX0_clashOf 51 (.ifCond .lt (16)) (16) 54 67 := ⟨by decide +kernel, rfl, by decide⟩
theorem aX0_clashOf_54 : At cX0_clashOf 54 (.iload 9) 2 56 := ⟨by decide +kernel, rfl⟩
theorem aX0_clashOf_56 : At cX0_clashOf 56 (.istore 5) 2 58 := ⟨by decide +kernel, rfl⟩
theorem aX0_clashOf_58 : At cX0_clashOf 58 (.iload 6) 2 60 := ⟨by decide +kernel, rfl⟩
theorem aX0_clashOf_60 : At cX0_clashOf 60 (.iconst 1) 1 61 := ⟨by decide +kernel, rfl⟩
theorem aX0_clashOf_61 : At cX0_clashOf 61 (.iload 5) 2 63 := ⟨by decide +kernel, rfl⟩
theorem aX0_clashOf_63 : At cX0_clashOf 63 (.ishl) 1 64 := ⟨by decide +kernel, rfl⟩
theorem aX0_clashOf_64 : At cX0_clashOf 64 (.ior) 1 65 := ⟨by decide +kernel, rfl⟩
theorem aX0_clashOf_65 : At cX0_clashOf 65 (.istore 6) 2 67 := ⟨by decide +kernel, rfl⟩
theorem aX0_clashOf_67 : At cX0_clashOf 67 (.iinc 7 1) 3 70 := ⟨by decide +kernel, rfl⟩
theorem aX0_clashOf_70 : Br cX0_clashOf 70 (.goto (-56)) (-56) 73 14 := ⟨by decide +kernel, rfl, by decide⟩
theorem aX0_clashOf_73 : At cX0_clashOf 73 (.iload 6) 2 75 := ⟨by decide +kernel, rfl⟩
theorem aX0_clashOf_75 : At cX0_clashOf 75 (.iload_n 3) 1 76 := ⟨by decide +kernel, rfl⟩
theorem aX0_clashOf_76 : At cX0_clashOf 76 (.ishr) 1 77 := ⟨by decide +kernel, rfl⟩
theorem aX0_clashOf_77 : At cX0_clashOf 77 (.iconst 1) 1 78 := ⟨by decide +kernel, rfl⟩
theorem aX0_clashOf_78 : At cX0_clashOf 78 (.iand) 1 79 := ⟨by decide +kernel, rfl⟩
theorem aX0_clashOf_79 : Br cX0_clashOf 79 (.ifCond .ne (5)) (5) 82 84 := ⟨by decide +kernel, rfl, by decide⟩
theorem aX0_clashOf_82 : At cX0_clashOf 82 (.iconst 2) 1 83 := ⟨by decide +kernel, rfl⟩
theorem aX0_clashOf_83 : At cX0_clashOf 83 (.ireturn) 1 84 := ⟨by decide +kernel, rfl⟩
theorem aX0_clashOf_84 : At cX0_clashOf 84 (.iload 5) 2 86 := ⟨by decide +kernel, rfl⟩
theorem aX0_clashOf_86 : At cX0_clashOf 86 (.iload_n 3) 1 87 := ⟨by decide +kernel, rfl⟩
theorem aX0_clashOf_87 : Br cX0_clashOf 87 (.if_icmp .eq (5)) (5) 90 92 := ⟨by decide +kernel, rfl, by decide⟩
theorem aX0_clashOf_90 : At cX0_clashOf 90 (.iconst 0) 1 91 := ⟨by decide +kernel, rfl⟩
theorem aX0_clashOf_91 : At cX0_clashOf 91 (.ireturn) 1 92 := ⟨by decide +kernel, rfl⟩
theorem aX0_clashOf_92 : At cX0_clashOf 92 (.iload 6) 2 94 := ⟨by decide +kernel, rfl⟩
theorem aX0_clashOf_94 : At cX0_clashOf 94 (.iload 4) 2 96 := ⟨by decide +kernel, rfl⟩
theorem aX0_clashOf_96 : At cX0_clashOf 96 (.ishr) 1 97 := ⟨by decide +kernel, rfl⟩
theorem aX0_clashOf_97 : At cX0_clashOf 97 (.iconst 1) 1 98 := ⟨by decide +kernel, rfl⟩
theorem aX0_clashOf_98 : At cX0_clashOf 98 (.iand) 1 99 := ⟨by decide +kernel, rfl⟩
theorem aX0_clashOf_99 : Br cX0_clashOf 99 (.ifCond .eq (7)) (7) 102 106 := ⟨by decide +kernel, rfl, by decide⟩
theorem aX0_clashOf_102 : At cX0_clashOf 102 (.iconst 1) 1 103 := ⟨by decide +kernel, rfl⟩
theorem aX0_clashOf_103 : Br cX0_clashOf 103 (.goto (4)) (4) 106 107 := ⟨by decide +kernel, rfl, by decide⟩
theorem aX0_clashOf_106 : At cX0_clashOf 106 (.iconst (-1)) 1 107 := ⟨by decide +kernel, rfl⟩
theorem aX0_clashOf_107 : At cX0_clashOf 107 (.ireturn) 1 108 := ⟨by decide +kernel, rfl⟩
theorem aX1_init_0 : At cX1_init 0 (.aload_n 0) 1 1 := ⟨by decide +kernel, rfl⟩
theorem aX1_init_1 : At cX1_init 1 (.invokespecial 3) 3 4 := ⟨by decide +kernel, rfl⟩
theorem aX1_init_4 : At cX1_init 4 (.aload_n 0) 1 5 := ⟨by decide +kernel, rfl⟩
theorem aX1_init_5 : At cX1_init 5 (.iload_n 1) 1 6 := ⟨by decide +kernel, rfl⟩
theorem aX1_init_6 : At cX1_init 6 (.putfield 9) 3 9 := ⟨by decide +kernel, rfl⟩
theorem aX1_init_9 : At cX1_init 9 (.aload_n 0) 1 10 := ⟨by decide +kernel, rfl⟩
theorem aX1_init_10 : At cX1_init 10 (.iload_n 2) 1 11 := ⟨by decide +kernel, rfl⟩
theorem aX1_init_11 : At cX1_init 11 (.putfield 15) 3 14 := ⟨by decide +kernel, rfl⟩
theorem aX1_init_14 : At cX1_init 14 (.aload_n 0) 1 15 := ⟨by decide +kernel, rfl⟩
theorem aX1_init_15 : At cX1_init 15 (.iload_n 3) 1 16 := ⟨by decide +kernel, rfl⟩
theorem aX1_init_16 : At cX1_init 16 (.putfield 18) 3 19 := ⟨by decide +kernel, rfl⟩
theorem aX1_init_19 : At cX1_init 19 (.aload_n 0) 1 20 := ⟨by decide +kernel, rfl⟩
theorem aX1_init_20 : At cX1_init 20 (.iload 4) 2 22 := ⟨by decide +kernel, rfl⟩
theorem aX1_init_22 : At cX1_init 22 (.putfield 21) 3 25 := ⟨by decide +kernel, rfl⟩
theorem aX1_init_25 : At cX1_init 25 (.aload_n 0) 1 26 := ⟨by decide +kernel, rfl⟩
theorem aX1_init_26 : At cX1_init 26 (.iload 5) 2 28 := ⟨by decide +kernel, rfl⟩
theorem aX1_init_28 : At cX1_init 28 (.putfield 24) 3 31 := ⟨by decide +kernel, rfl⟩
theorem aX1_init_31 : At cX1_init 31 (.aload_n 0) 1 32 := ⟨by decide +kernel, rfl⟩
theorem aX1_init_32 : At cX1_init 32 (.iload 6) 2 34 := ⟨by decide +kernel, rfl⟩
theorem aX1_init_34 : At cX1_init 34 (.putfield 27) 3 37 := ⟨by decide +kernel, rfl⟩
theorem aX1_init_37 : At cX1_init 37 (.aload_n 0) 1 38 := ⟨by decide +kernel, rfl⟩
theorem aX1_init_38 : At cX1_init 38 (.aload 7) 2 40 := ⟨by decide +kernel, rfl⟩
theorem aX1_init_40 : At cX1_init 40 (.putfield 30) 3 43 := ⟨by decide +kernel, rfl⟩
theorem aX1_init_43 : At cX1_init 43 (.return_) 1 44 := ⟨by decide +kernel, rfl⟩
theorem aX1_isMet_0 : At cX1_isMet 0 (.aload_n 0) 1 1 := ⟨by decide +kernel, rfl⟩
theorem aX1_isMet_1 : At cX1_isMet 1 (.getfield 30) 3 4 := ⟨by decide +kernel, rfl⟩
theorem aX1_isMet_4 : Br cX1_isMet 4 (.ifnull (14)) (14) 7 18 := ⟨by decide +kernel, rfl, by decide⟩
theorem aX1_isMet_7 : At cX1_isMet 7 (.aload_n 0) 1 8 := ⟨by decide +kernel, rfl⟩
theorem aX1_isMet_8 : At cX1_isMet 8 (.getfield 30) 3 11 := ⟨by decide +kernel, rfl⟩
theorem aX1_isMet_11 : At cX1_isMet 11 (.iload_n 1) 1 12 := ⟨by decide +kernel, rfl⟩
theorem aX1_isMet_12 : At cX1_isMet 12 (.invokevirtual 34) 3 15 := ⟨by decide +kernel, rfl⟩
theorem aX1_isMet_15 : Br cX1_isMet 15 (.ifCond .eq (7)) (7) 18 22 := ⟨by decide +kernel, rfl, by decide⟩
theorem aX1_isMet_18 : At cX1_isMet 18 (.iconst 1) 1 19 := ⟨by decide +kernel, rfl⟩
theorem aX1_isMet_19 : Br cX1_isMet 19 (.goto (4)) (4) 22 23 := ⟨by decide +kernel, rfl, by decide⟩
theorem aX1_isMet_22 : At cX1_isMet 22 (.iconst 0) 1 23 := ⟨by decide +kernel, rfl⟩
theorem aX1_isMet_23 : At cX1_isMet 23 (.ireturn) 1 24 := ⟨by decide +kernel, rfl⟩
theorem aX1_gives_0 : At cX1_gives 0 (.aload_n 0) 1 1 := ⟨by decide +kernel, rfl⟩
theorem aX1_gives_1 : At cX1_gives 1 (.getfield 30) 3 4 := ⟨by decide +kernel, rfl⟩
theorem aX1_gives_4 : Br cX1_gives 4 (.ifnull (16)) (16) 7 20 := ⟨by decide +kernel, rfl, by decide⟩
theorem aX1_gives_7 : At cX1_gives 7 (.aload_n 0) 1 8 := ⟨by decide +kernel, rfl⟩
theorem aX1_gives_8 : At cX1_gives 8 (.getfield 30) 3 11 := ⟨by decide +kernel, rfl⟩
theorem aX1_gives_11 : At cX1_gives 11 (.iload_n 1) 1 12 := ⟨by decide +kernel, rfl⟩
theorem aX1_gives_12 : At cX1_gives 12 (.invokevirtual 34) 3 15 := ⟨by decide +kernel, rfl⟩
theorem aX1_gives_15 : Br cX1_gives 15 (.ifCond .ne (5)) (5) 18 20 := ⟨by decide +kernel, rfl, by decide⟩
theorem aX1_gives_18 : At cX1_gives 18 (.iconst (-1)) 1 19 := ⟨by decide +kernel, rfl⟩
theorem aX1_gives_19 : At cX1_gives 19 (.ireturn) 1 20 := ⟨by decide +kernel, rfl⟩
theorem aX1_gives_20 : At cX1_gives 20 (.iload_n 1) 1 21 := ⟨by decide +kernel, rfl⟩
theorem aX1_gives_21 : At cX1_gives 21 (.aload_n 0) 1 22 := ⟨by decide +kernel, rfl⟩
theorem aX1_gives_22 : At cX1_gives 22 (.getfield 21) 3 25 := ⟨by decide +kernel, rfl⟩
theorem aX1_gives_25 : At cX1_gives 25 (.invokestatic 40) 3 28 := ⟨by decide +kernel, rfl⟩
theorem aX1_gives_28 : At cX1_gives 28 (.istore_n 2) 1 29 := ⟨by decide +kernel, rfl⟩
theorem aX1_gives_29 : At cX1_gives 29 (.aload_n 0) 1 30 := ⟨by decide +kernel, rfl⟩
theorem aX1_gives_30 : At cX1_gives 30 (.getfield 9) 3 33 := ⟨by decide +kernel, rfl⟩
theorem aX1_gives_33 : At cX1_gives 33 (.tableswitch 121 1 5 #[35, 69, 118, 52, 92]) 35 68 := ⟨by decide +kernel, rfl⟩
theorem aX1_gives_68 : At cX1_gives 68 (.iload_n 2) 1 69 := ⟨by decide +kernel, rfl⟩
theorem aX1_gives_69 : At cX1_gives 69 (.aload_n 0) 1 70 := ⟨by decide +kernel, rfl⟩
theorem aX1_gives_70 : At cX1_gives 70 (.getfield 27) 3 73 := ⟨by decide +kernel, rfl⟩
theorem aX1_gives_73 : Br cX1_gives 73 (.if_icmp .lt (10)) (10) 76 83 := ⟨by decide +kernel, rfl, by decide⟩
theorem aX1_gives_76 : At cX1_gives 76 (.aload_n 0) 1 77 := ⟨by decide +kernel, rfl⟩
theorem aX1_gives_77 : At cX1_gives 77 (.getfield 21) 3 80 := ⟨by decide +kernel, rfl⟩
theorem aX1_gives_80 : Br cX1_gives 80 (.goto (4)) (4) 83 84 := ⟨by decide +kernel, rfl, by decide⟩
theorem aX1_gives_83 : At cX1_gives 83 (.iconst (-1)) 1 84 := ⟨by decide +kernel, rfl⟩
theorem aX1_gives_84 : At cX1_gives 84 (.ireturn) 1 85 := ⟨by decide +kernel, rfl⟩
theorem aX1_gives_85 : At cX1_gives 85 (.iload_n 2) 1 86 := ⟨by decide +kernel, rfl⟩
theorem aX1_gives_86 : At cX1_gives 86 (.aload_n 0) 1 87 := ⟨by decide +kernel, rfl⟩
theorem aX1_gives_87 : At cX1_gives 87 (.getfield 27) 3 90 := ⟨by decide +kernel, rfl⟩
theorem aX1_gives_90 : Br cX1_gives 90 (.if_icmp .ge (10)) (10) 93 100 := ⟨by decide +kernel, rfl, by decide⟩
theorem aX1_gives_93 : At cX1_gives 93 (.aload_n 0) 1 94 := ⟨by decide +kernel, rfl⟩
theorem aX1_gives_94 : At cX1_gives 94 (.getfield 21) 3 97 := ⟨by decide +kernel, rfl⟩
theorem aX1_gives_97 : Br cX1_gives 97 (.goto (4)) (4) 100 101 := ⟨by decide +kernel, rfl, by decide⟩
theorem aX1_gives_100 : At cX1_gives 100 (.iconst (-1)) 1 101 := ⟨by decide +kernel, rfl⟩
theorem aX1_gives_101 : At cX1_gives 101 (.ireturn) 1 102 := ⟨by decide +kernel, rfl⟩
theorem aX1_gives_102 : At cX1_gives 102 (.iload_n 2) 1 103 := ⟨by decide +kernel, rfl⟩
theorem aX1_gives_103 : At cX1_gives 103 (.iload_n 1) 1 104 := ⟨by decide +kernel, rfl⟩
theorem aX1_gives_104 : At cX1_gives 104 (.aload_n 0) 1 105 := ⟨by decide +kernel, rfl⟩
theorem aX1_gives_105 : At cX1_gives 105 (.getfield 24) 3 108 := ⟨by decide +kernel, rfl⟩
theorem aX1_gives_108 : At cX1_gives 108 (.invokestatic 40) 3 111 := ⟨by decide +kernel, rfl⟩
theorem aX1_gives_111 : At cX1_gives 111 (.isub) 1 112 := ⟨by decide +kernel, rfl⟩
theorem aX1_gives_112 : At cX1_gives 112 (.iconst 1) 1 113 := ⟨by decide +kernel, rfl⟩
theorem aX1_gives_113 : Br cX1_gives 113 (.if_icmp .lt (10)) (10) 116 123 := ⟨by decide +kernel, rfl, by decide⟩
theorem aX1_gives_116 : At cX1_gives 116 (.aload_n 0) 1 117 := ⟨by decide +kernel, rfl⟩
theorem aX1_gives_117 : At cX1_gives 117 (.getfield 21) 3 120 := ⟨by decide +kernel, rfl⟩
theorem aX1_gives_120 : Br cX1_gives 120 (.goto (4)) (4) 123 124 := ⟨by decide +kernel, rfl, by decide⟩
theorem aX1_gives_123 : At cX1_gives 123 (.iconst (-1)) 1 124 := ⟨by decide +kernel, rfl⟩
theorem aX1_gives_124 : At cX1_gives 124 (.ireturn) 1 125 := ⟨by decide +kernel, rfl⟩
theorem aX1_gives_125 : At cX1_gives 125 (.iload_n 2) 1 126 := ⟨by decide +kernel, rfl⟩
theorem aX1_gives_126 : At cX1_gives 126 (.iload_n 1) 1 127 := ⟨by decide +kernel, rfl⟩
theorem aX1_gives_127 : At cX1_gives 127 (.aload_n 0) 1 128 := ⟨by decide +kernel, rfl⟩
theorem aX1_gives_128 : At cX1_gives 128 (.getfield 24) 3 131 := ⟨by decide +kernel, rfl⟩
theorem aX1_gives_131 : At cX1_gives 131 (.invokestatic 40) 3 134 := ⟨by decide +kernel, rfl⟩
theorem aX1_gives_134 : At cX1_gives 134 (.isub) 1 135 := ⟨by decide +kernel, rfl⟩
theorem aX1_gives_135 : At cX1_gives 135 (.aload_n 0) 1 136 := ⟨by decide +kernel, rfl⟩
theorem aX1_gives_136 : At cX1_gives 136 (.getfield 27) 3 139 := ⟨by decide +kernel, rfl⟩
theorem aX1_gives_139 : Br cX1_gives 139 (.if_icmp .lt (10)) (10) 142 149 := ⟨by decide +kernel, rfl, by decide⟩
theorem aX1_gives_142 : At cX1_gives 142 (.aload_n 0) 1 143 := ⟨by decide +kernel, rfl⟩
theorem aX1_gives_143 : At cX1_gives 143 (.getfield 21) 3 146 := ⟨by decide +kernel, rfl⟩
theorem aX1_gives_146 : Br cX1_gives 146 (.goto (4)) (4) 149 150 := ⟨by decide +kernel, rfl, by decide⟩
theorem aX1_gives_149 : At cX1_gives 149 (.iconst (-1)) 1 150 := ⟨by decide +kernel, rfl⟩
theorem aX1_gives_150 : At cX1_gives 150 (.ireturn) 1 151 := ⟨by decide +kernel, rfl⟩
theorem aX1_gives_151 : Br cX1_gives 151 (.goto (8)) (8) 154 159 := ⟨by decide +kernel, rfl, by decide⟩
theorem aX1_gives_154 : At cX1_gives 154 (.aload_n 0) 1 155 := ⟨by decide +kernel, rfl⟩
theorem aX1_gives_155 : At cX1_gives 155 (.getfield 21) 3 158 := ⟨by decide +kernel, rfl⟩
theorem aX1_gives_158 : At cX1_gives 158 (.ireturn) 1 159 := ⟨by decide +kernel, rfl⟩
theorem aX1_gives_159 : At cX1_gives 159 (.aload_n 0) 1 160 := ⟨by decide +kernel, rfl⟩
theorem aX1_gives_160 : At cX1_gives 160 (.getfield 21) 3 163 := ⟨by decide +kernel, rfl⟩
theorem aX1_gives_163 : At cX1_gives 163 (.istore_n 3) 1 164 := ⟨by decide +kernel, rfl⟩
theorem aX1_gives_164 : At cX1_gives 164 (.aload_n 0) 1 165 := ⟨by decide +kernel, rfl⟩
theorem aX1_gives_165 : At cX1_gives 165 (.getfield 27) 3 168 := ⟨by decide +kernel, rfl⟩
theorem aX1_gives_168 : At cX1_gives 168 (.istore 4) 2 170 := ⟨by decide +kernel, rfl⟩
theorem aX1_gives_170 : At cX1_gives 170 (.iload_n 3) 1 171 := ⟨by decide +kernel, rfl⟩
theorem aX1_gives_171 : At cX1_gives 171 (.bipush 12) 2 173 := ⟨by decide +kernel, rfl⟩
theorem aX1_gives_173 : Br cX1_gives 173 (.if_icmp .ge (22)) (22) 176 195 := ⟨by decide +kernel, rfl, by decide⟩
theorem aX1_gives_176 : At cX1_gives 176 (.iload_n 1) 1 177 := ⟨by decide +kernel, rfl⟩
theorem aX1_gives_177 : At cX1_gives 177 (.iload_n 3) 1 178 := ⟨by decide +kernel, rfl⟩
theorem aX1_gives_178 : At cX1_gives 178 (.invokestatic 40) 3 181 := ⟨by decide +kernel, rfl⟩
theorem aX1_gives_181 : At cX1_gives 181 (.iload 4) 2 183 := ⟨by decide +kernel, rfl⟩
theorem aX1_gives_183 : Br cX1_gives 183 (.if_icmp .ge (12)) (12) 186 195 := ⟨by decide +kernel, rfl, by decide⟩
theorem aX1_gives_186 : At cX1_gives 186 (.iinc 3 3) 3 189 := ⟨by decide +kernel, rfl⟩
theorem aX1_gives_189 : At cX1_gives 189 (.iinc 4 (-1)) 3 192 := ⟨by decide +kernel, rfl⟩
theorem aX1_gives_192 : Br cX1_gives 192 (.goto (-22)) (-22) 195 170 := ⟨by decide +kernel, rfl, by decide⟩
theorem aX1_gives_195 : At cX1_gives 195 (.iload_n 3) 1 196 := ⟨by decide +kernel, rfl⟩
theorem aX1_gives_196 : At cX1_gives 196 (.bipush 12) 2 198 := ⟨by decide +kernel, rfl⟩
theorem aX1_gives_198 : Br cX1_gives 198 (.if_icmp .ge (7)) (7) 201 205 := ⟨by decide +kernel, rfl, by decide⟩
theorem aX1_gives_201 : At cX1_gives 201 (.iload_n 3) 1 202 := ⟨by decide +kernel, rfl⟩
theorem aX1_gives_202 : Br cX1_gives 202 (.goto (4)) (4) 205 206 := ⟨by decide +kernel, rfl, by decide⟩
theorem aX1_gives_205 : At cX1_gives 205 (.iconst (-1)) 1 206 := ⟨by decide +kernel, rfl⟩
theorem aX1_gives_206 : At cX1_gives 206 (.ireturn) 1 207 := ⟨by decide +kernel, rfl⟩
theorem aX1_getsBack_0 : At cX1_getsBack 0 (.aload_n 0) 1 1 := ⟨by decide +kernel, rfl⟩
theorem aX1_getsBack_1 : At cX1_getsBack 1 (.getfield 24) 3 4 := ⟨by decide +kernel, rfl⟩
theorem aX1_getsBack_4 : Br cX1_getsBack 4 (.ifCond .lt (18)) (18) 7 22 := ⟨by decide +kernel, rfl, by decide⟩
theorem aX1_getsBack_7 : At cX1_getsBack 7 (.aload_n 0) 1 8 := ⟨by decide +kernel, rfl⟩
theorem aX1_getsBack_8 : At cX1_getsBack 8 (.iload_n 1) 1 9 := ⟨by decide +kernel, rfl⟩
theorem aX1_getsBack_9 : At cX1_getsBack 9 (.invokevirtual 44) 3 12 := ⟨by decide +kernel, rfl⟩
theorem aX1_getsBack_12 : Br cX1_getsBack 12 (.ifCond .lt (10)) (10) 15 22 := ⟨by decide +kernel, rfl, by decide⟩
theorem aX1_getsBack_15 : At cX1_getsBack 15 (.aload_n 0) 1 16 := ⟨by decide +kernel, rfl⟩
theorem aX1_getsBack_16 : At cX1_getsBack 16 (.getfield 24) 3 19 := ⟨by decide +kernel, rfl⟩
theorem aX1_getsBack_19 : Br cX1_getsBack 19 (.goto (4)) (4) 22 23 := ⟨by decide +kernel, rfl, by decide⟩
theorem aX1_getsBack_22 : At cX1_getsBack 22 (.iconst (-1)) 1 23 := ⟨by decide +kernel, rfl⟩
theorem aX1_getsBack_23 : At cX1_getsBack 23 (.ireturn) 1 24 := ⟨by decide +kernel, rfl⟩
theorem aX1_takerOf_0 : At cX1_takerOf 0 (.iload_n 2) 1 1 := ⟨by decide +kernel, rfl⟩
theorem aX1_takerOf_1 : At cX1_takerOf 1 (.aload_n 0) 1 2 := ⟨by decide +kernel, rfl⟩
theorem aX1_takerOf_2 : At cX1_takerOf 2 (.getfield 24) 3 5 := ⟨by decide +kernel, rfl⟩
theorem aX1_takerOf_5 : Br cX1_takerOf 5 (.if_icmp .ne (20)) (20) 8 25 := ⟨by decide +kernel, rfl, by decide⟩
theorem aX1_takerOf_8 : At cX1_takerOf 8 (.aload_n 0) 1 9 := ⟨by decide +kernel, rfl⟩
theorem aX1_takerOf_9 : At cX1_takerOf 9 (.iload_n 1) 1 10 := ⟨by decide +kernel, rfl⟩
theorem aX1_takerOf_10 : At cX1_takerOf 10 (.invokevirtual 44) 3 13 := ⟨by decide +kernel, rfl⟩
theorem aX1_takerOf_13 : Br cX1_takerOf 13 (.ifCond .lt (10)) (10) 16 23 := ⟨by decide +kernel, rfl, by decide⟩
theorem aX1_takerOf_16 : At cX1_takerOf 16 (.aload_n 0) 1 17 := ⟨by decide +kernel, rfl⟩
theorem aX1_takerOf_17 : At cX1_takerOf 17 (.getfield 15) 3 20 := ⟨by decide +kernel, rfl⟩
theorem aX1_takerOf_20 : Br cX1_takerOf 20 (.goto (4)) (4) 23 24 := ⟨by decide +kernel, rfl, by decide⟩
theorem aX1_takerOf_23 : At cX1_takerOf 23 (.iconst (-1)) 1 24 := ⟨by decide +kernel, rfl⟩
theorem aX1_takerOf_24 : At cX1_takerOf 24 (.ireturn) 1 25 := ⟨by decide +kernel, rfl⟩
theorem aX1_takerOf_25 : At cX1_takerOf 25 (.aload_n 0) 1 26 := ⟨by decide +kernel, rfl⟩
theorem aX1_takerOf_26 : At cX1_takerOf 26 (.iload_n 2) 1 27 := ⟨by decide +kernel, rfl⟩
theorem aX1_takerOf_27 : At cX1_takerOf 27 (.invokevirtual 48) 3 30 := ⟨by decide +kernel, rfl⟩
theorem aX1_takerOf_30 : Br cX1_takerOf 30 (.ifCond .eq (19)) (19) 33 49 := ⟨by decide +kernel, rfl, by decide⟩
theorem aX1_takerOf_33 : At cX1_takerOf 33 (.aload_n 0) 1 34 := ⟨by decide +kernel, rfl⟩
theorem aX1_takerOf_34 : At cX1_takerOf 34 (.iload_n 1) 1 35 := ⟨by decide +kernel, rfl⟩
theorem aX1_takerOf_35 : At cX1_takerOf 35 (.invokevirtual 44) 3 38 := ⟨by decide +kernel, rfl⟩
theorem aX1_takerOf_38 : At cX1_takerOf 38 (.iload_n 2) 1 39 := ⟨by decide +kernel, rfl⟩
theorem aX1_takerOf_39 : Br cX1_takerOf 39 (.if_icmp .ne (10)) (10) 42 49 := ⟨by decide +kernel, rfl, by decide⟩
theorem aX1_takerOf_42 : At cX1_takerOf 42 (.aload_n 0) 1 43 := ⟨by decide +kernel, rfl⟩
theorem aX1_takerOf_43 : At cX1_takerOf 43 (.getfield 18) 3 46 := ⟨by decide +kernel, rfl⟩
theorem aX1_takerOf_46 : Br cX1_takerOf 46 (.goto (4)) (4) 49 50 := ⟨by decide +kernel, rfl, by decide⟩
theorem aX1_takerOf_49 : At cX1_takerOf 49 (.iconst (-1)) 1 50 := ⟨by decide +kernel, rfl⟩
theorem aX1_takerOf_50 : At cX1_takerOf 50 (.ireturn) 1 51 := ⟨by decide +kernel, rfl⟩
theorem aX1_mayGive_0 : At cX1_mayGive 0 (.iload_n 1) 1 1 := ⟨by decide +kernel, rfl⟩
theorem aX1_mayGive_1 : At cX1_mayGive 1 (.aload_n 0) 1 2 := ⟨by decide +kernel, rfl⟩
theorem aX1_mayGive_2 : At cX1_mayGive 2 (.getfield 21) 3 5 := ⟨by decide +kernel, rfl⟩
theorem aX1_mayGive_5 : Br cX1_mayGive 5 (.if_icmp .eq (31)) (31) 8 36 := ⟨by decide +kernel, rfl, by decide⟩
theorem aX1_mayGive_8 : At cX1_mayGive 8 (.aload_n 0) 1 9 := ⟨by decide +kernel, rfl⟩
theorem aX1_mayGive_9 : At cX1_mayGive 9 (.getfield 9) 3 12 := ⟨by decide +kernel, rfl⟩
theorem aX1_mayGive_12 : At cX1_mayGive 12 (.iconst 3) 1 13 := ⟨by decide +kernel, rfl⟩
theorem aX1_mayGive_13 : Br cX1_mayGive 13 (.if_icmp .ne (27)) (27) 16 40 := ⟨by decide +kernel, rfl, by decide⟩
theorem aX1_mayGive_16 : At cX1_mayGive 16 (.iload_n 1) 1 17 := ⟨by decide +kernel, rfl⟩
theorem aX1_mayGive_17 : At cX1_mayGive 17 (.aload_n 0) 1 18 := ⟨by decide +kernel, rfl⟩
theorem aX1_mayGive_18 : At cX1_mayGive 18 (.getfield 21) 3 21 := ⟨by decide +kernel, rfl⟩
theorem aX1_mayGive_21 : Br cX1_mayGive 21 (.if_icmp .le (19)) (19) 24 40 := ⟨by decide +kernel, rfl, by decide⟩
theorem aX1_mayGive_24 : At cX1_mayGive 24 (.iload_n 1) 1 25 := ⟨by decide +kernel, rfl⟩
theorem aX1_mayGive_25 : At cX1_mayGive 25 (.iconst 3) 1 26 := ⟨by decide +kernel, rfl⟩
theorem aX1_mayGive_26 : At cX1_mayGive 26 (.irem) 1 27 := ⟨by decide +kernel, rfl⟩
theorem aX1_mayGive_27 : At cX1_mayGive 27 (.aload_n 0) 1 28 := ⟨by decide +kernel, rfl⟩
theorem aX1_mayGive_28 : At cX1_mayGive 28 (.getfield 21) 3 31 := ⟨by decide +kernel, rfl⟩
theorem aX1_mayGive_31 : At cX1_mayGive 31 (.iconst 3) 1 32 := ⟨by decide +kernel, rfl⟩
theorem aX1_mayGive_32 : At cX1_mayGive 32 (.irem) 1 33 := ⟨by decide +kernel, rfl⟩
theorem aX1_mayGive_33 : Br cX1_mayGive 33 (.if_icmp .ne (7)) (7) 36 40 := ⟨by decide +kernel, rfl, by decide⟩
theorem aX1_mayGive_36 : At cX1_mayGive 36 (.iconst 1) 1 37 := ⟨by decide +kernel, rfl⟩
theorem aX1_mayGive_37 : Br cX1_mayGive 37 (.goto (4)) (4) 40 41 := ⟨by decide +kernel, rfl, by decide⟩
theorem aX1_mayGive_40 : At cX1_mayGive 40 (.iconst 0) 1 41 := ⟨by decide +kernel, rfl⟩
theorem aX1_mayGive_41 : At cX1_mayGive 41 (.ireturn) 1 42 := ⟨by decide +kernel, rfl⟩
theorem aX2_init_0 : At cX2_init 0 (.aload_n 0) 1 1 := ⟨by decide +kernel, rfl⟩
theorem aX2_init_1 : At cX2_init 1 (.invokespecial 3) 3 4 := ⟨by decide +kernel, rfl⟩
theorem aX2_init_4 : At cX2_init 4 (.aload_n 0) 1 5 := ⟨by decide +kernel, rfl⟩
theorem aX2_init_5 : At cX2_init 5 (.sipush 1296) 3 8 := ⟨by decide +kernel, rfl⟩
theorem aX2_init_8 : At cX2_init 8 (.newarray .int) 2 10 := ⟨by decide +kernel, rfl⟩
theorem aX2_init_10 : At cX2_init 10 (.putfield 9) 3 13 := ⟨by decide +kernel, rfl⟩
theorem aX2_init_13 : At cX2_init 13 (.return_) 1 14 := ⟨by decide +kernel, rfl⟩
theorem aX2_at_0 : At cX2_at 0 (.aload_n 0) 1 1 := ⟨by decide +kernel, rfl⟩
theorem aX2_at_1 : At cX2_at 1 (.getfield 9) 3 4 := ⟨by decide +kernel, rfl⟩
theorem aX2_at_4 : At cX2_at 4 (.iload_n 1) 1 5 := ⟨by decide +kernel, rfl⟩
theorem aX2_at_5 : At cX2_at 5 (.iaload) 1 6 := ⟨by decide +kernel, rfl⟩
theorem aX2_at_6 : At cX2_at 6 (.iconst 2) 1 7 := ⟨by decide +kernel, rfl⟩
theorem aX2_at_7 : At cX2_at 7 (.iload_n 2) 1 8 := ⟨by decide +kernel, rfl⟩
theorem aX2_at_8 : At cX2_at 8 (.imul) 1 9 := ⟨by decide +kernel, rfl⟩
theorem aX2_at_9 : At cX2_at 9 (.ishr) 1 10 := ⟨by decide +kernel, rfl⟩
theorem aX2_at_10 : At cX2_at 10 (.iconst 3) 1 11 := ⟨by decide +kernel, rfl⟩
theorem aX2_at_11 : At cX2_at 11 (.iand) 1 12 := ⟨by decide +kernel, rfl⟩
theorem aX2_at_12 : At cX2_at 12 (.ireturn) 1 13 := ⟨by decide +kernel, rfl⟩
theorem aX2_startAll_0 : At cX2_startAll 0 (.iload_n 1) 1 1 := ⟨by decide +kernel, rfl⟩
theorem aX2_startAll_1 : At cX2_startAll 1 (.istore_n 3) 1 2 := ⟨by decide +kernel, rfl⟩
theorem aX2_startAll_2 : At cX2_startAll 2 (.iload_n 3) 1 3 := ⟨by decide +kernel, rfl⟩
theorem aX2_startAll_3 : At cX2_startAll 3 (.iload_n 2) 1 4 := ⟨by decide +kernel, rfl⟩
theorem aX2_startAll_4 : Br cX2_startAll 4 (.if_icmp .ge (17)) (17) 7 21 := ⟨by decide +kernel, rfl, by decide⟩
theorem aX2_startAll_7 : At cX2_startAll 7 (.aload_n 0) 1 8 := ⟨by decide +kernel, rfl⟩
theorem aX2_startAll_8 : At cX2_startAll 8 (.getfield 9) 3 11 := ⟨by decide +kernel, rfl⟩
theorem aX2_startAll_11 : At cX2_startAll 11 (.iload_n 3) 1 12 := ⟨by decide +kernel, rfl⟩
theorem aX2_startAll_12 : At cX2_startAll 12 (.ldc 15) 2 14 := ⟨by decide +kernel, rfl⟩
theorem aX2_startAll_14 : At cX2_startAll 14 (.iastore) 1 15 := ⟨by decide +kernel, rfl⟩
theorem aX2_startAll_15 : At cX2_startAll 15 (.iinc 3 1) 3 18 := ⟨by decide +kernel, rfl⟩
theorem aX2_startAll_18 : Br cX2_startAll 18 (.goto (-16)) (-16) 21 2 := ⟨by decide +kernel, rfl, by decide⟩
theorem aX2_startAll_21 : At cX2_startAll 21 (.return_) 1 22 := ⟨by decide +kernel, rfl⟩
theorem aX2_settle_0 : At cX2_settle 0 (.aload_n 1) 1 1 := ⟨by decide +kernel, rfl⟩
theorem aX2_settle_1 : Br cX2_settle 1 (.ifnonnull (4)) (4) 4 5 := ⟨by decide +kernel, rfl, by decide⟩
theorem aX2_settle_4 : At cX2_settle 4 (.return_) 1 5 := ⟨by decide +kernel, rfl⟩
theorem aX2_settle_5 : At cX2_settle 5 (.iload_n 2) 1 6 := ⟨by decide +kernel, rfl⟩
theorem aX2_settle_6 : At cX2_settle 6 (.istore 4) 2 8 := ⟨by decide +kernel, rfl⟩
theorem aX2_settle_8 : At cX2_settle 8 (.iload 4) 2 10 := ⟨by decide +kernel, rfl⟩
theorem aX2_settle_10 : At cX2_settle 10 (.iload_n 3) 1 11 := ⟨by decide +kernel, rfl⟩
theorem aX2_settle_11 : Br cX2_settle 11 (.if_icmp .ge (55)) (55) 14 66 := ⟨by decide +kernel, rfl, by decide⟩
theorem aX2_settle_14 : At cX2_settle 14 (.aload_n 1) 1 15 := ⟨by decide +kernel, rfl⟩
theorem aX2_settle_15 : At cX2_settle 15 (.iload 4) 2 17 := ⟨by decide +kernel, rfl⟩
theorem aX2_settle_17 : At cX2_settle 17 (.invokevirtual 16) 3 20 := ⟨by decide +kernel, rfl⟩
theorem aX2_settle_20 : At cX2_settle 20 (.istore 5) 2 22 := ⟨by decide +kernel, rfl⟩
theorem aX2_settle_22 : At cX2_settle 22 (.iload 5) 2 24 := ⟨by decide +kernel, rfl⟩
theorem aX2_settle_24 : Br cX2_settle 24 (.ifCond .lt (36)) (36) 27 60 := ⟨by decide +kernel, rfl, by decide⟩
theorem aX2_settle_27 : At cX2_settle 27 (.aload_n 0) 1 28 := ⟨by decide +kernel, rfl⟩
theorem aX2_settle_28 : At cX2_settle 28 (.iload 4) 2 30 := ⟨by decide +kernel, rfl⟩
theorem aX2_settle_30 : At cX2_settle 30 (.iload 5) 2 32 := ⟨by decide +kernel, rfl⟩
theorem aX2_settle_32 : At cX2_settle 32 (.aload_n 1) 1 33 := ⟨by decide +kernel, rfl⟩
theorem aX2_settle_33 : At cX2_settle 33 (.getfield 22) 3 36 := ⟨by decide +kernel, rfl⟩
theorem aX2_settle_36 : At cX2_settle 36 (.invokevirtual 26) 3 39 := ⟨by decide +kernel, rfl⟩
theorem aX2_settle_39 : At cX2_settle 39 (.aload_n 1) 1 40 := ⟨by decide +kernel, rfl⟩
theorem aX2_settle_40 : At cX2_settle 40 (.getfield 30) 3 43 := ⟨by decide +kernel, rfl⟩
theorem aX2_settle_43 : Br cX2_settle 43 (.ifCond .lt (17)) (17) 46 60 := ⟨by decide +kernel, rfl, by decide⟩
theorem aX2_settle_46 : At cX2_settle 46 (.aload_n 0) 1 47 := ⟨by decide +kernel, rfl⟩
theorem aX2_settle_47 : At cX2_settle 47 (.iload 4) 2 49 := ⟨by decide +kernel, rfl⟩
theorem aX2_settle_49 : At cX2_settle 49 (.aload_n 1) 1 50 := ⟨by decide +kernel, rfl⟩
theorem aX2_settle_50 : At cX2_settle 50 (.getfield 30) 3 53 := ⟨by decide +kernel, rfl⟩
theorem aX2_settle_53 : At cX2_settle 53 (.aload_n 1) 1 54 := ⟨by decide +kernel, rfl⟩
theorem aX2_settle_54 : At cX2_settle 54 (.getfield 33) 3 57 := ⟨by decide +kernel, rfl⟩
theorem aX2_settle_57 : At cX2_settle 57 (.invokevirtual 26) 3 60 := ⟨by decide +kernel, rfl⟩
theorem aX2_settle_60 : At cX2_settle 60 (.iinc 4 1) 3 63 := ⟨by decide +kernel, rfl⟩
theorem aX2_settle_63 : Br cX2_settle 63 (.goto (-55)) (-55) 66 8 := ⟨by decide +kernel, rfl, by decide⟩
theorem aX2_settle_66 : At cX2_settle 66 (.return_) 1 67 := ⟨by decide +kernel, rfl⟩
theorem aX2_give_0 : At cX2_give 0 (.aload_n 0) 1 1 := ⟨by decide +kernel, rfl⟩
theorem aX2_give_1 : At cX2_give 1 (.getfield 9) 3 4 := ⟨by decide +kernel, rfl⟩
theorem aX2_give_4 : At cX2_give 4 (.iload_n 1) 1 5 := ⟨by decide +kernel, rfl⟩
theorem aX2_give_5 : At cX2_give 5 (.aload_n 0) 1 6 := ⟨by decide +kernel, rfl⟩
theorem aX2_give_6 : At cX2_give 6 (.getfield 9) 3 9 := ⟨by decide +kernel, rfl⟩
theorem aX2_give_9 : At cX2_give 9 (.iload_n 1) 1 10 := ⟨by decide +kernel, rfl⟩
theorem aX2_give_10 : At cX2_give 10 (.iaload) 1 11 := ⟨by decide +kernel, rfl⟩
theorem aX2_give_11 : At cX2_give 11 (.iconst 3) 1 12 := ⟨by decide +kernel, rfl⟩
theorem aX2_give_12 : At cX2_give 12 (.iconst 2) 1 13 := ⟨by decide +kernel, rfl⟩
theorem aX2_give_13 : At cX2_give 13 (.iload_n 2) 1 14 := ⟨by decide +kernel, rfl⟩
theorem aX2_give_14 : At cX2_give 14 (.imul) 1 15 := ⟨by decide +kernel, rfl⟩
theorem aX2_give_15 : At cX2_give 15 (.ishl) 1 16 := ⟨by decide +kernel, rfl⟩
theorem aX2_give_16 : At cX2_give 16 (.iconst (-1)) 1 17 := ⟨by decide +kernel, rfl⟩
theorem aX2_give_17 : At cX2_give 17 (.ixor) 1 18 := ⟨by decide +kernel, rfl⟩
theorem aX2_give_18 : At cX2_give 18 (.iand) 1 19 := ⟨by decide +kernel, rfl⟩
theorem aX2_give_19 : At cX2_give 19 (.iload_n 3) 1 20 := ⟨by decide +kernel, rfl⟩
theorem aX2_give_20 : At cX2_give 20 (.iconst 2) 1 21 := ⟨by decide +kernel, rfl⟩
theorem aX2_give_21 : At cX2_give 21 (.iload_n 2) 1 22 := ⟨by decide +kernel, rfl⟩
theorem aX2_give_22 : At cX2_give 22 (.imul) 1 23 := ⟨by decide +kernel, rfl⟩
theorem aX2_give_23 : At cX2_give 23 (.ishl) 1 24 := ⟨by decide +kernel, rfl⟩
theorem aX2_give_24 : At cX2_give 24 (.ior) 1 25 := ⟨by decide +kernel, rfl⟩
theorem aX2_give_25 : At cX2_give 25 (.iastore) 1 26 := ⟨by decide +kernel, rfl⟩
theorem aX2_give_26 : At cX2_give 26 (.return_) 1 27 := ⟨by decide +kernel, rfl⟩
theorem aX3_init_0 : At cX3_init 0 (.aload_n 0) 1 1 := ⟨by decide +kernel, rfl⟩
theorem aX3_init_1 : At cX3_init 1 (.invokespecial 3) 3 4 := ⟨by decide +kernel, rfl⟩
theorem aX3_init_4 : At cX3_init 4 (.aload_n 0) 1 5 := ⟨by decide +kernel, rfl⟩
theorem aX3_init_5 : At cX3_init 5 (.new 9) 3 8 := ⟨by decide +kernel, rfl⟩
theorem aX3_init_8 : At cX3_init 8 (.dup) 1 9 := ⟨by decide +kernel, rfl⟩
theorem aX3_init_9 : At cX3_init 9 (.invokespecial 11) 3 12 := ⟨by decide +kernel, rfl⟩
theorem aX3_init_12 : At cX3_init 12 (.putfield 12) 3 15 := ⟨by decide +kernel, rfl⟩
theorem aX3_init_15 : At cX3_init 15 (.aload_n 0) 1 16 := ⟨by decide +kernel, rfl⟩
theorem aX3_init_16 : At cX3_init 16 (.bipush 12) 2 18 := ⟨by decide +kernel, rfl⟩
theorem aX3_init_18 : At cX3_init 18 (.anewarray 18) 3 21 := ⟨by decide +kernel, rfl⟩
theorem aX3_init_21 : At cX3_init 21 (.putfield 20) 3 24 := ⟨by decide +kernel, rfl⟩
theorem aX3_init_24 : At cX3_init 24 (.aload_n 0) 1 25 := ⟨by decide +kernel, rfl⟩
theorem aX3_init_25 : At cX3_init 25 (.bipush 14) 2 27 := ⟨by decide +kernel, rfl⟩
theorem aX3_init_27 : At cX3_init 27 (.anewarray 24) 3 30 := ⟨by decide +kernel, rfl⟩
theorem aX3_init_30 : At cX3_init 30 (.putfield 26) 3 33 := ⟨by decide +kernel, rfl⟩
theorem aX3_init_33 : At cX3_init 33 (.iconst 0) 1 34 := ⟨by decide +kernel, rfl⟩
theorem aX3_init_34 : At cX3_init 34 (.istore_n 1) 1 35 := ⟨by decide +kernel, rfl⟩
theorem aX3_init_35 : At cX3_init 35 (.iload_n 1) 1 36 := ⟨by decide +kernel, rfl⟩
theorem aX3_init_36 : At cX3_init 36 (.aload_n 0) 1 37 := ⟨by decide +kernel, rfl⟩
theorem aX3_init_37 : At cX3_init 37 (.getfield 26) 3 40 := ⟨by decide +kernel, rfl⟩
theorem aX3_init_40 : At cX3_init 40 (.arraylength) 1 41 := ⟨by decide +kernel, rfl⟩
theorem aX3_init_41 : Br cX3_init 41 (.if_icmp .ge (22)) (22) 44 63 := ⟨by decide +kernel, rfl, by decide⟩
theorem aX3_init_44 : At cX3_init 44 (.aload_n 0) 1 45 := ⟨by decide +kernel, rfl⟩
theorem aX3_init_45 : At cX3_init 45 (.getfield 26) 3 48 := ⟨by decide +kernel, rfl⟩
theorem aX3_init_48 : At cX3_init 48 (.iload_n 1) 1 49 := ⟨by decide +kernel, rfl⟩
theorem aX3_init_49 : At cX3_init 49 (.new 24) 3 52 := ⟨by decide +kernel, rfl⟩
theorem aX3_init_52 : At cX3_init 52 (.dup) 1 53 := ⟨by decide +kernel, rfl⟩
theorem aX3_init_53 : At cX3_init 53 (.invokespecial 30) 3 56 := ⟨by decide +kernel, rfl⟩
theorem aX3_init_56 : At cX3_init 56 (.aastore) 1 57 := ⟨by decide +kernel, rfl⟩
theorem aX3_init_57 : At cX3_init 57 (.iinc 1 1) 3 60 := ⟨by decide +kernel, rfl⟩
theorem aX3_init_60 : Br cX3_init 60 (.goto (-25)) (-25) 63 35 := ⟨by decide +kernel, rfl, by decide⟩
theorem aX3_init_63 : At cX3_init 63 (.return_) 1 64 := ⟨by decide +kernel, rfl⟩
theorem aX3_cameAt_0 : At cX3_cameAt 0 (.iload_n 1) 1 1 := ⟨by decide +kernel, rfl⟩
theorem aX3_cameAt_1 : At cX3_cameAt 1 (.aload_n 0) 1 2 := ⟨by decide +kernel, rfl⟩
theorem aX3_cameAt_2 : At cX3_cameAt 2 (.getfield 31) 3 5 := ⟨by decide +kernel, rfl⟩
theorem aX3_cameAt_5 : At cX3_cameAt 5 (.invokestatic 35) 3 8 := ⟨by decide +kernel, rfl⟩
theorem aX3_cameAt_8 : Br cX3_cameAt 8 (.ifCond .eq (7)) (7) 11 15 := ⟨by decide +kernel, rfl, by decide⟩
theorem aX3_cameAt_11 : At cX3_cameAt 11 (.aconst_null) 1 12 := ⟨by decide +kernel, rfl⟩
theorem aX3_cameAt_12 : Br cX3_cameAt 12 (.goto (9)) (9) 15 21 := ⟨by decide +kernel, rfl, by decide⟩
theorem aX3_cameAt_15 : At cX3_cameAt 15 (.aload_n 0) 1 16 := ⟨by decide +kernel, rfl⟩
theorem aX3_cameAt_16 : At cX3_cameAt 16 (.getfield 20) 3 19 := ⟨by decide +kernel, rfl⟩
theorem aX3_cameAt_19 : At cX3_cameAt 19 (.iload_n 1) 1 20 := ⟨by decide +kernel, rfl⟩
theorem aX3_cameAt_20 : At cX3_cameAt 20 (.aaload) 1 21 := ⟨by decide +kernel, rfl⟩
theorem aX3_cameAt_21 : At cX3_cameAt 21 (.areturn) 1 22 := ⟨by decide +kernel, rfl⟩
theorem aX3_readText_0 : At cX3_readText 0 (.aload_n 0) 1 1 := ⟨by decide +kernel, rfl⟩
theorem aX3_readText_1 : At cX3_readText 1 (.iconst 0) 1 2 := ⟨by decide +kernel, rfl⟩
theorem aX3_readText_2 : At cX3_readText 2 (.putfield 31) 3 5 := ⟨by decide +kernel, rfl⟩
theorem aX3_readText_5 : At cX3_readText 5 (.aload_n 0) 1 6 := ⟨by decide +kernel, rfl⟩
theorem aX3_readText_6 : At cX3_readText 6 (.getfield 12) 3 9 := ⟨by decide +kernel, rfl⟩
theorem aX3_readText_9 : At cX3_readText 9 (.invokevirtual 39) 3 12 := ⟨by decide +kernel, rfl⟩
theorem aX3_readText_12 : At cX3_readText 12 (.iconst 1) 1 13 := ⟨by decide +kernel, rfl⟩
theorem aX3_readText_13 : At cX3_readText 13 (.istore_n 2) 1 14 := ⟨by decide +kernel, rfl⟩
theorem aX3_readText_14 : At cX3_readText 14 (.iconst 0) 1 15 := ⟨by decide +kernel, rfl⟩
theorem aX3_readText_15 : At cX3_readText 15 (.istore_n 3) 1 16 := ⟨by decide +kernel, rfl⟩
theorem aX3_readText_16 : At cX3_readText 16 (.iload_n 3) 1 17 := ⟨by decide +kernel, rfl⟩
theorem aX3_readText_17 : At cX3_readText 17 (.bipush 12) 2 19 := ⟨by decide +kernel, rfl⟩
theorem aX3_readText_19 : Br cX3_readText 19 (.if_icmp .gt (41)) (41) 22 60 := ⟨by decide +kernel, rfl, by decide⟩
theorem aX3_readText_22 : At cX3_readText 22 (.iload_n 2) 1 23 := ⟨by decide +kernel, rfl⟩
theorem aX3_readText_23 : Br cX3_readText 23 (.ifCond .eq (37)) (37) 26 60 := ⟨by decide +kernel, rfl, by decide⟩
theorem aX3_readText_26 : At cX3_readText 26 (.aload_n 0) 1 27 := ⟨by decide +kernel, rfl⟩
theorem aX3_readText_27 : At cX3_readText 27 (.aload_n 1) 1 28 := ⟨by decide +kernel, rfl⟩
theorem aX3_readText_28 : At cX3_readText 28 (.invokevirtual 42) 3 31 := ⟨by decide +kernel, rfl⟩
theorem aX3_readText_31 : Br cX3_readText 31 (.ifCond .ne (13)) (13) 34 44 := ⟨by decide +kernel, rfl, by decide⟩
theorem aX3_readText_34 : At cX3_readText 34 (.iconst (-1)) 1 35 := ⟨by decide +kernel, rfl⟩
theorem aX3_readText_35 : At cX3_readText 35 (.aload_n 0) 1 36 := ⟨by decide +kernel, rfl⟩
theorem aX3_readText_36 : At cX3_readText 36 (.getfield 12) 3 39 := ⟨by decide +kernel, rfl⟩
theorem aX3_readText_39 : At cX3_readText 39 (.invokevirtual 46) 3 42 := ⟨by decide +kernel, rfl⟩
theorem aX3_readText_42 : At cX3_readText 42 (.isub) 1 43 := ⟨by decide +kernel, rfl⟩
theorem aX3_readText_43 : At cX3_readText 43 (.ireturn) 1 44 := ⟨by decide +kernel, rfl⟩
theorem aX3_readText_44 : At cX3_readText 44 (.aload_n 0) 1 45 := ⟨by decide +kernel, rfl⟩
theorem aX3_readText_45 : At cX3_readText 45 (.getfield 12) 3 48 := ⟨by decide +kernel, rfl⟩
theorem aX3_readText_48 : At cX3_readText 48 (.ldc 50) 2 50 := ⟨by decide +kernel, rfl⟩
theorem aX3_readText_50 : At cX3_readText 50 (.invokevirtual 52) 3 53 := ⟨by decide +kernel, rfl⟩
theorem aX3_readText_53 : At cX3_readText 53 (.istore_n 2) 1 54 := ⟨by decide +kernel, rfl⟩
theorem aX3_readText_54 : At cX3_readText 54 (.iinc 3 1) 3 57 := ⟨by decide +kernel, rfl⟩
theorem aX3_readText_57 : Br cX3_readText 57 (.goto (-41)) (-41) 60 16 := ⟨by decide +kernel, rfl, by decide⟩
theorem aX3_readText_60 : At cX3_readText 60 (.aload_n 0) 1 61 := ⟨by decide +kernel, rfl⟩
theorem aX3_readText_61 : At cX3_readText 61 (.getfield 12) 3 64 := ⟨by decide +kernel, rfl⟩
theorem aX3_readText_64 : At cX3_readText 64 (.invokevirtual 56) 3 67 := ⟨by decide +kernel, rfl⟩
theorem aX3_readText_67 : Br cX3_readText 67 (.ifCond .eq (10)) (10) 70 77 := ⟨by decide +kernel, rfl, by decide⟩
theorem aX3_readText_70 : At cX3_readText 70 (.aload_n 0) 1 71 := ⟨by decide +kernel, rfl⟩
theorem aX3_readText_71 : At cX3_readText 71 (.getfield 31) 3 74 := ⟨by decide +kernel, rfl⟩
theorem aX3_readText_74 : Br cX3_readText 74 (.goto (12)) (12) 77 86 := ⟨by decide +kernel, rfl, by decide⟩
theorem aX3_readText_77 : At cX3_readText 77 (.iconst (-1)) 1 78 := ⟨by decide +kernel, rfl⟩
theorem aX3_readText_78 : At cX3_readText 78 (.aload_n 0) 1 79 := ⟨by decide +kernel, rfl⟩
theorem aX3_readText_79 : At cX3_readText 79 (.getfield 12) 3 82 := ⟨by decide +kernel, rfl⟩
theorem aX3_readText_82 : At cX3_readText 82 (.invokevirtual 46) 3 85 := ⟨by decide +kernel, rfl⟩
theorem aX3_readText_85 : At cX3_readText 85 (.isub) 1 86 := ⟨by decide +kernel, rfl⟩
theorem aX3_readText_86 : At cX3_readText 86 (.ireturn) 1 87 := ⟨by decide +kernel, rfl⟩
theorem aX3_readItem_0 : At cX3_readItem 0 (.aload_n 1) 1 1 := ⟨by decide +kernel, rfl⟩
theorem aX3_readItem_1 : At cX3_readItem 1 (.getfield 60) 3 4 := ⟨by decide +kernel, rfl⟩
theorem aX3_readItem_4 : At cX3_readItem 4 (.aload_n 0) 1 5 := ⟨by decide +kernel, rfl⟩
theorem aX3_readItem_5 : At cX3_readItem 5 (.getfield 31) 3 8 := ⟨by decide +kernel, rfl⟩
theorem aX3_readItem_8 : At cX3_readItem 8 (.iadd) 1 9 := ⟨by decide +kernel, rfl⟩
theorem aX3_readItem_9 : At cX3_readItem 9 (.bipush 12) 2 11 := ⟨by decide +kernel, rfl⟩
theorem aX3_readItem_11 : Br cX3_readItem 11 (.if_icmp .ge (15)) (15) 14 26 := ⟨by decide +kernel, rfl, by decide⟩
theorem aX3_readItem_14 : At cX3_readItem 14 (.aload_n 0) 1 15 := ⟨by decide +kernel, rfl⟩
theorem aX3_readItem_15 : At cX3_readItem 15 (.getfield 12) 3 18 := ⟨by decide +kernel, rfl⟩
theorem aX3_readItem_18 : At cX3_readItem 18 (.ldc 65) 2 20 := ⟨by decide +kernel, rfl⟩
theorem aX3_readItem_20 : At cX3_readItem 20 (.invokevirtual 52) 3 23 := ⟨by decide +kernel, rfl⟩
theorem aX3_readItem_23 : Br cX3_readItem 23 (.ifCond .ne (5)) (5) 26 28 := ⟨by decide +kernel, rfl, by decide⟩
theorem aX3_readItem_26 : At cX3_readItem 26 (.iconst 0) 1 27 := ⟨by decide +kernel, rfl⟩
theorem aX3_readItem_27 : At cX3_readItem 27 (.ireturn) 1 28 := ⟨by decide +kernel, rfl⟩
theorem aX3_readItem_28 : At cX3_readItem 28 (.aload_n 0) 1 29 := ⟨by decide +kernel, rfl⟩
theorem aX3_readItem_29 : At cX3_readItem 29 (.getfield 12) 3 32 := ⟨by decide +kernel, rfl⟩
theorem aX3_readItem_32 : At cX3_readItem 32 (.iconst 0) 1 33 := ⟨by decide +kernel, rfl⟩
theorem aX3_readItem_33 : At cX3_readItem 33 (.iconst 2) 1 34 := ⟨by decide +kernel, rfl⟩
theorem aX3_readItem_34 : At cX3_readItem 34 (.iconst (-1)) 1 35 := ⟨by decide +kernel, rfl⟩
theorem aX3_readItem_35 : At cX3_readItem 35 (.invokevirtual 67) 3 38 := ⟨by decide +kernel, rfl⟩
theorem aX3_readItem_38 : At cX3_readItem 38 (.istore_n 2) 1 39 := ⟨by decide +kernel, rfl⟩
theorem aX3_readItem_39 : At cX3_readItem 39 (.iload_n 2) 1 40 := ⟨by decide +kernel, rfl⟩
theorem aX3_readItem_40 : Br cX3_readItem 40 (.ifCond .lt (15)) (15) 43 55 := ⟨by decide +kernel, rfl, by decide⟩
theorem aX3_readItem_43 : At cX3_readItem 43 (.aload_n 0) 1 44 := ⟨by decide +kernel, rfl⟩
theorem aX3_readItem_44 : At cX3_readItem 44 (.getfield 12) 3 47 := ⟨by decide +kernel, rfl⟩
theorem aX3_readItem_47 : At cX3_readItem 47 (.ldc 71) 2 49 := ⟨by decide +kernel, rfl⟩
theorem aX3_readItem_49 : At cX3_readItem 49 (.invokevirtual 52) 3 52 := ⟨by decide +kernel, rfl⟩
theorem aX3_readItem_52 : Br cX3_readItem 52 (.ifCond .ne (5)) (5) 55 57 := ⟨by decide +kernel, rfl, by decide⟩
theorem aX3_readItem_55 : At cX3_readItem 55 (.iconst 0) 1 56 := ⟨by decide +kernel, rfl⟩
theorem aX3_readItem_56 : At cX3_readItem 56 (.ireturn) 1 57 := ⟨by decide +kernel, rfl⟩
theorem aX3_readItem_57 : At cX3_readItem 57 (.aload_n 0) 1 58 := ⟨by decide +kernel, rfl⟩
theorem aX3_readItem_58 : At cX3_readItem 58 (.getfield 12) 3 61 := ⟨by decide +kernel, rfl⟩
theorem aX3_readItem_61 : At cX3_readItem 61 (.iconst 0) 1 62 := ⟨by decide +kernel, rfl⟩
theorem aX3_readItem_62 : At cX3_readItem 62 (.iconst 2) 1 63 := ⟨by decide +kernel, rfl⟩
theorem aX3_readItem_63 : At cX3_readItem 63 (.iload_n 2) 1 64 := ⟨by decide +kernel, rfl⟩
theorem aX3_readItem_64 : At cX3_readItem 64 (.invokevirtual 67) 3 67 := ⟨by decide +kernel, rfl⟩
theorem aX3_readItem_67 : At cX3_readItem 67 (.istore_n 3) 1 68 := ⟨by decide +kernel, rfl⟩
theorem aX3_readItem_68 : At cX3_readItem 68 (.iload_n 3) 1 69 := ⟨by decide +kernel, rfl⟩
theorem aX3_readItem_69 : Br cX3_readItem 69 (.ifCond .lt (15)) (15) 72 84 := ⟨by decide +kernel, rfl, by decide⟩
theorem aX3_readItem_72 : At cX3_readItem 72 (.aload_n 0) 1 73 := ⟨by decide +kernel, rfl⟩
theorem aX3_readItem_73 : At cX3_readItem 73 (.getfield 12) 3 76 := ⟨by decide +kernel, rfl⟩
theorem aX3_readItem_76 : At cX3_readItem 76 (.ldc 73) 2 78 := ⟨by decide +kernel, rfl⟩
theorem aX3_readItem_78 : At cX3_readItem 78 (.invokevirtual 52) 3 81 := ⟨by decide +kernel, rfl⟩
theorem aX3_readItem_81 : Br cX3_readItem 81 (.ifCond .ne (5)) (5) 84 86 := ⟨by decide +kernel, rfl, by decide⟩
theorem aX3_readItem_84 : At cX3_readItem 84 (.iconst 0) 1 85 := ⟨by decide +kernel, rfl⟩
theorem aX3_readItem_85 : At cX3_readItem 85 (.ireturn) 1 86 := ⟨by decide +kernel, rfl⟩
theorem aX3_readItem_86 : At cX3_readItem 86 (.aload_n 0) 1 87 := ⟨by decide +kernel, rfl⟩
theorem aX3_readItem_87 : At cX3_readItem 87 (.getfield 12) 3 90 := ⟨by decide +kernel, rfl⟩
theorem aX3_readItem_90 : At cX3_readItem 90 (.aload_n 1) 1 91 := ⟨by decide +kernel, rfl⟩
theorem aX3_readItem_91 : At cX3_readItem 91 (.getfield 75) 3 94 := ⟨by decide +kernel, rfl⟩
theorem aX3_readItem_94 : At cX3_readItem 94 (.iconst 3) 1 95 := ⟨by decide +kernel, rfl⟩
theorem aX3_readItem_95 : At cX3_readItem 95 (.imul) 1 96 := ⟨by decide +kernel, rfl⟩
theorem aX3_readItem_96 : At cX3_readItem 96 (.bipush 11) 2 98 := ⟨by decide +kernel, rfl⟩
theorem aX3_readItem_98 : At cX3_readItem 98 (.iconst (-1)) 1 99 := ⟨by decide +kernel, rfl⟩
theorem aX3_readItem_99 : At cX3_readItem 99 (.invokevirtual 67) 3 102 := ⟨by decide +kernel, rfl⟩
theorem aX3_readItem_102 : At cX3_readItem 102 (.istore 4) 2 104 := ⟨by decide +kernel, rfl⟩
theorem aX3_readItem_104 : At cX3_readItem 104 (.iload 4) 2 106 := ⟨by decide +kernel, rfl⟩
theorem aX3_readItem_106 : Br cX3_readItem 106 (.ifCond .ge (5)) (5) 109 111 := ⟨by decide +kernel, rfl, by decide⟩
theorem aX3_readItem_109 : At cX3_readItem 109 (.iconst 0) 1 110 := ⟨by decide +kernel, rfl⟩
theorem aX3_readItem_110 : At cX3_readItem 110 (.ireturn) 1 111 := ⟨by decide +kernel, rfl⟩
theorem aX3_readItem_111 : At cX3_readItem 111 (.aload_n 0) 1 112 := ⟨by decide +kernel, rfl⟩
theorem aX3_readItem_112 : At cX3_readItem 112 (.invokevirtual 78) 3 115 := ⟨by decide +kernel, rfl⟩
theorem aX3_readItem_115 : At cX3_readItem 115 (.istore 5) 2 117 := ⟨by decide +kernel, rfl⟩
theorem aX3_readItem_117 : At cX3_readItem 117 (.iload 5) 2 119 := ⟨by decide +kernel, rfl⟩
theorem aX3_readItem_119 : At cX3_readItem 119 (.iconst 2) 1 120 := ⟨by decide +kernel, rfl⟩
theorem aX3_readItem_120 : Br cX3_readItem 120 (.if_icmp .eq (9)) (9) 123 129 := ⟨by decide +kernel, rfl, by decide⟩
theorem aX3_readItem_123 : At cX3_readItem 123 (.iload 5) 2 125 := ⟨by decide +kernel, rfl⟩
theorem aX3_readItem_125 : At cX3_readItem 125 (.iconst 5) 1 126 := ⟨by decide +kernel, rfl⟩
theorem aX3_readItem_126 : Br cX3_readItem 126 (.if_icmp .ne (7)) (7) 129 133 := ⟨by decide +kernel, rfl, by decide⟩
theorem aX3_readItem_129 : At cX3_readItem 129 (.iconst 1) 1 130 := ⟨by decide +kernel, rfl⟩
theorem aX3_readItem_130 : Br cX3_readItem 130 (.goto (4)) (4) 133 134 := ⟨by decide +kernel, rfl, by decide⟩
theorem aX3_readItem_133 : At cX3_readItem 133 (.iconst 0) 1 134 := ⟨by decide +kernel, rfl⟩
theorem aX3_readItem_134 : At cX3_readItem 134 (.istore 6) 2 136 := ⟨by decide +kernel, rfl⟩
theorem aX3_readItem_136 : At cX3_readItem 136 (.iload 4) 2 138 := ⟨by decide +kernel, rfl⟩
theorem aX3_readItem_138 : At cX3_readItem 138 (.iconst 3) 1 139 := ⟨by decide +kernel, rfl⟩
theorem aX3_readItem_139 : At cX3_readItem 139 (.idiv) 1 140 := ⟨by decide +kernel, rfl⟩
theorem aX3_readItem_140 : At cX3_readItem 140 (.iconst 3) 1 141 := ⟨by decide +kernel, rfl⟩
theorem aX3_readItem_141 : At cX3_readItem 141 (.imul) 1 142 := ⟨by decide +kernel, rfl⟩
theorem aX3_readItem_142 : At cX3_readItem 142 (.istore 7) 2 144 := ⟨by decide +kernel, rfl⟩
theorem aX3_readItem_144 : At cX3_readItem 144 (.iload 6) 2 146 := ⟨by decide +kernel, rfl⟩
theorem aX3_readItem_146 : Br cX3_readItem 146 (.ifCond .eq (23)) (23) 149 169 := ⟨by decide +kernel, rfl, by decide⟩
theorem aX3_readItem_149 : At cX3_readItem 149 (.aload_n 0) 1 150 := ⟨by decide +kernel, rfl⟩
theorem aX3_readItem_150 : At cX3_readItem 150 (.getfield 12) 3 153 := ⟨by decide +kernel, rfl⟩
theorem aX3_readItem_153 : At cX3_readItem 153 (.iload 7) 2 155 := ⟨by decide +kernel, rfl⟩
theorem aX3_readItem_155 : At cX3_readItem 155 (.iload 7) 2 157 := ⟨by decide +kernel, rfl⟩
theorem aX3_readItem_157 : At cX3_readItem 157 (.iconst 3) 1 158 := ⟨by decide +kernel, rfl⟩
theorem aX3_readItem_158 : At cX3_readItem 158 (.iadd) 1 159 := ⟨by decide +kernel, rfl⟩
theorem aX3_readItem_159 : At cX3_readItem 159 (.iconst 1) 1 160 := ⟨by decide +kernel, rfl⟩
theorem aX3_readItem_160 : At cX3_readItem 160 (.isub) 1 161 := ⟨by decide +kernel, rfl⟩
theorem aX3_readItem_161 : At cX3_readItem 161 (.iload 4) 2 163 := ⟨by decide +kernel, rfl⟩
theorem aX3_readItem_163 : At cX3_readItem 163 (.invokevirtual 67) 3 166 := ⟨by decide +kernel, rfl⟩
theorem aX3_readItem_166 : Br cX3_readItem 166 (.goto (4)) (4) 169 170 := ⟨by decide +kernel, rfl, by decide⟩
theorem aX3_readItem_169 : At cX3_readItem 169 (.iconst (-1)) 1 170 := ⟨by decide +kernel, rfl⟩
theorem aX3_readItem_170 : At cX3_readItem 170 (.istore 8) 2 172 := ⟨by decide +kernel, rfl⟩
theorem aX3_readItem_172 : At cX3_readItem 172 (.iload 6) 2 174 := ⟨by decide +kernel, rfl⟩
theorem aX3_readItem_174 : Br cX3_readItem 174 (.ifCond .eq (10)) (10) 177 184 := ⟨by decide +kernel, rfl, by decide⟩
theorem aX3_readItem_177 : At cX3_readItem 177 (.iload 8) 2 179 := ⟨by decide +kernel, rfl⟩
theorem aX3_readItem_179 : Br cX3_readItem 179 (.ifCond .ge (5)) (5) 182 184 := ⟨by decide +kernel, rfl, by decide⟩
theorem aX3_readItem_182 : At cX3_readItem 182 (.iconst 0) 1 183 := ⟨by decide +kernel, rfl⟩
theorem aX3_readItem_183 : At cX3_readItem 183 (.ireturn) 1 184 := ⟨by decide +kernel, rfl⟩
theorem aX3_readItem_184 : At cX3_readItem 184 (.iload 5) 2 186 := ⟨by decide +kernel, rfl⟩
theorem aX3_readItem_186 : Br cX3_readItem 186 (.ifCond .eq (9)) (9) 189 195 := ⟨by decide +kernel, rfl, by decide⟩
theorem aX3_readItem_189 : At cX3_readItem 189 (.iload 5) 2 191 := ⟨by decide +kernel, rfl⟩
theorem aX3_readItem_191 : At cX3_readItem 191 (.iconst 2) 1 192 := ⟨by decide +kernel, rfl⟩
theorem aX3_readItem_192 : Br cX3_readItem 192 (.if_icmp .ne (7)) (7) 195 199 := ⟨by decide +kernel, rfl, by decide⟩
theorem aX3_readItem_195 : At cX3_readItem 195 (.iconst 0) 1 196 := ⟨by decide +kernel, rfl⟩
theorem aX3_readItem_196 : Br cX3_readItem 196 (.goto (13)) (13) 199 209 := ⟨by decide +kernel, rfl, by decide⟩
theorem aX3_readItem_199 : At cX3_readItem 199 (.aload_n 0) 1 200 := ⟨by decide +kernel, rfl⟩
theorem aX3_readItem_200 : At cX3_readItem 200 (.getfield 12) 3 203 := ⟨by decide +kernel, rfl⟩
theorem aX3_readItem_203 : At cX3_readItem 203 (.iconst 1) 1 204 := ⟨by decide +kernel, rfl⟩
theorem aX3_readItem_204 : At cX3_readItem 204 (.iconst 2) 1 205 := ⟨by decide +kernel, rfl⟩
theorem aX3_readItem_205 : At cX3_readItem 205 (.iconst (-1)) 1 206 := ⟨by decide +kernel, rfl⟩
theorem aX3_readItem_206 : At cX3_readItem 206 (.invokevirtual 67) 3 209 := ⟨by decide +kernel, rfl⟩
theorem aX3_readItem_209 : At cX3_readItem 209 (.istore 9) 2 211 := ⟨by decide +kernel, rfl⟩
theorem aX3_readItem_211 : At cX3_readItem 211 (.iload 9) 2 213 := ⟨by decide +kernel, rfl⟩
theorem aX3_readItem_213 : Br cX3_readItem 213 (.ifCond .ge (5)) (5) 216 218 := ⟨by decide +kernel, rfl, by decide⟩
theorem aX3_readItem_216 : At cX3_readItem 216 (.iconst 0) 1 217 := ⟨by decide +kernel, rfl⟩
theorem aX3_readItem_217 : At cX3_readItem 217 (.ireturn) 1 218 := ⟨by decide +kernel, rfl⟩
theorem aX3_readItem_218 : At cX3_readItem 218 (.aload_n 0) 1 219 := ⟨by decide +kernel, rfl⟩
theorem aX3_readItem_219 : At cX3_readItem 219 (.getfield 12) 3 222 := ⟨by decide +kernel, rfl⟩
theorem aX3_readItem_222 : At cX3_readItem 222 (.ldc 81) 2 224 := ⟨by decide +kernel, rfl⟩
theorem aX3_readItem_224 : At cX3_readItem 224 (.invokevirtual 52) 3 227 := ⟨by decide +kernel, rfl⟩
theorem aX3_readItem_227 : Br cX3_readItem 227 (.ifCond .eq (13)) (13) 230 240 := ⟨by decide +kernel, rfl, by decide⟩
theorem aX3_readItem_230 : At cX3_readItem 230 (.new 24) 3 233 := ⟨by decide +kernel, rfl⟩
theorem aX3_readItem_233 : At cX3_readItem 233 (.dup) 1 234 := ⟨by decide +kernel, rfl⟩
theorem aX3_readItem_234 : At cX3_readItem 234 (.invokespecial 30) 3 237 := ⟨by decide +kernel, rfl⟩
theorem aX3_readItem_237 : Br cX3_readItem 237 (.goto (4)) (4) 240 241 := ⟨by decide +kernel, rfl, by decide⟩
theorem aX3_readItem_240 : At cX3_readItem 240 (.aconst_null) 1 241 := ⟨by decide +kernel, rfl⟩
theorem aX3_readItem_241 : At cX3_readItem 241 (.astore 10) 2 243 := ⟨by decide +kernel, rfl⟩
theorem aX3_readItem_243 : At cX3_readItem 243 (.aload 10) 2 245 := ⟨by decide +kernel, rfl⟩
theorem aX3_readItem_245 : Br cX3_readItem 245 (.ifnull (16)) (16) 248 261 := ⟨by decide +kernel, rfl, by decide⟩
theorem aX3_readItem_248 : At cX3_readItem 248 (.aload_n 0) 1 249 := ⟨by decide +kernel, rfl⟩
theorem aX3_readItem_249 : At cX3_readItem 249 (.aload_n 1) 1 250 := ⟨by decide +kernel, rfl⟩
theorem aX3_readItem_250 : At cX3_readItem 250 (.aload 10) 2 252 := ⟨by decide +kernel, rfl⟩
theorem aX3_readItem_252 : At cX3_readItem 252 (.iconst 0) 1 253 := ⟨by decide +kernel, rfl⟩
theorem aX3_readItem_253 : At cX3_readItem 253 (.invokevirtual 83) 3 256 := ⟨by decide +kernel, rfl⟩
theorem aX3_readItem_256 : Br cX3_readItem 256 (.ifCond .ne (5)) (5) 259 261 := ⟨by decide +kernel, rfl, by decide⟩
theorem aX3_readItem_259 : At cX3_readItem 259 (.iconst 0) 1 260 := ⟨by decide +kernel, rfl⟩
theorem aX3_readItem_260 : At cX3_readItem 260 (.ireturn) 1 261 := ⟨by decide +kernel, rfl⟩
theorem aX3_readItem_261 : At cX3_readItem 261 (.aload_n 0) 1 262 := ⟨by decide +kernel, rfl⟩
theorem aX3_readItem_262 : At cX3_readItem 262 (.getfield 20) 3 265 := ⟨by decide +kernel, rfl⟩
theorem aX3_readItem_265 : At cX3_readItem 265 (.aload_n 0) 1 266 := ⟨by decide +kernel, rfl⟩
theorem aX3_readItem_266 : At cX3_readItem 266 (.getfield 31) 3 269 := ⟨by decide +kernel, rfl⟩
theorem aX3_readItem_269 : At cX3_readItem 269 (.new 18) 3 272 := ⟨by decide +kernel, rfl⟩
theorem aX3_readItem_272 : At cX3_readItem 272 (.dup) 1 273 := ⟨by decide +kernel, rfl⟩
theorem aX3_readItem_273 : At cX3_readItem 273 (.iload 5) 2 275 := ⟨by decide +kernel, rfl⟩
theorem aX3_readItem_275 : At cX3_readItem 275 (.iload_n 2) 1 276 := ⟨by decide +kernel, rfl⟩
theorem aX3_readItem_276 : At cX3_readItem 276 (.iload_n 3) 1 277 := ⟨by decide +kernel, rfl⟩
theorem aX3_readItem_277 : At cX3_readItem 277 (.iload 4) 2 279 := ⟨by decide +kernel, rfl⟩
theorem aX3_readItem_279 : At cX3_readItem 279 (.iload 8) 2 281 := ⟨by decide +kernel, rfl⟩
theorem aX3_readItem_281 : At cX3_readItem 281 (.iload 9) 2 283 := ⟨by decide +kernel, rfl⟩
theorem aX3_readItem_283 : At cX3_readItem 283 (.aload 10) 2 285 := ⟨by decide +kernel, rfl⟩
theorem aX3_readItem_285 : At cX3_readItem 285 (.invokespecial 87) 3 288 := ⟨by decide +kernel, rfl⟩
theorem aX3_readItem_288 : At cX3_readItem 288 (.aastore) 1 289 := ⟨by decide +kernel, rfl⟩
theorem aX3_readItem_289 : At cX3_readItem 289 (.aload_n 0) 1 290 := ⟨by decide +kernel, rfl⟩
theorem aX3_readItem_290 : At cX3_readItem 290 (.dup) 1 291 := ⟨by decide +kernel, rfl⟩
theorem aX3_readItem_291 : At cX3_readItem 291 (.getfield 31) 3 294 := ⟨by decide +kernel, rfl⟩
theorem aX3_readItem_294 : At cX3_readItem 294 (.iconst 1) 1 295 := ⟨by decide +kernel, rfl⟩
theorem aX3_readItem_295 : At cX3_readItem 295 (.iadd) 1 296 := ⟨by decide +kernel, rfl⟩
theorem aX3_readItem_296 : At cX3_readItem 296 (.putfield 31) 3 299 := ⟨by decide +kernel, rfl⟩
theorem aX3_readItem_299 : At cX3_readItem 299 (.iconst 1) 1 300 := ⟨by decide +kernel, rfl⟩
theorem aX3_readItem_300 : At cX3_readItem 300 (.ireturn) 1 301 := ⟨by decide +kernel, rfl⟩
theorem aX3_readKind_0 : At cX3_readKind 0 (.aload_n 0) 1 1 := ⟨by decide +kernel, rfl⟩
theorem aX3_readKind_1 : At cX3_readKind 1 (.getfield 12) 3 4 := ⟨by decide +kernel, rfl⟩
theorem aX3_readKind_4 : At cX3_readKind 4 (.ldc 90) 2 6 := ⟨by decide +kernel, rfl⟩
theorem aX3_readKind_6 : At cX3_readKind 6 (.invokevirtual 52) 3 9 := ⟨by decide +kernel, rfl⟩
theorem aX3_readKind_9 : Br cX3_readKind 9 (.ifCond .eq (5)) (5) 12 14 := ⟨by decide +kernel, rfl, by decide⟩
theorem aX3_readKind_12 : At cX3_readKind 12 (.iconst 1) 1 13 := ⟨by decide +kernel, rfl⟩
theorem aX3_readKind_13 : At cX3_readKind 13 (.ireturn) 1 14 := ⟨by decide +kernel, rfl⟩
theorem aX3_readKind_14 : At cX3_readKind 14 (.aload_n 0) 1 15 := ⟨by decide +kernel, rfl⟩
theorem aX3_readKind_15 : At cX3_readKind 15 (.getfield 12) 3 18 := ⟨by decide +kernel, rfl⟩
theorem aX3_readKind_18 : At cX3_readKind 18 (.ldc 92) 2 20 := ⟨by decide +kernel, rfl⟩
theorem aX3_readKind_20 : At cX3_readKind 20 (.invokevirtual 52) 3 23 := ⟨by decide +kernel, rfl⟩
theorem aX3_readKind_23 : Br cX3_readKind 23 (.ifCond .eq (5)) (5) 26 28 := ⟨by decide +kernel, rfl, by decide⟩
theorem aX3_readKind_26 : At cX3_readKind 26 (.iconst 4) 1 27 := ⟨by decide +kernel, rfl⟩
theorem aX3_readKind_27 : At cX3_readKind 27 (.ireturn) 1 28 := ⟨by decide +kernel, rfl⟩
theorem aX3_readKind_28 : At cX3_readKind 28 (.aload_n 0) 1 29 := ⟨by decide +kernel, rfl⟩
theorem aX3_readKind_29 : At cX3_readKind 29 (.getfield 12) 3 32 := ⟨by decide +kernel, rfl⟩
theorem aX3_readKind_32 : At cX3_readKind 32 (.ldc 94) 2 34 := ⟨by decide +kernel, rfl⟩
theorem aX3_readKind_34 : At cX3_readKind 34 (.invokevirtual 52) 3 37 := ⟨by decide +kernel, rfl⟩
theorem aX3_readKind_37 : Br cX3_readKind 37 (.ifCond .eq (5)) (5) 40 42 := ⟨by decide +kernel, rfl, by decide⟩
theorem aX3_readKind_40 : At cX3_readKind 40 (.iconst 3) 1 41 := ⟨by decide +kernel, rfl⟩
theorem aX3_readKind_41 : At cX3_readKind 41 (.ireturn) 1 42 := ⟨by decide +kernel, rfl⟩
theorem aX3_readKind_42 : At cX3_readKind 42 (.aload_n 0) 1 43 := ⟨by decide +kernel, rfl⟩
theorem aX3_readKind_43 : At cX3_readKind 43 (.getfield 12) 3 46 := ⟨by decide +kernel, rfl⟩
theorem aX3_readKind_46 : At cX3_readKind 46 (.ldc 96) 2 48 := ⟨by decide +kernel, rfl⟩
theorem aX3_readKind_48 : At cX3_readKind 48 (.invokevirtual 52) 3 51 := ⟨by decide +kernel, rfl⟩
theorem aX3_readKind_51 : Br cX3_readKind 51 (.ifCond .eq (5)) (5) 54 56 := ⟨by decide +kernel, rfl, by decide⟩
theorem aX3_readKind_54 : At cX3_readKind 54 (.iconst 2) 1 55 := ⟨by decide +kernel, rfl⟩
theorem aX3_readKind_55 : At cX3_readKind 55 (.ireturn) 1 56 := ⟨by decide +kernel, rfl⟩
theorem aX3_readKind_56 : At cX3_readKind 56 (.aload_n 0) 1 57 := ⟨by decide +kernel, rfl⟩
theorem aX3_readKind_57 : At cX3_readKind 57 (.getfield 12) 3 60 := ⟨by decide +kernel, rfl⟩
theorem aX3_readKind_60 : At cX3_readKind 60 (.ldc 98) 2 62 := ⟨by decide +kernel, rfl⟩
theorem aX3_readKind_62 : At cX3_readKind 62 (.invokevirtual 52) 3 65 := ⟨by decide +kernel, rfl⟩
theorem aX3_readKind_65 : Br cX3_readKind 65 (.ifCond .eq (7)) (7) 68 72 := ⟨by decide +kernel, rfl, by decide⟩
theorem aX3_readKind_68 : At cX3_readKind 68 (.iconst 5) 1 69 := ⟨by decide +kernel, rfl⟩
theorem aX3_readKind_69 : Br cX3_readKind 69 (.goto (4)) (4) 72 73 := ⟨by decide +kernel, rfl, by decide⟩
theorem aX3_readKind_72 : At cX3_readKind 72 (.iconst 0) 1 73 := ⟨by decide +kernel, rfl⟩
theorem aX3_readKind_73 : At cX3_readKind 73 (.ireturn) 1 74 := ⟨by decide +kernel, rfl⟩
theorem aX3_readAny_0 : At cX3_readAny 0 (.iload_n 3) 1 1 := ⟨by decide +kernel, rfl⟩
theorem aX3_readAny_1 : At cX3_readAny 1 (.bipush 6) 2 3 := ⟨by decide +kernel, rfl⟩
theorem aX3_readAny_3 : Br cX3_readAny 3 (.if_icmp .le (5)) (5) 6 8 := ⟨by decide +kernel, rfl, by decide⟩
theorem aX3_readAny_6 : At cX3_readAny 6 (.iconst 0) 1 7 := ⟨by decide +kernel, rfl⟩
theorem aX3_readAny_7 : At cX3_readAny 7 (.ireturn) 1 8 := ⟨by decide +kernel, rfl⟩
theorem aX3_readAny_8 : At cX3_readAny 8 (.aload_n 0) 1 9 := ⟨by decide +kernel, rfl⟩
theorem aX3_readAny_9 : At cX3_readAny 9 (.getfield 26) 3 12 := ⟨by decide +kernel, rfl⟩
theorem aX3_readAny_12 : At cX3_readAny 12 (.iconst 2) 1 13 := ⟨by decide +kernel, rfl⟩
theorem aX3_readAny_13 : At cX3_readAny 13 (.iload_n 3) 1 14 := ⟨by decide +kernel, rfl⟩
theorem aX3_readAny_14 : At cX3_readAny 14 (.imul) 1 15 := ⟨by decide +kernel, rfl⟩
theorem aX3_readAny_15 : At cX3_readAny 15 (.aaload) 1 16 := ⟨by decide +kernel, rfl⟩
theorem aX3_readAny_16 : At cX3_readAny 16 (.astore 4) 2 18 := ⟨by decide +kernel, rfl⟩
theorem aX3_readAny_18 : At cX3_readAny 18 (.aload_n 0) 1 19 := ⟨by decide +kernel, rfl⟩
theorem aX3_readAny_19 : At cX3_readAny 19 (.getfield 26) 3 22 := ⟨by decide +kernel, rfl⟩
theorem aX3_readAny_22 : At cX3_readAny 22 (.iconst 2) 1 23 := ⟨by decide +kernel, rfl⟩
theorem aX3_readAny_23 : At cX3_readAny 23 (.iload_n 3) 1 24 := ⟨by decide +kernel, rfl⟩
theorem aX3_readAny_24 : At cX3_readAny 24 (.imul) 1 25 := ⟨by decide +kernel, rfl⟩
theorem aX3_readAny_25 : At cX3_readAny 25 (.iconst 1) 1 26 := ⟨by decide +kernel, rfl⟩
theorem aX3_readAny_26 : At cX3_readAny 26 (.iadd) 1 27 := ⟨by decide +kernel, rfl⟩
theorem aX3_readAny_27 : At cX3_readAny 27 (.aaload) 1 28 := ⟨by decide +kernel, rfl⟩
theorem aX3_readAny_28 : At cX3_readAny 28 (.astore 5) 2 30 := ⟨by decide +kernel, rfl⟩
theorem aX3_readAny_30 : At cX3_readAny 30 (.aload_n 2) 1 31 := ⟨by decide +kernel, rfl⟩
theorem aX3_readAny_31 : At cX3_readAny 31 (.invokevirtual 100) 3 34 := ⟨by decide +kernel, rfl⟩
theorem aX3_readAny_34 : At cX3_readAny 34 (.iconst 1) 1 35 := ⟨by decide +kernel, rfl⟩
theorem aX3_readAny_35 : At cX3_readAny 35 (.istore 6) 2 37 := ⟨by decide +kernel, rfl⟩
theorem aX3_readAny_37 : At cX3_readAny 37 (.iconst 0) 1 38 := ⟨by decide +kernel, rfl⟩
theorem aX3_readAny_38 : At cX3_readAny 38 (.istore 7) 2 40 := ⟨by decide +kernel, rfl⟩
theorem aX3_readAny_40 : At cX3_readAny 40 (.iload 7) 2 42 := ⟨by decide +kernel, rfl⟩
theorem aX3_readAny_42 : At cX3_readAny 42 (.bipush 120) 2 44 := ⟨by decide +kernel, rfl⟩
theorem aX3_readAny_44 : Br cX3_readAny 44 (.if_icmp .ge (92)) (92) 47 136 := ⟨by decide +kernel, rfl, by decide⟩
theorem aX3_readAny_47 : At cX3_readAny 47 (.iload 6) 2 49 := ⟨by decide +kernel, rfl⟩
theorem aX3_readAny_49 : Br cX3_readAny 49 (.ifCond .eq (87)) (87) 52 136 := ⟨by decide +kernel, rfl, by decide⟩
theorem aX3_readAny_52 : At cX3_readAny 52 (.aload_n 0) 1 53 := ⟨by decide +kernel, rfl⟩
theorem aX3_readAny_53 : At cX3_readAny 53 (.aload_n 1) 1 54 := ⟨by decide +kernel, rfl⟩
theorem aX3_readAny_54 : At cX3_readAny 54 (.aload 4) 2 56 := ⟨by decide +kernel, rfl⟩
theorem aX3_readAny_56 : At cX3_readAny 56 (.iload_n 3) 1 57 := ⟨by decide +kernel, rfl⟩
theorem aX3_readAny_57 : At cX3_readAny 57 (.invokevirtual 103) 3 60 := ⟨by decide +kernel, rfl⟩
theorem aX3_readAny_60 : Br cX3_readAny 60 (.ifCond .ne (5)) (5) 63 65 := ⟨by decide +kernel, rfl, by decide⟩
theorem aX3_readAny_63 : At cX3_readAny 63 (.iconst 0) 1 64 := ⟨by decide +kernel, rfl⟩
theorem aX3_readAny_64 : At cX3_readAny 64 (.ireturn) 1 65 := ⟨by decide +kernel, rfl⟩
theorem aX3_readAny_65 : At cX3_readAny 65 (.iconst 0) 1 66 := ⟨by decide +kernel, rfl⟩
theorem aX3_readAny_66 : At cX3_readAny 66 (.istore 8) 2 68 := ⟨by decide +kernel, rfl⟩
theorem aX3_readAny_68 : At cX3_readAny 68 (.iload 8) 2 70 := ⟨by decide +kernel, rfl⟩
theorem aX3_readAny_70 : At cX3_readAny 70 (.bipush 120) 2 72 := ⟨by decide +kernel, rfl⟩
theorem aX3_readAny_72 : Br cX3_readAny 72 (.if_icmp .ge (41)) (41) 75 113 := ⟨by decide +kernel, rfl, by decide⟩
theorem aX3_readAny_75 : At cX3_readAny 75 (.aload_n 0) 1 76 := ⟨by decide +kernel, rfl⟩
theorem aX3_readAny_76 : At cX3_readAny 76 (.getfield 12) 3 79 := ⟨by decide +kernel, rfl⟩
theorem aX3_readAny_79 : At cX3_readAny 79 (.ldc 106) 2 81 := ⟨by decide +kernel, rfl⟩
theorem aX3_readAny_81 : At cX3_readAny 81 (.invokevirtual 52) 3 84 := ⟨by decide +kernel, rfl⟩
theorem aX3_readAny_84 : Br cX3_readAny 84 (.ifCond .eq (29)) (29) 87 113 := ⟨by decide +kernel, rfl, by decide⟩
theorem aX3_readAny_87 : At cX3_readAny 87 (.aload_n 0) 1 88 := ⟨by decide +kernel, rfl⟩
theorem aX3_readAny_88 : At cX3_readAny 88 (.aload_n 1) 1 89 := ⟨by decide +kernel, rfl⟩
theorem aX3_readAny_89 : At cX3_readAny 89 (.aload 5) 2 91 := ⟨by decide +kernel, rfl⟩
theorem aX3_readAny_91 : At cX3_readAny 91 (.iload_n 3) 1 92 := ⟨by decide +kernel, rfl⟩
theorem aX3_readAny_92 : At cX3_readAny 92 (.invokevirtual 103) 3 95 := ⟨by decide +kernel, rfl⟩
theorem aX3_readAny_95 : Br cX3_readAny 95 (.ifCond .ne (5)) (5) 98 100 := ⟨by decide +kernel, rfl, by decide⟩
theorem aX3_readAny_98 : At cX3_readAny 98 (.iconst 0) 1 99 := ⟨by decide +kernel, rfl⟩
theorem aX3_readAny_99 : At cX3_readAny 99 (.ireturn) 1 100 := ⟨by decide +kernel, rfl⟩
theorem aX3_readAny_100 : At cX3_readAny 100 (.aload 4) 2 102 := ⟨by decide +kernel, rfl⟩
theorem aX3_readAny_102 : At cX3_readAny 102 (.aload 5) 2 104 := ⟨by decide +kernel, rfl⟩
theorem aX3_readAny_104 : At cX3_readAny 104 (.invokevirtual 108) 3 107 := ⟨by decide +kernel, rfl⟩
theorem aX3_readAny_107 : At cX3_readAny 107 (.iinc 8 1) 3 110 := ⟨by decide +kernel, rfl⟩
theorem aX3_readAny_110 : Br cX3_readAny 110 (.goto (-42)) (-42) 113 68 := ⟨by decide +kernel, rfl, by decide⟩
theorem aX3_readAny_113 : At cX3_readAny 113 (.aload_n 2) 1 114 := ⟨by decide +kernel, rfl⟩
theorem aX3_readAny_114 : At cX3_readAny 114 (.aload 4) 2 116 := ⟨by decide +kernel, rfl⟩
theorem aX3_readAny_116 : At cX3_readAny 116 (.invokevirtual 112) 3 119 := ⟨by decide +kernel, rfl⟩
theorem aX3_readAny_119 : At cX3_readAny 119 (.aload_n 0) 1 120 := ⟨by decide +kernel, rfl⟩
theorem aX3_readAny_120 : At cX3_readAny 120 (.getfield 12) 3 123 := ⟨by decide +kernel, rfl⟩
theorem aX3_readAny_123 : At cX3_readAny 123 (.ldc 115) 2 125 := ⟨by decide +kernel, rfl⟩
theorem aX3_readAny_125 : At cX3_readAny 125 (.invokevirtual 52) 3 128 := ⟨by decide +kernel, rfl⟩
theorem aX3_readAny_128 : At cX3_readAny 128 (.istore 6) 2 130 := ⟨by decide +kernel, rfl⟩
theorem aX3_readAny_130 : At cX3_readAny 130 (.iinc 7 1) 3 133 := ⟨by decide +kernel, rfl⟩
theorem aX3_readAny_133 : Br cX3_readAny 133 (.goto (-93)) (-93) 136 40 := ⟨by decide +kernel, rfl, by decide⟩
theorem aX3_readAny_136 : At cX3_readAny 136 (.iconst 1) 1 137 := ⟨by decide +kernel, rfl⟩
theorem aX3_readAny_137 : At cX3_readAny 137 (.ireturn) 1 138 := ⟨by decide +kernel, rfl⟩
theorem aX3_readOne_0 : At cX3_readOne 0 (.iload_n 3) 1 1 := ⟨by decide +kernel, rfl⟩
theorem aX3_readOne_1 : At cX3_readOne 1 (.bipush 6) 2 3 := ⟨by decide +kernel, rfl⟩
theorem aX3_readOne_3 : Br cX3_readOne 3 (.if_icmp .ge (33)) (33) 6 36 := ⟨by decide +kernel, rfl, by decide⟩
theorem aX3_readOne_6 : At cX3_readOne 6 (.aload_n 0) 1 7 := ⟨by decide +kernel, rfl⟩
theorem aX3_readOne_7 : At cX3_readOne 7 (.getfield 12) 3 10 := ⟨by decide +kernel, rfl⟩
theorem aX3_readOne_10 : At cX3_readOne 10 (.ldc 117) 2 12 := ⟨by decide +kernel, rfl⟩
theorem aX3_readOne_12 : At cX3_readOne 12 (.invokevirtual 52) 3 15 := ⟨by decide +kernel, rfl⟩
theorem aX3_readOne_15 : Br cX3_readOne 15 (.ifCond .eq (21)) (21) 18 36 := ⟨by decide +kernel, rfl, by decide⟩
theorem aX3_readOne_18 : At cX3_readOne 18 (.aload_n 0) 1 19 := ⟨by decide +kernel, rfl⟩
theorem aX3_readOne_19 : At cX3_readOne 19 (.aload_n 1) 1 20 := ⟨by decide +kernel, rfl⟩
theorem aX3_readOne_20 : At cX3_readOne 20 (.aload_n 2) 1 21 := ⟨by decide +kernel, rfl⟩
theorem aX3_readOne_21 : At cX3_readOne 21 (.iload_n 3) 1 22 := ⟨by decide +kernel, rfl⟩
theorem aX3_readOne_22 : At cX3_readOne 22 (.iconst 1) 1 23 := ⟨by decide +kernel, rfl⟩
theorem aX3_readOne_23 : At cX3_readOne 23 (.iadd) 1 24 := ⟨by decide +kernel, rfl⟩
theorem aX3_readOne_24 : At cX3_readOne 24 (.invokevirtual 103) 3 27 := ⟨by decide +kernel, rfl⟩
theorem aX3_readOne_27 : At cX3_readOne 27 (.istore 4) 2 29 := ⟨by decide +kernel, rfl⟩
theorem aX3_readOne_29 : At cX3_readOne 29 (.aload_n 2) 1 30 := ⟨by decide +kernel, rfl⟩
theorem aX3_readOne_30 : At cX3_readOne 30 (.invokevirtual 119) 3 33 := ⟨by decide +kernel, rfl⟩
theorem aX3_readOne_33 : At cX3_readOne 33 (.iload 4) 2 35 := ⟨by decide +kernel, rfl⟩
theorem aX3_readOne_35 : At cX3_readOne 35 (.ireturn) 1 36 := ⟨by decide +kernel, rfl⟩
theorem aX3_readOne_36 : At cX3_readOne 36 (.iload_n 3) 1 37 := ⟨by decide +kernel, rfl⟩
theorem aX3_readOne_37 : At cX3_readOne 37 (.bipush 6) 2 39 := ⟨by decide +kernel, rfl⟩
theorem aX3_readOne_39 : Br cX3_readOne 39 (.if_icmp .ge (45)) (45) 42 84 := ⟨by decide +kernel, rfl, by decide⟩
theorem aX3_readOne_42 : At cX3_readOne 42 (.aload_n 0) 1 43 := ⟨by decide +kernel, rfl⟩
theorem aX3_readOne_43 : At cX3_readOne 43 (.getfield 12) 3 46 := ⟨by decide +kernel, rfl⟩
theorem aX3_readOne_46 : At cX3_readOne 46 (.ldc 122) 2 48 := ⟨by decide +kernel, rfl⟩
theorem aX3_readOne_48 : At cX3_readOne 48 (.invokevirtual 52) 3 51 := ⟨by decide +kernel, rfl⟩
theorem aX3_readOne_51 : Br cX3_readOne 51 (.ifCond .eq (33)) (33) 54 84 := ⟨by decide +kernel, rfl, by decide⟩
theorem aX3_readOne_54 : At cX3_readOne 54 (.aload_n 0) 1 55 := ⟨by decide +kernel, rfl⟩
theorem aX3_readOne_55 : At cX3_readOne 55 (.aload_n 1) 1 56 := ⟨by decide +kernel, rfl⟩
theorem aX3_readOne_56 : At cX3_readOne 56 (.aload_n 2) 1 57 := ⟨by decide +kernel, rfl⟩
theorem aX3_readOne_57 : At cX3_readOne 57 (.iload_n 3) 1 58 := ⟨by decide +kernel, rfl⟩
theorem aX3_readOne_58 : At cX3_readOne 58 (.iconst 1) 1 59 := ⟨by decide +kernel, rfl⟩
theorem aX3_readOne_59 : At cX3_readOne 59 (.iadd) 1 60 := ⟨by decide +kernel, rfl⟩
theorem aX3_readOne_60 : At cX3_readOne 60 (.invokevirtual 83) 3 63 := ⟨by decide +kernel, rfl⟩
theorem aX3_readOne_63 : Br cX3_readOne 63 (.ifCond .eq (19)) (19) 66 82 := ⟨by decide +kernel, rfl, by decide⟩
theorem aX3_readOne_66 : At cX3_readOne 66 (.aload_n 0) 1 67 := ⟨by decide +kernel, rfl⟩
theorem aX3_readOne_67 : At cX3_readOne 67 (.getfield 12) 3 70 := ⟨by decide +kernel, rfl⟩
theorem aX3_readOne_70 : At cX3_readOne 70 (.ldc 124) 2 72 := ⟨by decide +kernel, rfl⟩
theorem aX3_readOne_72 : At cX3_readOne 72 (.invokevirtual 52) 3 75 := ⟨by decide +kernel, rfl⟩
theorem aX3_readOne_75 : Br cX3_readOne 75 (.ifCond .eq (7)) (7) 78 82 := ⟨by decide +kernel, rfl, by decide⟩
theorem aX3_readOne_78 : At cX3_readOne 78 (.iconst 1) 1 79 := ⟨by decide +kernel, rfl⟩
theorem aX3_readOne_79 : Br cX3_readOne 79 (.goto (4)) (4) 82 83 := ⟨by decide +kernel, rfl, by decide⟩
theorem aX3_readOne_82 : At cX3_readOne 82 (.iconst 0) 1 83 := ⟨by decide +kernel, rfl⟩
theorem aX3_readOne_83 : At cX3_readOne 83 (.ireturn) 1 84 := ⟨by decide +kernel, rfl⟩
theorem aX3_readOne_84 : At cX3_readOne 84 (.aload_n 0) 1 85 := ⟨by decide +kernel, rfl⟩
theorem aX3_readOne_85 : At cX3_readOne 85 (.getfield 12) 3 88 := ⟨by decide +kernel, rfl⟩
theorem aX3_readOne_88 : At cX3_readOne 88 (.ldc 126) 2 90 := ⟨by decide +kernel, rfl⟩
theorem aX3_readOne_90 : At cX3_readOne 90 (.invokevirtual 52) 3 93 := ⟨by decide +kernel, rfl⟩
theorem aX3_readOne_93 : Br cX3_readOne 93 (.ifCond .eq (52)) (52) 96 145 := ⟨by decide +kernel, rfl, by decide⟩
theorem aX3_readOne_96 : At cX3_readOne 96 (.aload_n 0) 1 97 := ⟨by decide +kernel, rfl⟩
theorem aX3_readOne_97 : At cX3_readOne 97 (.aload_n 1) 1 98 := ⟨by decide +kernel, rfl⟩
theorem aX3_readOne_98 : At cX3_readOne 98 (.aload_n 0) 1 99 := ⟨by decide +kernel, rfl⟩
theorem aX3_readOne_99 : At cX3_readOne 99 (.getfield 12) 3 102 := ⟨by decide +kernel, rfl⟩
theorem aX3_readOne_102 : At cX3_readOne 102 (.iconst 0) 1 103 := ⟨by decide +kernel, rfl⟩
theorem aX3_readOne_103 : At cX3_readOne 103 (.aload_n 1) 1 104 := ⟨by decide +kernel, rfl⟩
theorem aX3_readOne_104 : At cX3_readOne 104 (.getfield 60) 3 107 := ⟨by decide +kernel, rfl⟩
theorem aX3_readOne_107 : At cX3_readOne 107 (.aload_n 0) 1 108 := ⟨by decide +kernel, rfl⟩
theorem aX3_readOne_108 : At cX3_readOne 108 (.getfield 31) 3 111 := ⟨by decide +kernel, rfl⟩
theorem aX3_readOne_111 : At cX3_readOne 111 (.iadd) 1 112 := ⟨by decide +kernel, rfl⟩
theorem aX3_readOne_112 : At cX3_readOne 112 (.iconst 1) 1 113 := ⟨by decide +kernel, rfl⟩
theorem aX3_readOne_113 : At cX3_readOne 113 (.isub) 1 114 := ⟨by decide +kernel, rfl⟩
theorem aX3_readOne_114 : At cX3_readOne 114 (.iconst (-1)) 1 115 := ⟨by decide +kernel, rfl⟩
theorem aX3_readOne_115 : At cX3_readOne 115 (.invokevirtual 67) 3 118 := ⟨by decide +kernel, rfl⟩
theorem aX3_readOne_118 : At cX3_readOne 118 (.invokevirtual 128) 3 121 := ⟨by decide +kernel, rfl⟩
theorem aX3_readOne_121 : At cX3_readOne 121 (.astore 4) 2 123 := ⟨by decide +kernel, rfl⟩
theorem aX3_readOne_123 : At cX3_readOne 123 (.aload 4) 2 125 := ⟨by decide +kernel, rfl⟩
theorem aX3_readOne_125 : Br cX3_readOne 125 (.ifnull (9)) (9) 128 134 := ⟨by decide +kernel, rfl, by decide⟩
theorem aX3_readOne_128 : At cX3_readOne 128 (.aload_n 2) 1 129 := ⟨by decide +kernel, rfl⟩
theorem aX3_readOne_129 : At cX3_readOne 129 (.aload 4) 2 131 := ⟨by decide +kernel, rfl⟩
theorem aX3_readOne_131 : At cX3_readOne 131 (.invokevirtual 132) 3 134 := ⟨by decide +kernel, rfl⟩
theorem aX3_readOne_134 : At cX3_readOne 134 (.aload 4) 2 136 := ⟨by decide +kernel, rfl⟩
theorem aX3_readOne_136 : Br cX3_readOne 136 (.ifnull (7)) (7) 139 143 := ⟨by decide +kernel, rfl, by decide⟩
theorem aX3_readOne_139 : At cX3_readOne 139 (.iconst 1) 1 140 := ⟨by decide +kernel, rfl⟩
theorem aX3_readOne_140 : Br cX3_readOne 140 (.goto (4)) (4) 143 144 := ⟨by decide +kernel, rfl, by decide⟩
theorem aX3_readOne_143 : At cX3_readOne 143 (.iconst 0) 1 144 := ⟨by decide +kernel, rfl⟩
theorem aX3_readOne_144 : At cX3_readOne 144 (.ireturn) 1 145 := ⟨by decide +kernel, rfl⟩
theorem aX3_readOne_145 : At cX3_readOne 145 (.aload_n 0) 1 146 := ⟨by decide +kernel, rfl⟩
theorem aX3_readOne_146 : At cX3_readOne 146 (.getfield 12) 3 149 := ⟨by decide +kernel, rfl⟩
theorem aX3_readOne_149 : At cX3_readOne 149 (.ldc 136) 2 151 := ⟨by decide +kernel, rfl⟩
theorem aX3_readOne_151 : At cX3_readOne 151 (.invokevirtual 52) 3 154 := ⟨by decide +kernel, rfl⟩
theorem aX3_readOne_154 : At cX3_readOne 154 (.istore 4) 2 156 := ⟨by decide +kernel, rfl⟩
theorem aX3_readOne_156 : At cX3_readOne 156 (.iload 4) 2 158 := ⟨by decide +kernel, rfl⟩
theorem aX3_readOne_158 : Br cX3_readOne 158 (.ifCond .ne (17)) (17) 161 175 := ⟨by decide +kernel, rfl, by decide⟩
theorem aX3_readOne_161 : At cX3_readOne 161 (.aload_n 0) 1 162 := ⟨by decide +kernel, rfl⟩
theorem aX3_readOne_162 : At cX3_readOne 162 (.getfield 12) 3 165 := ⟨by decide +kernel, rfl⟩
theorem aX3_readOne_165 : At cX3_readOne 165 (.ldc 138) 2 167 := ⟨by decide +kernel, rfl⟩
theorem aX3_readOne_167 : At cX3_readOne 167 (.invokevirtual 52) 3 170 := ⟨by decide +kernel, rfl⟩
theorem aX3_readOne_170 : Br cX3_readOne 170 (.ifCond .ne (5)) (5) 173 175 := ⟨by decide +kernel, rfl, by decide⟩
theorem aX3_readOne_173 : At cX3_readOne 173 (.iconst 0) 1 174 := ⟨by decide +kernel, rfl⟩
theorem aX3_readOne_174 : At cX3_readOne 174 (.ireturn) 1 175 := ⟨by decide +kernel, rfl⟩
theorem aX3_readOne_175 : At cX3_readOne 175 (.aload_n 0) 1 176 := ⟨by decide +kernel, rfl⟩
theorem aX3_readOne_176 : At cX3_readOne 176 (.getfield 12) 3 179 := ⟨by decide +kernel, rfl⟩
theorem aX3_readOne_179 : At cX3_readOne 179 (.iconst 0) 1 180 := ⟨by decide +kernel, rfl⟩
theorem aX3_readOne_180 : At cX3_readOne 180 (.iconst 3) 1 181 := ⟨by decide +kernel, rfl⟩
theorem aX3_readOne_181 : At cX3_readOne 181 (.iconst (-1)) 1 182 := ⟨by decide +kernel, rfl⟩
theorem aX3_readOne_182 : At cX3_readOne 182 (.invokevirtual 67) 3 185 := ⟨by decide +kernel, rfl⟩
theorem aX3_readOne_185 : At cX3_readOne 185 (.istore 5) 2 187 := ⟨by decide +kernel, rfl⟩
theorem aX3_readOne_187 : At cX3_readOne 187 (.iload 5) 2 189 := ⟨by decide +kernel, rfl⟩
theorem aX3_readOne_189 : Br cX3_readOne 189 (.ifCond .ge (7)) (7) 192 196 := ⟨by decide +kernel, rfl, by decide⟩
theorem aX3_readOne_192 : At cX3_readOne 192 (.iconst (-1)) 1 193 := ⟨by decide +kernel, rfl⟩
theorem aX3_readOne_193 : Br cX3_readOne 193 (.goto (13)) (13) 196 206 := ⟨by decide +kernel, rfl, by decide⟩
theorem aX3_readOne_196 : At cX3_readOne 196 (.aload_n 0) 1 197 := ⟨by decide +kernel, rfl⟩
theorem aX3_readOne_197 : At cX3_readOne 197 (.getfield 12) 3 200 := ⟨by decide +kernel, rfl⟩
theorem aX3_readOne_200 : At cX3_readOne 200 (.iconst 0) 1 201 := ⟨by decide +kernel, rfl⟩
theorem aX3_readOne_201 : At cX3_readOne 201 (.iconst 2) 1 202 := ⟨by decide +kernel, rfl⟩
theorem aX3_readOne_202 : At cX3_readOne 202 (.iconst (-1)) 1 203 := ⟨by decide +kernel, rfl⟩
theorem aX3_readOne_203 : At cX3_readOne 203 (.invokevirtual 67) 3 206 := ⟨by decide +kernel, rfl⟩
theorem aX3_readOne_206 : At cX3_readOne 206 (.istore 6) 2 208 := ⟨by decide +kernel, rfl⟩
theorem aX3_readOne_208 : At cX3_readOne 208 (.iload 6) 2 210 := ⟨by decide +kernel, rfl⟩
theorem aX3_readOne_210 : Br cX3_readOne 210 (.ifCond .ge (7)) (7) 213 217 := ⟨by decide +kernel, rfl, by decide⟩
theorem aX3_readOne_213 : At cX3_readOne 213 (.iconst (-1)) 1 214 := ⟨by decide +kernel, rfl⟩
theorem aX3_readOne_214 : Br cX3_readOne 214 (.goto (23)) (23) 217 237 := ⟨by decide +kernel, rfl, by decide⟩
theorem aX3_readOne_217 : At cX3_readOne 217 (.aload_n 0) 1 218 := ⟨by decide +kernel, rfl⟩
theorem aX3_readOne_218 : At cX3_readOne 218 (.getfield 12) 3 221 := ⟨by decide +kernel, rfl⟩
theorem aX3_readOne_221 : At cX3_readOne 221 (.iconst 0) 1 222 := ⟨by decide +kernel, rfl⟩
theorem aX3_readOne_222 : At cX3_readOne 222 (.iconst 2) 1 223 := ⟨by decide +kernel, rfl⟩
theorem aX3_readOne_223 : At cX3_readOne 223 (.iload 4) 2 225 := ⟨by decide +kernel, rfl⟩
theorem aX3_readOne_225 : Br cX3_readOne 225 (.ifCond .eq (8)) (8) 228 233 := ⟨by decide +kernel, rfl, by decide⟩
theorem aX3_readOne_228 : At cX3_readOne 228 (.iload 6) 2 230 := ⟨by decide +kernel, rfl⟩
theorem aX3_readOne_230 : Br cX3_readOne 230 (.goto (4)) (4) 233 234 := ⟨by decide +kernel, rfl, by decide⟩
theorem aX3_readOne_233 : At cX3_readOne 233 (.iconst (-1)) 1 234 := ⟨by decide +kernel, rfl⟩
theorem aX3_readOne_234 : At cX3_readOne 234 (.invokevirtual 67) 3 237 := ⟨by decide +kernel, rfl⟩
theorem aX3_readOne_237 : At cX3_readOne 237 (.istore 7) 2 239 := ⟨by decide +kernel, rfl⟩
theorem aX3_readOne_239 : At cX3_readOne 239 (.iload 7) 2 241 := ⟨by decide +kernel, rfl⟩
theorem aX3_readOne_241 : Br cX3_readOne 241 (.ifCond .ge (5)) (5) 244 246 := ⟨by decide +kernel, rfl, by decide⟩
theorem aX3_readOne_244 : At cX3_readOne 244 (.iconst 0) 1 245 := ⟨by decide +kernel, rfl⟩
theorem aX3_readOne_245 : At cX3_readOne 245 (.ireturn) 1 246 := ⟨by decide +kernel, rfl⟩
theorem aX3_readOne_246 : At cX3_readOne 246 (.iload 5) 2 248 := ⟨by decide +kernel, rfl⟩
theorem aX3_readOne_248 : At cX3_readOne 248 (.iconst 3) 1 249 := ⟨by decide +kernel, rfl⟩
theorem aX3_readOne_249 : At cX3_readOne 249 (.imul) 1 250 := ⟨by decide +kernel, rfl⟩
theorem aX3_readOne_250 : At cX3_readOne 250 (.iload 6) 2 252 := ⟨by decide +kernel, rfl⟩
theorem aX3_readOne_252 : At cX3_readOne 252 (.iadd) 1 253 := ⟨by decide +kernel, rfl⟩
theorem aX3_readOne_253 : At cX3_readOne 253 (.istore 8) 2 255 := ⟨by decide +kernel, rfl⟩
theorem aX3_readOne_255 : At cX3_readOne 255 (.iload 4) 2 257 := ⟨by decide +kernel, rfl⟩
theorem aX3_readOne_257 : Br cX3_readOne 257 (.ifCond .eq (19)) (19) 260 276 := ⟨by decide +kernel, rfl, by decide⟩
theorem aX3_readOne_260 : At cX3_readOne 260 (.aload_n 2) 1 261 := ⟨by decide +kernel, rfl⟩
theorem aX3_readOne_261 : At cX3_readOne 261 (.iload 8) 2 263 := ⟨by decide +kernel, rfl⟩
theorem aX3_readOne_263 : At cX3_readOne 263 (.iload 5) 2 265 := ⟨by decide +kernel, rfl⟩
theorem aX3_readOne_265 : At cX3_readOne 265 (.iconst 3) 1 266 := ⟨by decide +kernel, rfl⟩
theorem aX3_readOne_266 : At cX3_readOne 266 (.imul) 1 267 := ⟨by decide +kernel, rfl⟩
theorem aX3_readOne_267 : At cX3_readOne 267 (.iload 7) 2 269 := ⟨by decide +kernel, rfl⟩
theorem aX3_readOne_269 : At cX3_readOne 269 (.iadd) 1 270 := ⟨by decide +kernel, rfl⟩
theorem aX3_readOne_270 : At cX3_readOne 270 (.invokevirtual 140) 3 273 := ⟨by decide +kernel, rfl⟩
theorem aX3_readOne_273 : Br cX3_readOne 273 (.goto (11)) (11) 276 284 := ⟨by decide +kernel, rfl, by decide⟩
theorem aX3_readOne_276 : At cX3_readOne 276 (.aload_n 2) 1 277 := ⟨by decide +kernel, rfl⟩
theorem aX3_readOne_277 : At cX3_readOne 277 (.iload 8) 2 279 := ⟨by decide +kernel, rfl⟩
theorem aX3_readOne_279 : At cX3_readOne 279 (.iload 7) 2 281 := ⟨by decide +kernel, rfl⟩
theorem aX3_readOne_281 : At cX3_readOne 281 (.invokevirtual 144) 3 284 := ⟨by decide +kernel, rfl⟩
theorem aX3_readOne_284 : At cX3_readOne 284 (.iconst 1) 1 285 := ⟨by decide +kernel, rfl⟩
theorem aX3_readOne_285 : At cX3_readOne 285 (.ireturn) 1 286 := ⟨by decide +kernel, rfl⟩
theorem aX3_dealByThen_0 : At cX3_dealByThen 0 (.iload_n 2) 1 1 := ⟨by decide +kernel, rfl⟩
theorem aX3_dealByThen_1 : At cX3_dealByThen 1 (.aload_n 1) 1 2 := ⟨by decide +kernel, rfl⟩
theorem aX3_dealByThen_2 : At cX3_dealByThen 2 (.getfield 60) 3 5 := ⟨by decide +kernel, rfl⟩
theorem aX3_dealByThen_5 : Br cX3_dealByThen 5 (.if_icmp .ge (11)) (11) 8 16 := ⟨by decide +kernel, rfl, by decide⟩
theorem aX3_dealByThen_8 : At cX3_dealByThen 8 (.aload_n 1) 1 9 := ⟨by decide +kernel, rfl⟩
theorem aX3_dealByThen_9 : At cX3_dealByThen 9 (.iload_n 2) 1 10 := ⟨by decide +kernel, rfl⟩
theorem aX3_dealByThen_10 : At cX3_dealByThen 10 (.invokevirtual 147) 3 13 := ⟨by decide +kernel, rfl⟩
theorem aX3_dealByThen_13 : Br cX3_dealByThen 13 (.goto (13)) (13) 16 26 := ⟨by decide +kernel, rfl, by decide⟩
theorem aX3_dealByThen_16 : At cX3_dealByThen 16 (.aload_n 0) 1 17 := ⟨by decide +kernel, rfl⟩
theorem aX3_dealByThen_17 : At cX3_dealByThen 17 (.iload_n 2) 1 18 := ⟨by decide +kernel, rfl⟩
theorem aX3_dealByThen_18 : At cX3_dealByThen 18 (.aload_n 1) 1 19 := ⟨by decide +kernel, rfl⟩
theorem aX3_dealByThen_19 : At cX3_dealByThen 19 (.getfield 60) 3 22 := ⟨by decide +kernel, rfl⟩
theorem aX3_dealByThen_22 : At cX3_dealByThen 22 (.isub) 1 23 := ⟨by decide +kernel, rfl⟩
theorem aX3_dealByThen_23 : At cX3_dealByThen 23 (.invokevirtual 151) 3 26 := ⟨by decide +kernel, rfl⟩
theorem aX3_dealByThen_26 : At cX3_dealByThen 26 (.areturn) 1 27 := ⟨by decide +kernel, rfl⟩
theorem aX4_init_0 : At cX4_init 0 (.aload_n 0) 1 1 := ⟨by decide +kernel, rfl⟩
theorem aX4_init_1 : At cX4_init 1 (.invokespecial 3) 3 4 := ⟨by decide +kernel, rfl⟩
theorem aX4_init_4 : At cX4_init 4 (.aload_n 0) 1 5 := ⟨by decide +kernel, rfl⟩
theorem aX4_init_5 : At cX4_init 5 (.bipush 12) 2 7 := ⟨by decide +kernel, rfl⟩
theorem aX4_init_7 : At cX4_init 7 (.newarray .int) 2 9 := ⟨by decide +kernel, rfl⟩
theorem aX4_init_9 : At cX4_init 9 (.putfield 9) 3 12 := ⟨by decide +kernel, rfl⟩
theorem aX4_init_12 : At cX4_init 12 (.aload_n 0) 1 13 := ⟨by decide +kernel, rfl⟩
theorem aX4_init_13 : At cX4_init 13 (.iload_n 1) 1 14 := ⟨by decide +kernel, rfl⟩
theorem aX4_init_14 : At cX4_init 14 (.putfield 15) 3 17 := ⟨by decide +kernel, rfl⟩
theorem aX4_init_17 : At cX4_init 17 (.iconst 0) 1 18 := ⟨by decide +kernel, rfl⟩
theorem aX4_init_18 : At cX4_init 18 (.istore_n 2) 1 19 := ⟨by decide +kernel, rfl⟩
theorem aX4_init_19 : At cX4_init 19 (.iload_n 2) 1 20 := ⟨by decide +kernel, rfl⟩
theorem aX4_init_20 : At cX4_init 20 (.bipush 12) 2 22 := ⟨by decide +kernel, rfl⟩
theorem aX4_init_22 : Br cX4_init 22 (.if_icmp .ge (18)) (18) 25 40 := ⟨by decide +kernel, rfl, by decide⟩
theorem aX4_init_25 : At cX4_init 25 (.aload_n 0) 1 26 := ⟨by decide +kernel, rfl⟩
theorem aX4_init_26 : At cX4_init 26 (.getfield 9) 3 29 := ⟨by decide +kernel, rfl⟩
theorem aX4_init_29 : At cX4_init 29 (.iload_n 2) 1 30 := ⟨by decide +kernel, rfl⟩
theorem aX4_init_30 : At cX4_init 30 (.iload_n 2) 1 31 := ⟨by decide +kernel, rfl⟩
theorem aX4_init_31 : At cX4_init 31 (.iconst 3) 1 32 := ⟨by decide +kernel, rfl⟩
theorem aX4_init_32 : At cX4_init 32 (.irem) 1 33 := ⟨by decide +kernel, rfl⟩
theorem aX4_init_33 : At cX4_init 33 (.iastore) 1 34 := ⟨by decide +kernel, rfl⟩
theorem aX4_init_34 : At cX4_init 34 (.iinc 2 1) 3 37 := ⟨by decide +kernel, rfl⟩
theorem aX4_init_37 : Br cX4_init 37 (.goto (-18)) (-18) 40 19 := ⟨by decide +kernel, rfl, by decide⟩
theorem aX4_init_40 : At cX4_init 40 (.return_) 1 41 := ⟨by decide +kernel, rfl⟩
theorem aX4_move_0 : At cX4_move 0 (.iconst 0) 1 1 := ⟨by decide +kernel, rfl⟩
theorem aX4_move_1 : At cX4_move 1 (.istore_n 3) 1 2 := ⟨by decide +kernel, rfl⟩
theorem aX4_move_2 : At cX4_move 2 (.aload_n 1) 1 3 := ⟨by decide +kernel, rfl⟩
theorem aX4_move_3 : At cX4_move 3 (.aload_n 0) 1 4 := ⟨by decide +kernel, rfl⟩
theorem aX4_move_4 : At cX4_move 4 (.getfield 15) 3 7 := ⟨by decide +kernel, rfl⟩
theorem aX4_move_7 : At cX4_move 7 (.invokevirtual 19) 3 10 := ⟨by decide +kernel, rfl⟩
theorem aX4_move_10 : At cX4_move 10 (.istore 4) 2 12 := ⟨by decide +kernel, rfl⟩
theorem aX4_move_12 : At cX4_move 12 (.iload 4) 2 14 := ⟨by decide +kernel, rfl⟩
theorem aX4_move_14 : Br cX4_move 14 (.ifCond .lt (53)) (53) 17 67 := ⟨by decide +kernel, rfl, by decide⟩
theorem aX4_move_17 : At cX4_move 17 (.aload_n 0) 1 18 := ⟨by decide +kernel, rfl⟩
theorem aX4_move_18 : At cX4_move 18 (.getfield 9) 3 21 := ⟨by decide +kernel, rfl⟩
theorem aX4_move_21 : At cX4_move 21 (.iload 4) 2 23 := ⟨by decide +kernel, rfl⟩
theorem aX4_move_23 : At cX4_move 23 (.iaload) 1 24 := ⟨by decide +kernel, rfl⟩
theorem aX4_move_24 : At cX4_move 24 (.aload_n 1) 1 25 := ⟨by decide +kernel, rfl⟩
theorem aX4_move_25 : At cX4_move 25 (.getfield 25) 3 28 := ⟨by decide +kernel, rfl⟩
theorem aX4_move_28 : Br cX4_move 28 (.if_icmp .ne (39)) (39) 31 67 := ⟨by decide +kernel, rfl, by decide⟩
theorem aX4_move_31 : At cX4_move 31 (.aload_n 0) 1 32 := ⟨by decide +kernel, rfl⟩
theorem aX4_move_32 : At cX4_move 32 (.getfield 28) 3 35 := ⟨by decide +kernel, rfl⟩
theorem aX4_move_35 : At cX4_move 35 (.iload_n 2) 1 36 := ⟨by decide +kernel, rfl⟩
theorem aX4_move_36 : At cX4_move 36 (.ishr) 1 37 := ⟨by decide +kernel, rfl⟩
theorem aX4_move_37 : At cX4_move 37 (.iconst 1) 1 38 := ⟨by decide +kernel, rfl⟩
theorem aX4_move_38 : At cX4_move 38 (.iand) 1 39 := ⟨by decide +kernel, rfl⟩
theorem aX4_move_39 : Br cX4_move 39 (.ifCond .ne (28)) (28) 42 67 := ⟨by decide +kernel, rfl, by decide⟩
theorem aX4_move_42 : At cX4_move 42 (.aload_n 0) 1 43 := ⟨by decide +kernel, rfl⟩
theorem aX4_move_43 : At cX4_move 43 (.getfield 9) 3 46 := ⟨by decide +kernel, rfl⟩
theorem aX4_move_46 : At cX4_move 46 (.iload 4) 2 48 := ⟨by decide +kernel, rfl⟩
theorem aX4_move_48 : At cX4_move 48 (.aload_n 1) 1 49 := ⟨by decide +kernel, rfl⟩
theorem aX4_move_49 : At cX4_move 49 (.getfield 31) 3 52 := ⟨by decide +kernel, rfl⟩
theorem aX4_move_52 : At cX4_move 52 (.iastore) 1 53 := ⟨by decide +kernel, rfl⟩
theorem aX4_move_53 : At cX4_move 53 (.aload_n 0) 1 54 := ⟨by decide +kernel, rfl⟩
theorem aX4_move_54 : At cX4_move 54 (.dup) 1 55 := ⟨by decide +kernel, rfl⟩
theorem aX4_move_55 : At cX4_move 55 (.getfield 28) 3 58 := ⟨by decide +kernel, rfl⟩
theorem aX4_move_58 : At cX4_move 58 (.iconst 1) 1 59 := ⟨by decide +kernel, rfl⟩
theorem aX4_move_59 : At cX4_move 59 (.iload_n 2) 1 60 := ⟨by decide +kernel, rfl⟩
theorem aX4_move_60 : At cX4_move 60 (.ishl) 1 61 := ⟨by decide +kernel, rfl⟩
theorem aX4_move_61 : At cX4_move 61 (.ior) 1 62 := ⟨by decide +kernel, rfl⟩
theorem aX4_move_62 : At cX4_move 62 (.putfield 28) 3 65 := ⟨by decide +kernel, rfl⟩
theorem aX4_move_65 : At cX4_move 65 (.iconst 1) 1 66 := ⟨by decide +kernel, rfl⟩
theorem aX4_move_66 : At cX4_move 66 (.istore_n 3) 1 67 := ⟨by decide +kernel, rfl⟩
theorem aX4_move_67 : At cX4_move 67 (.aload_n 1) 1 68 := ⟨by decide +kernel, rfl⟩
theorem aX4_move_68 : At cX4_move 68 (.aload_n 0) 1 69 := ⟨by decide +kernel, rfl⟩
theorem aX4_move_69 : At cX4_move 69 (.getfield 15) 3 72 := ⟨by decide +kernel, rfl⟩
theorem aX4_move_72 : At cX4_move 72 (.invokevirtual 34) 3 75 := ⟨by decide +kernel, rfl⟩
theorem aX4_move_75 : At cX4_move 75 (.istore 5) 2 77 := ⟨by decide +kernel, rfl⟩
theorem aX4_move_77 : At cX4_move 77 (.iload 5) 2 79 := ⟨by decide +kernel, rfl⟩
theorem aX4_move_79 : Br cX4_move 79 (.ifCond .lt (53)) (53) 82 132 := ⟨by decide +kernel, rfl, by decide⟩
theorem aX4_move_82 : At cX4_move 82 (.aload_n 0) 1 83 := ⟨by decide +kernel, rfl⟩
theorem aX4_move_83 : At cX4_move 83 (.getfield 9) 3 86 := ⟨by decide +kernel, rfl⟩
theorem aX4_move_86 : At cX4_move 86 (.iload 5) 2 88 := ⟨by decide +kernel, rfl⟩
theorem aX4_move_88 : At cX4_move 88 (.iaload) 1 89 := ⟨by decide +kernel, rfl⟩
theorem aX4_move_89 : At cX4_move 89 (.aload_n 1) 1 90 := ⟨by decide +kernel, rfl⟩
theorem aX4_move_90 : At cX4_move 90 (.getfield 31) 3 93 := ⟨by decide +kernel, rfl⟩
theorem aX4_move_93 : Br cX4_move 93 (.if_icmp .ne (39)) (39) 96 132 := ⟨by decide +kernel, rfl, by decide⟩
theorem aX4_move_96 : At cX4_move 96 (.aload_n 0) 1 97 := ⟨by decide +kernel, rfl⟩
theorem aX4_move_97 : At cX4_move 97 (.getfield 37) 3 100 := ⟨by decide +kernel, rfl⟩
theorem aX4_move_100 : At cX4_move 100 (.iload_n 2) 1 101 := ⟨by decide +kernel, rfl⟩
theorem aX4_move_101 : At cX4_move 101 (.ishr) 1 102 := ⟨by decide +kernel, rfl⟩
theorem aX4_move_102 : At cX4_move 102 (.iconst 1) 1 103 := ⟨by decide +kernel, rfl⟩
theorem aX4_move_103 : At cX4_move 103 (.iand) 1 104 := ⟨by decide +kernel, rfl⟩
theorem aX4_move_104 : Br cX4_move 104 (.ifCond .ne (28)) (28) 107 132 := ⟨by decide +kernel, rfl, by decide⟩
theorem aX4_move_107 : At cX4_move 107 (.aload_n 0) 1 108 := ⟨by decide +kernel, rfl⟩
theorem aX4_move_108 : At cX4_move 108 (.getfield 9) 3 111 := ⟨by decide +kernel, rfl⟩
theorem aX4_move_111 : At cX4_move 111 (.iload 5) 2 113 := ⟨by decide +kernel, rfl⟩
theorem aX4_move_113 : At cX4_move 113 (.aload_n 1) 1 114 := ⟨by decide +kernel, rfl⟩
theorem aX4_move_114 : At cX4_move 114 (.getfield 25) 3 117 := ⟨by decide +kernel, rfl⟩
theorem aX4_move_117 : At cX4_move 117 (.iastore) 1 118 := ⟨by decide +kernel, rfl⟩
theorem aX4_move_118 : At cX4_move 118 (.aload_n 0) 1 119 := ⟨by decide +kernel, rfl⟩
theorem aX4_move_119 : At cX4_move 119 (.dup) 1 120 := ⟨by decide +kernel, rfl⟩
theorem aX4_move_120 : At cX4_move 120 (.getfield 37) 3 123 := ⟨by decide +kernel, rfl⟩
theorem aX4_move_123 : At cX4_move 123 (.iconst 1) 1 124 := ⟨by decide +kernel, rfl⟩
theorem aX4_move_124 : At cX4_move 124 (.iload_n 2) 1 125 := ⟨by decide +kernel, rfl⟩
theorem aX4_move_125 : At cX4_move 125 (.ishl) 1 126 := ⟨by decide +kernel, rfl⟩
theorem aX4_move_126 : At cX4_move 126 (.ior) 1 127 := ⟨by decide +kernel, rfl⟩
theorem aX4_move_127 : At cX4_move 127 (.putfield 37) 3 130 := ⟨by decide +kernel, rfl⟩
theorem aX4_move_130 : At cX4_move 130 (.iconst 1) 1 131 := ⟨by decide +kernel, rfl⟩
theorem aX4_move_131 : At cX4_move 131 (.istore_n 3) 1 132 := ⟨by decide +kernel, rfl⟩
theorem aX4_move_132 : At cX4_move 132 (.iload_n 3) 1 133 := ⟨by decide +kernel, rfl⟩
theorem aX4_move_133 : At cX4_move 133 (.ireturn) 1 134 := ⟨by decide +kernel, rfl⟩
theorem aX5_init_0 : At cX5_init 0 (.aload_n 0) 1 1 := ⟨by decide +kernel, rfl⟩
theorem aX5_init_1 : At cX5_init 1 (.invokespecial 3) 3 4 := ⟨by decide +kernel, rfl⟩
theorem aX5_init_4 : At cX5_init 4 (.aload_n 0) 1 5 := ⟨by decide +kernel, rfl⟩
theorem aX5_init_5 : At cX5_init 5 (.bipush 40) 2 7 := ⟨by decide +kernel, rfl⟩
theorem aX5_init_7 : At cX5_init 7 (.newarray .long) 2 9 := ⟨by decide +kernel, rfl⟩
theorem aX5_init_9 : At cX5_init 9 (.putfield 9) 3 12 := ⟨by decide +kernel, rfl⟩
theorem aX5_init_12 : At cX5_init 12 (.aload_n 0) 1 13 := ⟨by decide +kernel, rfl⟩
theorem aX5_init_13 : At cX5_init 13 (.iconst (-1)) 1 14 := ⟨by decide +kernel, rfl⟩
theorem aX5_init_14 : At cX5_init 14 (.putfield 15) 3 17 := ⟨by decide +kernel, rfl⟩
theorem aX5_init_17 : At cX5_init 17 (.return_) 1 18 := ⟨by decide +kernel, rfl⟩
theorem aX5_isMissing_0 : At cX5_isMissing 0 (.aload_n 0) 1 1 := ⟨by decide +kernel, rfl⟩
theorem aX5_isMissing_1 : At cX5_isMissing 1 (.getfield 15) 3 4 := ⟨by decide +kernel, rfl⟩
theorem aX5_isMissing_4 : At cX5_isMissing 4 (.iconst (-1)) 1 5 := ⟨by decide +kernel, rfl⟩
theorem aX5_isMissing_5 : Br cX5_isMissing 5 (.if_icmp .ne (7)) (7) 8 12 := ⟨by decide +kernel, rfl, by decide⟩
theorem aX5_isMissing_8 : At cX5_isMissing 8 (.iconst 1) 1 9 := ⟨by decide +kernel, rfl⟩
theorem aX5_isMissing_9 : Br cX5_isMissing 9 (.goto (4)) (4) 12 13 := ⟨by decide +kernel, rfl, by decide⟩
theorem aX5_isMissing_12 : At cX5_isMissing 12 (.iconst 0) 1 13 := ⟨by decide +kernel, rfl⟩
theorem aX5_isMissing_13 : At cX5_isMissing 13 (.ireturn) 1 14 := ⟨by decide +kernel, rfl⟩
theorem aX5_become_0 : At cX5_become 0 (.aload_n 0) 1 1 := ⟨by decide +kernel, rfl⟩
theorem aX5_become_1 : At cX5_become 1 (.iload_n 1) 1 2 := ⟨by decide +kernel, rfl⟩
theorem aX5_become_2 : At cX5_become 2 (.putfield 15) 3 5 := ⟨by decide +kernel, rfl⟩
theorem aX5_become_5 : At cX5_become 5 (.aload_n 0) 1 6 := ⟨by decide +kernel, rfl⟩
theorem aX5_become_6 : At cX5_become 6 (.iload_n 2) 1 7 := ⟨by decide +kernel, rfl⟩
theorem aX5_become_7 : At cX5_become 7 (.putfield 19) 3 10 := ⟨by decide +kernel, rfl⟩
theorem aX5_become_10 : At cX5_become 10 (.iconst 0) 1 11 := ⟨by decide +kernel, rfl⟩
theorem aX5_become_11 : At cX5_become 11 (.istore_n 3) 1 12 := ⟨by decide +kernel, rfl⟩
theorem aX5_become_12 : At cX5_become 12 (.iload_n 3) 1 13 := ⟨by decide +kernel, rfl⟩
theorem aX5_become_13 : At cX5_become 13 (.iload_n 2) 1 14 := ⟨by decide +kernel, rfl⟩
theorem aX5_become_14 : Br cX5_become 14 (.if_icmp .ge (16)) (16) 17 30 := ⟨by decide +kernel, rfl, by decide⟩
theorem aX5_become_17 : At cX5_become 17 (.aload_n 0) 1 18 := ⟨by decide +kernel, rfl⟩
theorem aX5_become_18 : At cX5_become 18 (.getfield 9) 3 21 := ⟨by decide +kernel, rfl⟩
theorem aX5_become_21 : At cX5_become 21 (.iload_n 3) 1 22 := ⟨by decide +kernel, rfl⟩
theorem aX5_become_22 : At cX5_become 22 (.lconst 0) 1 23 := ⟨by decide +kernel, rfl⟩
theorem aX5_become_23 : At cX5_become 23 (.lastore) 1 24 := ⟨by decide +kernel, rfl⟩
theorem aX5_become_24 : At cX5_become 24 (.iinc 3 1) 3 27 := ⟨by decide +kernel, rfl⟩
theorem aX5_become_27 : Br cX5_become 27 (.goto (-15)) (-15) 30 12 := ⟨by decide +kernel, rfl, by decide⟩
theorem aX5_become_30 : At cX5_become 30 (.return_) 1 31 := ⟨by decide +kernel, rfl⟩
theorem aX5_put_0 : At cX5_put 0 (.aload_n 0) 1 1 := ⟨by decide +kernel, rfl⟩
theorem aX5_put_1 : At cX5_put 1 (.getfield 15) 3 4 := ⟨by decide +kernel, rfl⟩
theorem aX5_put_4 : At cX5_put 4 (.lookupswitch 53 #[(0, 28), (1, 41)]) 28 32 := ⟨by decide +kernel, rfl⟩
theorem aX5_put_32 : At cX5_put 32 (.aload_n 0) 1 33 := ⟨by decide +kernel, rfl⟩
theorem aX5_put_33 : At cX5_put 33 (.getfield 9) 3 36 := ⟨by decide +kernel, rfl⟩
theorem aX5_put_36 : At cX5_put 36 (.iload_n 1) 1 37 := ⟨by decide +kernel, rfl⟩
theorem aX5_put_37 : At cX5_put 37 (.lload_n 2) 1 38 := ⟨by decide +kernel, rfl⟩
theorem aX5_put_38 : At cX5_put 38 (.l2i) 1 39 := ⟨by decide +kernel, rfl⟩
theorem aX5_put_39 : At cX5_put 39 (.i2s) 1 40 := ⟨by decide +kernel, rfl⟩
theorem aX5_put_40 : At cX5_put 40 (.i2l) 1 41 := ⟨by decide +kernel, rfl⟩
theorem aX5_put_41 : At cX5_put 41 (.lastore) 1 42 := ⟨by decide +kernel, rfl⟩
theorem aX5_put_42 : Br cX5_put 42 (.goto (22)) (22) 45 64 := ⟨by decide +kernel, rfl, by decide⟩
theorem aX5_put_45 : At cX5_put 45 (.aload_n 0) 1 46 := ⟨by decide +kernel, rfl⟩
theorem aX5_put_46 : At cX5_put 46 (.getfield 9) 3 49 := ⟨by decide +kernel, rfl⟩
theorem aX5_put_49 : At cX5_put 49 (.iload_n 1) 1 50 := ⟨by decide +kernel, rfl⟩
theorem aX5_put_50 : At cX5_put 50 (.lload_n 2) 1 51 := ⟨by decide +kernel, rfl⟩
theorem aX5_put_51 : At cX5_put 51 (.l2i) 1 52 := ⟨by decide +kernel, rfl⟩
theorem aX5_put_52 : At cX5_put 52 (.i2l) 1 53 := ⟨by decide +kernel, rfl⟩
theorem aX5_put_53 : At cX5_put 53 (.lastore) 1 54 := ⟨by decide +kernel, rfl⟩
theorem aX5_put_54 : Br cX5_put 54 (.goto (10)) (10) 57 64 := ⟨by decide +kernel, rfl, by decide⟩
theorem aX5_put_57 : At cX5_put 57 (.aload_n 0) 1 58 := ⟨by decide +kernel, rfl⟩
theorem aX5_put_58 : At cX5_put 58 (.getfield 9) 3 61 := ⟨by decide +kernel, rfl⟩
theorem aX5_put_61 : At cX5_put 61 (.iload_n 1) 1 62 := ⟨by decide +kernel, rfl⟩
theorem aX5_put_62 : At cX5_put 62 (.lload_n 2) 1 63 := ⟨by decide +kernel, rfl⟩
theorem aX5_put_63 : At cX5_put 63 (.lastore) 1 64 := ⟨by decide +kernel, rfl⟩
theorem aX5_put_64 : At cX5_put 64 (.return_) 1 65 := ⟨by decide +kernel, rfl⟩
theorem aX5_hasRun_0 : At cX5_hasRun 0 (.iload_n 1) 1 1 := ⟨by decide +kernel, rfl⟩
theorem aX5_hasRun_1 : Br cX5_hasRun 1 (.ifCond .lt (29)) (29) 4 30 := ⟨by decide +kernel, rfl, by decide⟩
theorem aX5_hasRun_4 : At cX5_hasRun 4 (.iload_n 2) 1 5 := ⟨by decide +kernel, rfl⟩
theorem aX5_hasRun_5 : Br cX5_hasRun 5 (.ifCond .lt (25)) (25) 8 30 := ⟨by decide +kernel, rfl, by decide⟩
theorem aX5_hasRun_8 : At cX5_hasRun 8 (.iload_n 1) 1 9 := ⟨by decide +kernel, rfl⟩
theorem aX5_hasRun_9 : At cX5_hasRun 9 (.aload_n 0) 1 10 := ⟨by decide +kernel, rfl⟩
theorem aX5_hasRun_10 : At cX5_hasRun 10 (.getfield 19) 3 13 := ⟨by decide +kernel, rfl⟩
theorem aX5_hasRun_13 : Br cX5_hasRun 13 (.if_icmp .gt (17)) (17) 16 30 := ⟨by decide +kernel, rfl, by decide⟩
theorem aX5_hasRun_16 : At cX5_hasRun 16 (.iload_n 2) 1 17 := ⟨by decide +kernel, rfl⟩
theorem aX5_hasRun_17 : At cX5_hasRun 17 (.aload_n 0) 1 18 := ⟨by decide +kernel, rfl⟩
theorem aX5_hasRun_18 : At cX5_hasRun 18 (.getfield 19) 3 21 := ⟨by decide +kernel, rfl⟩
theorem aX5_hasRun_21 : At cX5_hasRun 21 (.iload_n 1) 1 22 := ⟨by decide +kernel, rfl⟩
theorem aX5_hasRun_22 : At cX5_hasRun 22 (.isub) 1 23 := ⟨by decide +kernel, rfl⟩
theorem aX5_hasRun_23 : Br cX5_hasRun 23 (.if_icmp .gt (7)) (7) 26 30 := ⟨by decide +kernel, rfl, by decide⟩
theorem aX5_hasRun_26 : At cX5_hasRun 26 (.iconst 1) 1 27 := ⟨by decide +kernel, rfl⟩
theorem aX5_hasRun_27 : Br cX5_hasRun 27 (.goto (4)) (4) 30 31 := ⟨by decide +kernel, rfl, by decide⟩
theorem aX5_hasRun_30 : At cX5_hasRun 30 (.iconst 0) 1 31 := ⟨by decide +kernel, rfl⟩
theorem aX5_hasRun_31 : At cX5_hasRun 31 (.ireturn) 1 32 := ⟨by decide +kernel, rfl⟩
theorem aX6_init_0 : At cX6_init 0 (.aload_n 0) 1 1 := ⟨by decide +kernel, rfl⟩
theorem aX6_init_1 : At cX6_init 1 (.invokespecial 3) 3 4 := ⟨by decide +kernel, rfl⟩
theorem aX6_init_4 : At cX6_init 4 (.aload_n 0) 1 5 := ⟨by decide +kernel, rfl⟩
theorem aX6_init_5 : At cX6_init 5 (.bipush 21) 2 7 := ⟨by decide +kernel, rfl⟩
theorem aX6_init_7 : At cX6_init 7 (.newarray .long) 2 9 := ⟨by decide +kernel, rfl⟩
theorem aX6_init_9 : At cX6_init 9 (.putfield 11) 3 12 := ⟨by decide +kernel, rfl⟩
theorem aX6_init_12 : At cX6_init 12 (.return_) 1 13 := ⟨by decide +kernel, rfl⟩
theorem aX6_has_0 : At cX6_has 0 (.aload_n 0) 1 1 := ⟨by decide +kernel, rfl⟩
theorem aX6_has_1 : At cX6_has 1 (.getfield 11) 3 4 := ⟨by decide +kernel, rfl⟩
theorem aX6_has_4 : At cX6_has 4 (.iload_n 1) 1 5 := ⟨by decide +kernel, rfl⟩
theorem aX6_has_5 : At cX6_has 5 (.bipush 6) 2 7 := ⟨by decide +kernel, rfl⟩
theorem aX6_has_7 : At cX6_has 7 (.ishr) 1 8 := ⟨by decide +kernel, rfl⟩
theorem aX6_has_8 : At cX6_has 8 (.laload) 1 9 := ⟨by decide +kernel, rfl⟩
theorem aX6_has_9 : At cX6_has 9 (.iload_n 1) 1 10 := ⟨by decide +kernel, rfl⟩
theorem aX6_has_10 : At cX6_has 10 (.bipush 63) 2 12 := ⟨by decide +kernel, rfl⟩
theorem aX6_has_12 : At cX6_has 12 (.iand) 1 13 := ⟨by decide +kernel, rfl⟩
theorem aX6_has_13 : At cX6_has 13 (.lshr) 1 14 := ⟨by decide +kernel, rfl⟩
theorem aX6_has_14 : At cX6_has 14 (.lconst 1) 1 15 := ⟨by decide +kernel, rfl⟩
theorem aX6_has_15 : At cX6_has 15 (.land) 1 16 := ⟨by decide +kernel, rfl⟩
theorem aX6_has_16 : At cX6_has 16 (.lconst 0) 1 17 := ⟨by decide +kernel, rfl⟩
theorem aX6_has_17 : At cX6_has 17 (.lcmp) 1 18 := ⟨by decide +kernel, rfl⟩
theorem aX6_has_18 : Br cX6_has 18 (.ifCond .eq (7)) (7) 21 25 := ⟨by decide +kernel, rfl, by decide⟩
theorem aX6_has_21 : At cX6_has 21 (.iconst 1) 1 22 := ⟨by decide +kernel, rfl⟩
theorem aX6_has_22 : Br cX6_has 22 (.goto (4)) (4) 25 26 := ⟨by decide +kernel, rfl, by decide⟩
theorem aX6_has_25 : At cX6_has 25 (.iconst 0) 1 26 := ⟨by decide +kernel, rfl⟩
theorem aX6_has_26 : At cX6_has 26 (.ireturn) 1 27 := ⟨by decide +kernel, rfl⟩
theorem aX6_becomeAhead_0 : At cX6_becomeAhead 0 (.iconst 0) 1 1 := ⟨by decide +kernel, rfl⟩
theorem aX6_becomeAhead_1 : At cX6_becomeAhead 1 (.istore_n 3) 1 2 := ⟨by decide +kernel, rfl⟩
theorem aX6_becomeAhead_2 : At cX6_becomeAhead 2 (.iload_n 3) 1 3 := ⟨by decide +kernel, rfl⟩
theorem aX6_becomeAhead_3 : At cX6_becomeAhead 3 (.sipush 1296) 3 6 := ⟨by decide +kernel, rfl⟩
theorem aX6_becomeAhead_6 : Br cX6_becomeAhead 6 (.if_icmp .ge (32)) (32) 9 38 := ⟨by decide +kernel, rfl, by decide⟩
theorem aX6_becomeAhead_9 : At cX6_becomeAhead 9 (.aload_n 0) 1 10 := ⟨by decide +kernel, rfl⟩
theorem aX6_becomeAhead_10 : At cX6_becomeAhead 10 (.iload_n 3) 1 11 := ⟨by decide +kernel, rfl⟩
theorem aX6_becomeAhead_11 : At cX6_becomeAhead 11 (.iload_n 3) 1 12 := ⟨by decide +kernel, rfl⟩
theorem aX6_becomeAhead_12 : At cX6_becomeAhead 12 (.iload_n 1) 1 13 := ⟨by decide +kernel, rfl⟩
theorem aX6_becomeAhead_13 : At cX6_becomeAhead 13 (.invokestatic 15) 3 16 := ⟨by decide +kernel, rfl⟩
theorem aX6_becomeAhead_16 : At cX6_becomeAhead 16 (.iload_n 3) 1 17 := ⟨by decide +kernel, rfl⟩
theorem aX6_becomeAhead_17 : At cX6_becomeAhead 17 (.iload_n 2) 1 18 := ⟨by decide +kernel, rfl⟩
theorem aX6_becomeAhead_18 : At cX6_becomeAhead 18 (.invokestatic 15) 3 21 := ⟨by decide +kernel, rfl⟩
theorem aX6_becomeAhead_21 : Br cX6_becomeAhead 21 (.if_icmp .ge (7)) (7) 24 28 := ⟨by decide +kernel, rfl, by decide⟩
theorem aX6_becomeAhead_24 : At cX6_becomeAhead 24 (.iconst 1) 1 25 := ⟨by decide +kernel, rfl⟩
theorem aX6_becomeAhead_25 : Br cX6_becomeAhead 25 (.goto (4)) (4) 28 29 := ⟨by decide +kernel, rfl, by decide⟩
theorem aX6_becomeAhead_28 : At cX6_becomeAhead 28 (.iconst 0) 1 29 := ⟨by decide +kernel, rfl⟩
theorem aX6_becomeAhead_29 : At cX6_becomeAhead 29 (.invokevirtual 19) 3 32 := ⟨by decide +kernel, rfl⟩
theorem aX6_becomeAhead_32 : At cX6_becomeAhead 32 (.iinc 3 1) 3 35 := ⟨by decide +kernel, rfl⟩
theorem aX6_becomeAhead_35 : Br cX6_becomeAhead 35 (.goto (-33)) (-33) 38 2 := ⟨by decide +kernel, rfl, by decide⟩
theorem aX6_becomeAhead_38 : At cX6_becomeAhead 38 (.return_) 1 39 := ⟨by decide +kernel, rfl⟩
theorem aX6_becomeAt_0 : At cX6_becomeAt 0 (.iconst 0) 1 1 := ⟨by decide +kernel, rfl⟩
theorem aX6_becomeAt_1 : At cX6_becomeAt 1 (.istore_n 3) 1 2 := ⟨by decide +kernel, rfl⟩
theorem aX6_becomeAt_2 : At cX6_becomeAt 2 (.iload_n 3) 1 3 := ⟨by decide +kernel, rfl⟩
theorem aX6_becomeAt_3 : At cX6_becomeAt 3 (.sipush 1296) 3 6 := ⟨by decide +kernel, rfl⟩
theorem aX6_becomeAt_6 : Br cX6_becomeAt 6 (.if_icmp .ge (28)) (28) 9 34 := ⟨by decide +kernel, rfl, by decide⟩
theorem aX6_becomeAt_9 : At cX6_becomeAt 9 (.aload_n 0) 1 10 := ⟨by decide +kernel, rfl⟩
theorem aX6_becomeAt_10 : At cX6_becomeAt 10 (.iload_n 3) 1 11 := ⟨by decide +kernel, rfl⟩
theorem aX6_becomeAt_11 : At cX6_becomeAt 11 (.iload_n 3) 1 12 := ⟨by decide +kernel, rfl⟩
theorem aX6_becomeAt_12 : At cX6_becomeAt 12 (.iload_n 1) 1 13 := ⟨by decide +kernel, rfl⟩
theorem aX6_becomeAt_13 : At cX6_becomeAt 13 (.invokestatic 15) 3 16 := ⟨by decide +kernel, rfl⟩
theorem aX6_becomeAt_16 : At cX6_becomeAt 16 (.iload_n 2) 1 17 := ⟨by decide +kernel, rfl⟩
theorem aX6_becomeAt_17 : Br cX6_becomeAt 17 (.if_icmp .ne (7)) (7) 20 24 := ⟨by decide +kernel, rfl, by decide⟩
theorem aX6_becomeAt_20 : At cX6_becomeAt 20 (.iconst 1) 1 21 := ⟨by decide +kernel, rfl⟩
theorem aX6_becomeAt_21 : Br cX6_becomeAt 21 (.goto (4)) (4) 24 25 := ⟨by decide +kernel, rfl, by decide⟩
theorem aX6_becomeAt_24 : At cX6_becomeAt 24 (.iconst 0) 1 25 := ⟨by decide +kernel, rfl⟩
theorem aX6_becomeAt_25 : At cX6_becomeAt 25 (.invokevirtual 19) 3 28 := ⟨by decide +kernel, rfl⟩
theorem aX6_becomeAt_28 : At cX6_becomeAt 28 (.iinc 3 1) 3 31 := ⟨by decide +kernel, rfl⟩
theorem aX6_becomeAt_31 : Br cX6_becomeAt 31 (.goto (-29)) (-29) 34 2 := ⟨by decide +kernel, rfl, by decide⟩
theorem aX6_becomeAt_34 : At cX6_becomeAt 34 (.return_) 1 35 := ⟨by decide +kernel, rfl⟩
theorem aX6_becomeLapsed_0 : At cX6_becomeLapsed 0 (.iconst 0) 1 1 := ⟨by decide +kernel, rfl⟩
theorem aX6_becomeLapsed_1 : At cX6_becomeLapsed 1 (.istore_n 2) 1 2 := ⟨by decide +kernel, rfl⟩
theorem aX6_becomeLapsed_2 : At cX6_becomeLapsed 2 (.iload_n 2) 1 3 := ⟨by decide +kernel, rfl⟩
theorem aX6_becomeLapsed_3 : At cX6_becomeLapsed 3 (.sipush 1296) 3 6 := ⟨by decide +kernel, rfl⟩
theorem aX6_becomeLapsed_6 : Br cX6_becomeLapsed 6 (.if_icmp .ge (27)) (27) 9 33 := ⟨by decide +kernel, rfl, by decide⟩
theorem aX6_becomeLapsed_9 : At cX6_becomeLapsed 9 (.aload_n 0) 1 10 := ⟨by decide +kernel, rfl⟩
theorem aX6_becomeLapsed_10 : At cX6_becomeLapsed 10 (.iload_n 2) 1 11 := ⟨by decide +kernel, rfl⟩
theorem aX6_becomeLapsed_11 : At cX6_becomeLapsed 11 (.aload_n 1) 1 12 := ⟨by decide +kernel, rfl⟩
theorem aX6_becomeLapsed_12 : At cX6_becomeLapsed 12 (.iload_n 2) 1 13 := ⟨by decide +kernel, rfl⟩
theorem aX6_becomeLapsed_13 : At cX6_becomeLapsed 13 (.invokevirtual 23) 3 16 := ⟨by decide +kernel, rfl⟩
theorem aX6_becomeLapsed_16 : Br cX6_becomeLapsed 16 (.ifCond .ge (7)) (7) 19 23 := ⟨by decide +kernel, rfl, by decide⟩
theorem aX6_becomeLapsed_19 : At cX6_becomeLapsed 19 (.iconst 1) 1 20 := ⟨by decide +kernel, rfl⟩
theorem aX6_becomeLapsed_20 : Br cX6_becomeLapsed 20 (.goto (4)) (4) 23 24 := ⟨by decide +kernel, rfl, by decide⟩
theorem aX6_becomeLapsed_23 : At cX6_becomeLapsed 23 (.iconst 0) 1 24 := ⟨by decide +kernel, rfl⟩
theorem aX6_becomeLapsed_24 : At cX6_becomeLapsed 24 (.invokevirtual 19) 3 27 := ⟨by decide +kernel, rfl⟩
theorem aX6_becomeLapsed_27 : At cX6_becomeLapsed 27 (.iinc 2 1) 3 30 := ⟨by decide +kernel, rfl⟩
theorem aX6_becomeLapsed_30 : Br cX6_becomeLapsed 30 (.goto (-28)) (-28) 33 2 := ⟨by decide +kernel, rfl, by decide⟩
theorem aX6_becomeLapsed_33 : At cX6_becomeLapsed 33 (.return_) 1 34 := ⟨by decide +kernel, rfl⟩
theorem aX6_clear_0 : At cX6_clear 0 (.iconst 0) 1 1 := ⟨by decide +kernel, rfl⟩
theorem aX6_clear_1 : At cX6_clear 1 (.istore_n 1) 1 2 := ⟨by decide +kernel, rfl⟩
theorem aX6_clear_2 : At cX6_clear 2 (.iload_n 1) 1 3 := ⟨by decide +kernel, rfl⟩
theorem aX6_clear_3 : At cX6_clear 3 (.bipush 21) 2 5 := ⟨by decide +kernel, rfl⟩
theorem aX6_clear_5 : Br cX6_clear 5 (.if_icmp .ge (16)) (16) 8 21 := ⟨by decide +kernel, rfl, by decide⟩
theorem aX6_clear_8 : At cX6_clear 8 (.aload_n 0) 1 9 := ⟨by decide +kernel, rfl⟩
theorem aX6_clear_9 : At cX6_clear 9 (.getfield 11) 3 12 := ⟨by decide +kernel, rfl⟩
theorem aX6_clear_12 : At cX6_clear 12 (.iload_n 1) 1 13 := ⟨by decide +kernel, rfl⟩
theorem aX6_clear_13 : At cX6_clear 13 (.lconst 0) 1 14 := ⟨by decide +kernel, rfl⟩
theorem aX6_clear_14 : At cX6_clear 14 (.lastore) 1 15 := ⟨by decide +kernel, rfl⟩
theorem aX6_clear_15 : At cX6_clear 15 (.iinc 1 1) 3 18 := ⟨by decide +kernel, rfl⟩
theorem aX6_clear_18 : Br cX6_clear 18 (.goto (-16)) (-16) 21 2 := ⟨by decide +kernel, rfl, by decide⟩
theorem aX6_clear_21 : At cX6_clear 21 (.return_) 1 22 := ⟨by decide +kernel, rfl⟩
theorem aX6_turn_0 : At cX6_turn 0 (.iconst 0) 1 1 := ⟨by decide +kernel, rfl⟩
theorem aX6_turn_1 : At cX6_turn 1 (.istore_n 1) 1 2 := ⟨by decide +kernel, rfl⟩
theorem aX6_turn_2 : At cX6_turn 2 (.iload_n 1) 1 3 := ⟨by decide +kernel, rfl⟩
theorem aX6_turn_3 : At cX6_turn 3 (.bipush 21) 2 5 := ⟨by decide +kernel, rfl⟩
theorem aX6_turn_5 : Br cX6_turn 5 (.if_icmp .ge (25)) (25) 8 30 := ⟨by decide +kernel, rfl, by decide⟩
theorem aX6_turn_8 : At cX6_turn 8 (.aload_n 0) 1 9 := ⟨by decide +kernel, rfl⟩
theorem aX6_turn_9 : At cX6_turn 9 (.getfield 11) 3 12 := ⟨by decide +kernel, rfl⟩
theorem aX6_turn_12 : At cX6_turn 12 (.iload_n 1) 1 13 := ⟨by decide +kernel, rfl⟩
theorem aX6_turn_13 : At cX6_turn 13 (.aload_n 0) 1 14 := ⟨by decide +kernel, rfl⟩
theorem aX6_turn_14 : At cX6_turn 14 (.getfield 11) 3 17 := ⟨by decide +kernel, rfl⟩
theorem aX6_turn_17 : At cX6_turn 17 (.iload_n 1) 1 18 := ⟨by decide +kernel, rfl⟩
theorem aX6_turn_18 : At cX6_turn 18 (.laload) 1 19 := ⟨by decide +kernel, rfl⟩
theorem aX6_turn_19 : At cX6_turn 19 (.ldc2_w 29) 3 22 := ⟨by decide +kernel, rfl⟩
theorem aX6_turn_22 : At cX6_turn 22 (.lxor) 1 23 := ⟨by decide +kernel, rfl⟩
theorem aX6_turn_23 : At cX6_turn 23 (.lastore) 1 24 := ⟨by decide +kernel, rfl⟩
theorem aX6_turn_24 : At cX6_turn 24 (.iinc 1 1) 3 27 := ⟨by decide +kernel, rfl⟩
theorem aX6_turn_27 : Br cX6_turn 27 (.goto (-25)) (-25) 30 2 := ⟨by decide +kernel, rfl, by decide⟩
theorem aX6_turn_30 : At cX6_turn 30 (.return_) 1 31 := ⟨by decide +kernel, rfl⟩
theorem aX6_join_0 : At cX6_join 0 (.iconst 0) 1 1 := ⟨by decide +kernel, rfl⟩
theorem aX6_join_1 : At cX6_join 1 (.istore_n 2) 1 2 := ⟨by decide +kernel, rfl⟩
theorem aX6_join_2 : At cX6_join 2 (.iload_n 2) 1 3 := ⟨by decide +kernel, rfl⟩
theorem aX6_join_3 : At cX6_join 3 (.bipush 21) 2 5 := ⟨by decide +kernel, rfl⟩
theorem aX6_join_5 : Br cX6_join 5 (.if_icmp .ge (24)) (24) 8 29 := ⟨by decide +kernel, rfl, by decide⟩
theorem aX6_join_8 : At cX6_join 8 (.aload_n 0) 1 9 := ⟨by decide +kernel, rfl⟩
theorem aX6_join_9 : At cX6_join 9 (.getfield 11) 3 12 := ⟨by decide +kernel, rfl⟩
theorem aX6_join_12 : At cX6_join 12 (.iload_n 2) 1 13 := ⟨by decide +kernel, rfl⟩
theorem aX6_join_13 : At cX6_join 13 (.dup2) 1 14 := ⟨by decide +kernel, rfl⟩
theorem aX6_join_14 : At cX6_join 14 (.laload) 1 15 := ⟨by decide +kernel, rfl⟩
theorem aX6_join_15 : At cX6_join 15 (.aload_n 1) 1 16 := ⟨by decide +kernel, rfl⟩
theorem aX6_join_16 : At cX6_join 16 (.getfield 11) 3 19 := ⟨by decide +kernel, rfl⟩
theorem aX6_join_19 : At cX6_join 19 (.iload_n 2) 1 20 := ⟨by decide +kernel, rfl⟩
theorem aX6_join_20 : At cX6_join 20 (.laload) 1 21 := ⟨by decide +kernel, rfl⟩
theorem aX6_join_21 : At cX6_join 21 (.lor) 1 22 := ⟨by decide +kernel, rfl⟩
theorem aX6_join_22 : At cX6_join 22 (.lastore) 1 23 := ⟨by decide +kernel, rfl⟩
theorem aX6_join_23 : At cX6_join 23 (.iinc 2 1) 3 26 := ⟨by decide +kernel, rfl⟩
theorem aX6_join_26 : Br cX6_join 26 (.goto (-24)) (-24) 29 2 := ⟨by decide +kernel, rfl, by decide⟩
theorem aX6_join_29 : At cX6_join 29 (.return_) 1 30 := ⟨by decide +kernel, rfl⟩
theorem aX6_meet_0 : At cX6_meet 0 (.iconst 0) 1 1 := ⟨by decide +kernel, rfl⟩
theorem aX6_meet_1 : At cX6_meet 1 (.istore_n 2) 1 2 := ⟨by decide +kernel, rfl⟩
theorem aX6_meet_2 : At cX6_meet 2 (.iload_n 2) 1 3 := ⟨by decide +kernel, rfl⟩
theorem aX6_meet_3 : At cX6_meet 3 (.bipush 21) 2 5 := ⟨by decide +kernel, rfl⟩
theorem aX6_meet_5 : Br cX6_meet 5 (.if_icmp .ge (24)) (24) 8 29 := ⟨by decide +kernel, rfl, by decide⟩
theorem aX6_meet_8 : At cX6_meet 8 (.aload_n 0) 1 9 := ⟨by decide +kernel, rfl⟩
theorem aX6_meet_9 : At cX6_meet 9 (.getfield 11) 3 12 := ⟨by decide +kernel, rfl⟩
theorem aX6_meet_12 : At cX6_meet 12 (.iload_n 2) 1 13 := ⟨by decide +kernel, rfl⟩
theorem aX6_meet_13 : At cX6_meet 13 (.dup2) 1 14 := ⟨by decide +kernel, rfl⟩
theorem aX6_meet_14 : At cX6_meet 14 (.laload) 1 15 := ⟨by decide +kernel, rfl⟩
theorem aX6_meet_15 : At cX6_meet 15 (.aload_n 1) 1 16 := ⟨by decide +kernel, rfl⟩
theorem aX6_meet_16 : At cX6_meet 16 (.getfield 11) 3 19 := ⟨by decide +kernel, rfl⟩
theorem aX6_meet_19 : At cX6_meet 19 (.iload_n 2) 1 20 := ⟨by decide +kernel, rfl⟩
theorem aX6_meet_20 : At cX6_meet 20 (.laload) 1 21 := ⟨by decide +kernel, rfl⟩
theorem aX6_meet_21 : At cX6_meet 21 (.land) 1 22 := ⟨by decide +kernel, rfl⟩
theorem aX6_meet_22 : At cX6_meet 22 (.lastore) 1 23 := ⟨by decide +kernel, rfl⟩
theorem aX6_meet_23 : At cX6_meet 23 (.iinc 2 1) 3 26 := ⟨by decide +kernel, rfl⟩
theorem aX6_meet_26 : Br cX6_meet 26 (.goto (-24)) (-24) 29 2 := ⟨by decide +kernel, rfl, by decide⟩
theorem aX6_meet_29 : At cX6_meet 29 (.return_) 1 30 := ⟨by decide +kernel, rfl⟩
theorem aX6_set_0 : At cX6_set 0 (.lconst 1) 1 1 := ⟨by decide +kernel, rfl⟩
theorem aX6_set_1 : At cX6_set 1 (.iload_n 1) 1 2 := ⟨by decide +kernel, rfl⟩
theorem aX6_set_2 : At cX6_set 2 (.bipush 63) 2 4 := ⟨by decide +kernel, rfl⟩
theorem aX6_set_4 : At cX6_set 4 (.iand) 1 5 := ⟨by decide +kernel, rfl⟩
theorem aX6_set_5 : At cX6_set 5 (.lshl) 1 6 := ⟨by decide +kernel, rfl⟩
theorem aX6_set_6 : At cX6_set 6 (.lstore_n 3) 1 7 := ⟨by decide +kernel, rfl⟩
theorem aX6_set_7 : At cX6_set 7 (.iload_n 1) 1 8 := ⟨by decide +kernel, rfl⟩
theorem aX6_set_8 : At cX6_set 8 (.bipush 6) 2 10 := ⟨by decide +kernel, rfl⟩
theorem aX6_set_10 : At cX6_set 10 (.ishr) 1 11 := ⟨by decide +kernel, rfl⟩
theorem aX6_set_11 : At cX6_set 11 (.istore 5) 2 13 := ⟨by decide +kernel, rfl⟩
theorem aX6_set_13 : At cX6_set 13 (.aload_n 0) 1 14 := ⟨by decide +kernel, rfl⟩
theorem aX6_set_14 : At cX6_set 14 (.getfield 11) 3 17 := ⟨by decide +kernel, rfl⟩
theorem aX6_set_17 : At cX6_set 17 (.iload 5) 2 19 := ⟨by decide +kernel, rfl⟩
theorem aX6_set_19 : At cX6_set 19 (.iload_n 2) 1 20 := ⟨by decide +kernel, rfl⟩
theorem aX6_set_20 : Br cX6_set 20 (.ifCond .eq (15)) (15) 23 35 := ⟨by decide +kernel, rfl, by decide⟩
theorem aX6_set_23 : At cX6_set 23 (.aload_n 0) 1 24 := ⟨by decide +kernel, rfl⟩
theorem aX6_set_24 : At cX6_set 24 (.getfield 11) 3 27 := ⟨by decide +kernel, rfl⟩
theorem aX6_set_27 : At cX6_set 27 (.iload 5) 2 29 := ⟨by decide +kernel, rfl⟩
theorem aX6_set_29 : At cX6_set 29 (.laload) 1 30 := ⟨by decide +kernel, rfl⟩
theorem aX6_set_30 : At cX6_set 30 (.lload_n 3) 1 31 := ⟨by decide +kernel, rfl⟩
theorem aX6_set_31 : At cX6_set 31 (.lor) 1 32 := ⟨by decide +kernel, rfl⟩
theorem aX6_set_32 : Br cX6_set 32 (.goto (16)) (16) 35 48 := ⟨by decide +kernel, rfl, by decide⟩
theorem aX6_set_35 : At cX6_set 35 (.aload_n 0) 1 36 := ⟨by decide +kernel, rfl⟩
theorem aX6_set_36 : At cX6_set 36 (.getfield 11) 3 39 := ⟨by decide +kernel, rfl⟩
theorem aX6_set_39 : At cX6_set 39 (.iload 5) 2 41 := ⟨by decide +kernel, rfl⟩
theorem aX6_set_41 : At cX6_set 41 (.laload) 1 42 := ⟨by decide +kernel, rfl⟩
theorem aX6_set_42 : At cX6_set 42 (.lload_n 3) 1 43 := ⟨by decide +kernel, rfl⟩
theorem aX6_set_43 : At cX6_set 43 (.ldc2_w 29) 3 46 := ⟨by decide +kernel, rfl⟩
theorem aX6_set_46 : At cX6_set 46 (.lxor) 1 47 := ⟨by decide +kernel, rfl⟩
theorem aX6_set_47 : At cX6_set 47 (.land) 1 48 := ⟨by decide +kernel, rfl⟩
theorem aX6_set_48 : At cX6_set 48 (.lastore) 1 49 := ⟨by decide +kernel, rfl⟩
theorem aX6_set_49 : At cX6_set 49 (.return_) 1 50 := ⟨by decide +kernel, rfl⟩
theorem aX7_init_0 : At cX7_init 0 (.aload_n 0) 1 1 := ⟨by decide +kernel, rfl⟩
theorem aX7_init_1 : At cX7_init 1 (.invokespecial 3) 3 4 := ⟨by decide +kernel, rfl⟩
theorem aX7_init_4 : At cX7_init 4 (.aload_n 0) 1 5 := ⟨by decide +kernel, rfl⟩
theorem aX7_init_5 : At cX7_init 5 (.bipush 120) 2 7 := ⟨by decide +kernel, rfl⟩
theorem aX7_init_7 : At cX7_init 7 (.newarray .byte) 2 9 := ⟨by decide +kernel, rfl⟩
theorem aX7_init_9 : At cX7_init 9 (.putfield 9) 3 12 := ⟨by decide +kernel, rfl⟩
theorem aX7_init_12 : At cX7_init 12 (.return_) 1 13 := ⟨by decide +kernel, rfl⟩
theorem aX7_add_0 : At cX7_add 0 (.aload_n 0) 1 1 := ⟨by decide +kernel, rfl⟩
theorem aX7_add_1 : At cX7_add 1 (.getfield 15) 3 4 := ⟨by decide +kernel, rfl⟩
theorem aX7_add_4 : At cX7_add 4 (.bipush 120) 2 6 := ⟨by decide +kernel, rfl⟩
theorem aX7_add_6 : Br cX7_add 6 (.if_icmp .ge (23)) (23) 9 29 := ⟨by decide +kernel, rfl, by decide⟩
theorem aX7_add_9 : At cX7_add 9 (.aload_n 0) 1 10 := ⟨by decide +kernel, rfl⟩
theorem aX7_add_10 : At cX7_add 10 (.getfield 9) 3 13 := ⟨by decide +kernel, rfl⟩
theorem aX7_add_13 : At cX7_add 13 (.aload_n 0) 1 14 := ⟨by decide +kernel, rfl⟩
theorem aX7_add_14 : At cX7_add 14 (.getfield 15) 3 17 := ⟨by decide +kernel, rfl⟩
theorem aX7_add_17 : At cX7_add 17 (.iload_n 1) 1 18 := ⟨by decide +kernel, rfl⟩
theorem aX7_add_18 : At cX7_add 18 (.bastore) 1 19 := ⟨by decide +kernel, rfl⟩
theorem aX7_add_19 : At cX7_add 19 (.aload_n 0) 1 20 := ⟨by decide +kernel, rfl⟩
theorem aX7_add_20 : At cX7_add 20 (.dup) 1 21 := ⟨by decide +kernel, rfl⟩
theorem aX7_add_21 : At cX7_add 21 (.getfield 15) 3 24 := ⟨by decide +kernel, rfl⟩
theorem aX7_add_24 : At cX7_add 24 (.iconst 1) 1 25 := ⟨by decide +kernel, rfl⟩
theorem aX7_add_25 : At cX7_add 25 (.iadd) 1 26 := ⟨by decide +kernel, rfl⟩
theorem aX7_add_26 : At cX7_add 26 (.putfield 15) 3 29 := ⟨by decide +kernel, rfl⟩
theorem aX7_add_29 : At cX7_add 29 (.return_) 1 30 := ⟨by decide +kernel, rfl⟩
theorem aX7_start_0 : At cX7_start 0 (.aload_n 0) 1 1 := ⟨by decide +kernel, rfl⟩
theorem aX7_start_1 : At cX7_start 1 (.iconst 0) 1 2 := ⟨by decide +kernel, rfl⟩
theorem aX7_start_2 : At cX7_start 2 (.putfield 19) 3 5 := ⟨by decide +kernel, rfl⟩
theorem aX7_start_5 : At cX7_start 5 (.aload_n 0) 1 6 := ⟨by decide +kernel, rfl⟩
theorem aX7_start_6 : At cX7_start 6 (.invokevirtual 22) 3 9 := ⟨by decide +kernel, rfl⟩
theorem aX7_start_9 : At cX7_start 9 (.return_) 1 10 := ⟨by decide +kernel, rfl⟩
theorem aX7_tokenPlace_0 : At cX7_tokenPlace 0 (.aload_n 0) 1 1 := ⟨by decide +kernel, rfl⟩
theorem aX7_tokenPlace_1 : At cX7_tokenPlace 1 (.getfield 25) 3 4 := ⟨by decide +kernel, rfl⟩
theorem aX7_tokenPlace_4 : At cX7_tokenPlace 4 (.ireturn) 1 5 := ⟨by decide +kernel, rfl⟩
theorem aX7_isAtEnd_0 : At cX7_isAtEnd 0 (.aload_n 0) 1 1 := ⟨by decide +kernel, rfl⟩
theorem aX7_isAtEnd_1 : At cX7_isAtEnd 1 (.getfield 25) 3 4 := ⟨by decide +kernel, rfl⟩
theorem aX7_isAtEnd_4 : At cX7_isAtEnd 4 (.aload_n 0) 1 5 := ⟨by decide +kernel, rfl⟩
theorem aX7_isAtEnd_5 : At cX7_isAtEnd 5 (.getfield 15) 3 8 := ⟨by decide +kernel, rfl⟩
theorem aX7_isAtEnd_8 : Br cX7_isAtEnd 8 (.if_icmp .lt (7)) (7) 11 15 := ⟨by decide +kernel, rfl, by decide⟩
theorem aX7_isAtEnd_11 : At cX7_isAtEnd 11 (.iconst 1) 1 12 := ⟨by decide +kernel, rfl⟩
theorem aX7_isAtEnd_12 : Br cX7_isAtEnd 12 (.goto (4)) (4) 15 16 := ⟨by decide +kernel, rfl, by decide⟩
theorem aX7_isAtEnd_15 : At cX7_isAtEnd 15 (.iconst 0) 1 16 := ⟨by decide +kernel, rfl⟩
theorem aX7_isAtEnd_16 : At cX7_isAtEnd 16 (.ireturn) 1 17 := ⟨by decide +kernel, rfl⟩
theorem aX7_takes_0 : At cX7_takes 0 (.aload_n 0) 1 1 := ⟨by decide +kernel, rfl⟩
theorem aX7_takes_1 : At cX7_takes 1 (.getfield 19) 3 4 := ⟨by decide +kernel, rfl⟩
theorem aX7_takes_4 : At cX7_takes 4 (.aload_n 0) 1 5 := ⟨by decide +kernel, rfl⟩
theorem aX7_takes_5 : At cX7_takes 5 (.getfield 25) 3 8 := ⟨by decide +kernel, rfl⟩
theorem aX7_takes_8 : At cX7_takes 8 (.isub) 1 9 := ⟨by decide +kernel, rfl⟩
theorem aX7_takes_9 : At cX7_takes 9 (.aload_n 1) 1 10 := ⟨by decide +kernel, rfl⟩
theorem aX7_takes_10 : At cX7_takes 10 (.invokevirtual 28) 3 13 := ⟨by decide +kernel, rfl⟩
theorem aX7_takes_13 : Br cX7_takes 13 (.if_icmp .eq (5)) (5) 16 18 := ⟨by decide +kernel, rfl, by decide⟩
theorem aX7_takes_16 : At cX7_takes 16 (.iconst 0) 1 17 := ⟨by decide +kernel, rfl⟩
theorem aX7_takes_17 : At cX7_takes 17 (.ireturn) 1 18 := ⟨by decide +kernel, rfl⟩
theorem aX7_takes_18 : At cX7_takes 18 (.iconst 0) 1 19 := ⟨by decide +kernel, rfl⟩
theorem aX7_takes_19 : At cX7_takes 19 (.istore_n 2) 1 20 := ⟨by decide +kernel, rfl⟩
theorem aX7_takes_20 : At cX7_takes 20 (.iload_n 2) 1 21 := ⟨by decide +kernel, rfl⟩
theorem aX7_takes_21 : At cX7_takes 21 (.aload_n 1) 1 22 := ⟨by decide +kernel, rfl⟩
theorem aX7_takes_22 : At cX7_takes 22 (.invokevirtual 28) 3 25 := ⟨by decide +kernel, rfl⟩
theorem aX7_takes_25 : Br cX7_takes 25 (.if_icmp .ge (30)) (30) 28 55 := ⟨by decide +kernel, rfl, by decide⟩
theorem aX7_takes_28 : At cX7_takes 28 (.aload_n 0) 1 29 := ⟨by decide +kernel, rfl⟩
theorem aX7_takes_29 : At cX7_takes 29 (.getfield 9) 3 32 := ⟨by decide +kernel, rfl⟩
theorem aX7_takes_32 : At cX7_takes 32 (.aload_n 0) 1 33 := ⟨by decide +kernel, rfl⟩
theorem aX7_takes_33 : At cX7_takes 33 (.getfield 25) 3 36 := ⟨by decide +kernel, rfl⟩
theorem aX7_takes_36 : At cX7_takes 36 (.iload_n 2) 1 37 := ⟨by decide +kernel, rfl⟩
theorem aX7_takes_37 : At cX7_takes 37 (.iadd) 1 38 := ⟨by decide +kernel, rfl⟩
theorem aX7_takes_38 : At cX7_takes 38 (.baload) 1 39 := ⟨by decide +kernel, rfl⟩
theorem aX7_takes_39 : At cX7_takes 39 (.aload_n 1) 1 40 := ⟨by decide +kernel, rfl⟩
theorem aX7_takes_40 : At cX7_takes 40 (.iload_n 2) 1 41 := ⟨by decide +kernel, rfl⟩
theorem aX7_takes_41 : At cX7_takes 41 (.invokevirtual 33) 3 44 := ⟨by decide +kernel, rfl⟩
theorem aX7_takes_44 : Br cX7_takes 44 (.if_icmp .eq (5)) (5) 47 49 := ⟨by decide +kernel, rfl, by decide⟩
theorem aX7_takes_47 : At cX7_takes 47 (.iconst 0) 1 48 := ⟨by decide +kernel, rfl⟩
theorem aX7_takes_48 : At cX7_takes 48 (.ireturn) 1 49 := ⟨by decide +kernel, rfl⟩
theorem aX7_takes_49 : At cX7_takes 49 (.iinc 2 1) 3 52 := ⟨by decide +kernel, rfl⟩
theorem aX7_takes_52 : Br cX7_takes 52 (.goto (-32)) (-32) 55 20 := ⟨by decide +kernel, rfl, by decide⟩
theorem aX7_takes_55 : At cX7_takes 55 (.aload_n 0) 1 56 := ⟨by decide +kernel, rfl⟩
theorem aX7_takes_56 : At cX7_takes 56 (.invokevirtual 22) 3 59 := ⟨by decide +kernel, rfl⟩
theorem aX7_takes_59 : At cX7_takes 59 (.iconst 1) 1 60 := ⟨by decide +kernel, rfl⟩
theorem aX7_takes_60 : At cX7_takes 60 (.ireturn) 1 61 := ⟨by decide +kernel, rfl⟩
theorem aX7_takeNumber_0 : At cX7_takeNumber 0 (.aload_n 0) 1 1 := ⟨by decide +kernel, rfl⟩
theorem aX7_takeNumber_1 : At cX7_takeNumber 1 (.invokevirtual 37) 3 4 := ⟨by decide +kernel, rfl⟩
theorem aX7_takeNumber_4 : Br cX7_takeNumber 4 (.ifCond .ne (18)) (18) 7 22 := ⟨by decide +kernel, rfl, by decide⟩
theorem aX7_takeNumber_7 : At cX7_takeNumber 7 (.aload_n 0) 1 8 := ⟨by decide +kernel, rfl⟩
theorem aX7_takeNumber_8 : At cX7_takeNumber 8 (.getfield 9) 3 11 := ⟨by decide +kernel, rfl⟩
theorem aX7_takeNumber_11 : At cX7_takeNumber 11 (.aload_n 0) 1 12 := ⟨by decide +kernel, rfl⟩
theorem aX7_takeNumber_12 : At cX7_takeNumber 12 (.getfield 25) 3 15 := ⟨by decide +kernel, rfl⟩
theorem aX7_takeNumber_15 : At cX7_takeNumber 15 (.baload) 1 16 := ⟨by decide +kernel, rfl⟩
theorem aX7_takeNumber_16 : At cX7_takeNumber 16 (.invokestatic 41) 3 19 := ⟨by decide +kernel, rfl⟩
theorem aX7_takeNumber_19 : Br cX7_takeNumber 19 (.ifCond .ne (7)) (7) 22 26 := ⟨by decide +kernel, rfl, by decide⟩
theorem aX7_takeNumber_22 : At cX7_takeNumber 22 (.iconst (-1)) 1 23 := ⟨by decide +kernel, rfl⟩
theorem aX7_takeNumber_23 : Br cX7_takeNumber 23 (.goto (7)) (7) 26 30 := ⟨by decide +kernel, rfl, by decide⟩
theorem aX7_takeNumber_26 : At cX7_takeNumber 26 (.aload_n 0) 1 27 := ⟨by decide +kernel, rfl⟩
theorem aX7_takeNumber_27 : At cX7_takeNumber 27 (.invokevirtual 45) 3 30 := ⟨by decide +kernel, rfl⟩
theorem aX7_takeNumber_30 : At cX7_takeNumber 30 (.istore 4) 2 32 := ⟨by decide +kernel, rfl⟩
theorem aX7_takeNumber_32 : At cX7_takeNumber 32 (.iload 4) 2 34 := ⟨by decide +kernel, rfl⟩
theorem aX7_takeNumber_34 : At cX7_takeNumber 34 (.iload_n 1) 1 35 := ⟨by decide +kernel, rfl⟩
theorem aX7_takeNumber_35 : Br cX7_takeNumber 35 (.if_icmp .lt (15)) (15) 38 50 := ⟨by decide +kernel, rfl, by decide⟩
theorem aX7_takeNumber_38 : At cX7_takeNumber 38 (.iload 4) 2 40 := ⟨by decide +kernel, rfl⟩
theorem aX7_takeNumber_40 : At cX7_takeNumber 40 (.iload_n 2) 1 41 := ⟨by decide +kernel, rfl⟩
theorem aX7_takeNumber_41 : Br cX7_takeNumber 41 (.if_icmp .gt (9)) (9) 44 50 := ⟨by decide +kernel, rfl, by decide⟩
theorem aX7_takeNumber_44 : At cX7_takeNumber 44 (.iload 4) 2 46 := ⟨by decide +kernel, rfl⟩
theorem aX7_takeNumber_46 : At cX7_takeNumber 46 (.iload_n 3) 1 47 := ⟨by decide +kernel, rfl⟩
theorem aX7_takeNumber_47 : Br cX7_takeNumber 47 (.if_icmp .ne (5)) (5) 50 52 := ⟨by decide +kernel, rfl, by decide⟩
theorem aX7_takeNumber_50 : At cX7_takeNumber 50 (.iconst (-1)) 1 51 := ⟨by decide +kernel, rfl⟩
theorem aX7_takeNumber_51 : At cX7_takeNumber 51 (.ireturn) 1 52 := ⟨by decide +kernel, rfl⟩
theorem aX7_takeNumber_52 : At cX7_takeNumber 52 (.aload_n 0) 1 53 := ⟨by decide +kernel, rfl⟩
theorem aX7_takeNumber_53 : At cX7_takeNumber 53 (.invokevirtual 22) 3 56 := ⟨by decide +kernel, rfl⟩
theorem aX7_takeNumber_56 : At cX7_takeNumber 56 (.iload 4) 2 58 := ⟨by decide +kernel, rfl⟩
theorem aX7_takeNumber_58 : At cX7_takeNumber 58 (.ireturn) 1 59 := ⟨by decide +kernel, rfl⟩
theorem aX7_tokenNumber_0 : At cX7_tokenNumber 0 (.iconst 0) 1 1 := ⟨by decide +kernel, rfl⟩
theorem aX7_tokenNumber_1 : At cX7_tokenNumber 1 (.istore_n 1) 1 2 := ⟨by decide +kernel, rfl⟩
theorem aX7_tokenNumber_2 : At cX7_tokenNumber 2 (.aload_n 0) 1 3 := ⟨by decide +kernel, rfl⟩
theorem aX7_tokenNumber_3 : At cX7_tokenNumber 3 (.getfield 25) 3 6 := ⟨by decide +kernel, rfl⟩
theorem aX7_tokenNumber_6 : At cX7_tokenNumber 6 (.istore_n 2) 1 7 := ⟨by decide +kernel, rfl⟩
theorem aX7_tokenNumber_7 : At cX7_tokenNumber 7 (.iload_n 2) 1 8 := ⟨by decide +kernel, rfl⟩
theorem aX7_tokenNumber_8 : At cX7_tokenNumber 8 (.aload_n 0) 1 9 := ⟨by decide +kernel, rfl⟩
theorem aX7_tokenNumber_9 : At cX7_tokenNumber 9 (.getfield 19) 3 12 := ⟨by decide +kernel, rfl⟩
theorem aX7_tokenNumber_12 : Br cX7_tokenNumber 12 (.if_icmp .ge (29)) (29) 15 41 := ⟨by decide +kernel, rfl, by decide⟩
theorem aX7_tokenNumber_15 : At cX7_tokenNumber 15 (.bipush 100) 2 17 := ⟨by decide +kernel, rfl⟩
theorem aX7_tokenNumber_17 : At cX7_tokenNumber 17 (.iload_n 1) 1 18 := ⟨by decide +kernel, rfl⟩
theorem aX7_tokenNumber_18 : At cX7_tokenNumber 18 (.bipush 10) 2 20 := ⟨by decide +kernel, rfl⟩
theorem aX7_tokenNumber_20 : At cX7_tokenNumber 20 (.imul) 1 21 := ⟨by decide +kernel, rfl⟩
theorem aX7_tokenNumber_21 : At cX7_tokenNumber 21 (.aload_n 0) 1 22 := ⟨by decide +kernel, rfl⟩
theorem aX7_tokenNumber_22 : At cX7_tokenNumber 22 (.getfield 9) 3 25 := ⟨by decide +kernel, rfl⟩
theorem aX7_tokenNumber_25 : At cX7_tokenNumber 25 (.iload_n 2) 1 26 := ⟨by decide +kernel, rfl⟩
theorem aX7_tokenNumber_26 : At cX7_tokenNumber 26 (.baload) 1 27 := ⟨by decide +kernel, rfl⟩
theorem aX7_tokenNumber_27 : At cX7_tokenNumber 27 (.iadd) 1 28 := ⟨by decide +kernel, rfl⟩
theorem aX7_tokenNumber_28 : At cX7_tokenNumber 28 (.bipush 48) 2 30 := ⟨by decide +kernel, rfl⟩
theorem aX7_tokenNumber_30 : At cX7_tokenNumber 30 (.isub) 1 31 := ⟨by decide +kernel, rfl⟩
theorem aX7_tokenNumber_31 : At cX7_tokenNumber 31 (.invokestatic 48) 3 34 := ⟨by decide +kernel, rfl⟩
theorem aX7_tokenNumber_34 : At cX7_tokenNumber 34 (.istore_n 1) 1 35 := ⟨by decide +kernel, rfl⟩
theorem aX7_tokenNumber_35 : At cX7_tokenNumber 35 (.iinc 2 1) 3 38 := ⟨by decide +kernel, rfl⟩
theorem aX7_tokenNumber_38 : Br cX7_tokenNumber 38 (.goto (-31)) (-31) 41 7 := ⟨by decide +kernel, rfl, by decide⟩
theorem aX7_tokenNumber_41 : At cX7_tokenNumber 41 (.iload_n 1) 1 42 := ⟨by decide +kernel, rfl⟩
theorem aX7_tokenNumber_42 : At cX7_tokenNumber 42 (.ireturn) 1 43 := ⟨by decide +kernel, rfl⟩
theorem aX7_step_0 : At cX7_step 0 (.aload_n 0) 1 1 := ⟨by decide +kernel, rfl⟩
theorem aX7_step_1 : At cX7_step 1 (.getfield 19) 3 4 := ⟨by decide +kernel, rfl⟩
theorem aX7_step_4 : At cX7_step 4 (.istore_n 1) 1 5 := ⟨by decide +kernel, rfl⟩
theorem aX7_step_5 : At cX7_step 5 (.iload_n 1) 1 6 := ⟨by decide +kernel, rfl⟩
theorem aX7_step_6 : At cX7_step 6 (.aload_n 0) 1 7 := ⟨by decide +kernel, rfl⟩
theorem aX7_step_7 : At cX7_step 7 (.getfield 15) 3 10 := ⟨by decide +kernel, rfl⟩
theorem aX7_step_10 : Br cX7_step 10 (.if_icmp .ge (20)) (20) 13 30 := ⟨by decide +kernel, rfl, by decide⟩
theorem aX7_step_13 : At cX7_step 13 (.aload_n 0) 1 14 := ⟨by decide +kernel, rfl⟩
theorem aX7_step_14 : At cX7_step 14 (.getfield 9) 3 17 := ⟨by decide +kernel, rfl⟩
theorem aX7_step_17 : At cX7_step 17 (.iload_n 1) 1 18 := ⟨by decide +kernel, rfl⟩
theorem aX7_step_18 : At cX7_step 18 (.baload) 1 19 := ⟨by decide +kernel, rfl⟩
theorem aX7_step_19 : At cX7_step 19 (.bipush 32) 2 21 := ⟨by decide +kernel, rfl⟩
theorem aX7_step_21 : Br cX7_step 21 (.if_icmp .ne (9)) (9) 24 30 := ⟨by decide +kernel, rfl, by decide⟩
theorem aX7_step_24 : At cX7_step 24 (.iinc 1 1) 3 27 := ⟨by decide +kernel, rfl⟩
theorem aX7_step_27 : Br cX7_step 27 (.goto (-22)) (-22) 30 5 := ⟨by decide +kernel, rfl, by decide⟩
theorem aX7_step_30 : At cX7_step 30 (.aload_n 0) 1 31 := ⟨by decide +kernel, rfl⟩
theorem aX7_step_31 : At cX7_step 31 (.iload_n 1) 1 32 := ⟨by decide +kernel, rfl⟩
theorem aX7_step_32 : At cX7_step 32 (.putfield 25) 3 35 := ⟨by decide +kernel, rfl⟩
theorem aX7_step_35 : At cX7_step 35 (.aload_n 0) 1 36 := ⟨by decide +kernel, rfl⟩
theorem aX7_step_36 : At cX7_step 36 (.iload_n 1) 1 37 := ⟨by decide +kernel, rfl⟩
theorem aX7_step_37 : At cX7_step 37 (.aload_n 0) 1 38 := ⟨by decide +kernel, rfl⟩
theorem aX7_step_38 : At cX7_step 38 (.getfield 15) 3 41 := ⟨by decide +kernel, rfl⟩
theorem aX7_step_41 : Br cX7_step 41 (.if_icmp .ge (9)) (9) 44 50 := ⟨by decide +kernel, rfl, by decide⟩
theorem aX7_step_44 : At cX7_step 44 (.iload_n 1) 1 45 := ⟨by decide +kernel, rfl⟩
theorem aX7_step_45 : At cX7_step 45 (.iconst 1) 1 46 := ⟨by decide +kernel, rfl⟩
theorem aX7_step_46 : At cX7_step 46 (.iadd) 1 47 := ⟨by decide +kernel, rfl⟩
theorem aX7_step_47 : Br cX7_step 47 (.goto (4)) (4) 50 51 := ⟨by decide +kernel, rfl, by decide⟩
theorem aX7_step_50 : At cX7_step 50 (.iload_n 1) 1 51 := ⟨by decide +kernel, rfl⟩
theorem aX7_step_51 : At cX7_step 51 (.putfield 19) 3 54 := ⟨by decide +kernel, rfl⟩
theorem aX7_step_54 : At cX7_step 54 (.iload_n 1) 1 55 := ⟨by decide +kernel, rfl⟩
theorem aX7_step_55 : At cX7_step 55 (.aload_n 0) 1 56 := ⟨by decide +kernel, rfl⟩
theorem aX7_step_56 : At cX7_step 56 (.getfield 15) 3 59 := ⟨by decide +kernel, rfl⟩
theorem aX7_step_59 : Br cX7_step 59 (.if_icmp .ge (54)) (54) 62 113 := ⟨by decide +kernel, rfl, by decide⟩
theorem aX7_step_62 : At cX7_step 62 (.aload_n 0) 1 63 := ⟨by decide +kernel, rfl⟩
theorem aX7_step_63 : At cX7_step 63 (.getfield 9) 3 66 := ⟨by decide +kernel, rfl⟩
theorem aX7_step_66 : At cX7_step 66 (.iload_n 1) 1 67 := ⟨by decide +kernel, rfl⟩
theorem aX7_step_67 : At cX7_step 67 (.baload) 1 68 := ⟨by decide +kernel, rfl⟩
theorem aX7_step_68 : At cX7_step 68 (.invokestatic 54) 3 71 := ⟨by decide +kernel, rfl⟩
theorem aX7_step_71 : Br cX7_step 71 (.ifCond .eq (42)) (42) 74 113 := ⟨by decide +kernel, rfl, by decide⟩
theorem aX7_step_74 : At cX7_step 74 (.aload_n 0) 1 75 := ⟨by decide +kernel, rfl⟩
theorem aX7_step_75 : At cX7_step 75 (.getfield 19) 3 78 := ⟨by decide +kernel, rfl⟩
theorem aX7_step_78 : At cX7_step 78 (.aload_n 0) 1 79 := ⟨by decide +kernel, rfl⟩
theorem aX7_step_79 : At cX7_step 79 (.getfield 15) 3 82 := ⟨by decide +kernel, rfl⟩
theorem aX7_step_82 : Br cX7_step 82 (.if_icmp .ge (90)) (90) 85 172 := ⟨by decide +kernel, rfl, by decide⟩
theorem aX7_step_85 : At cX7_step 85 (.aload_n 0) 1 86 := ⟨by decide +kernel, rfl⟩
theorem aX7_step_86 : At cX7_step 86 (.getfield 9) 3 89 := ⟨by decide +kernel, rfl⟩
theorem aX7_step_89 : At cX7_step 89 (.aload_n 0) 1 90 := ⟨by decide +kernel, rfl⟩
theorem aX7_step_90 : At cX7_step 90 (.getfield 19) 3 93 := ⟨by decide +kernel, rfl⟩
theorem aX7_step_93 : At cX7_step 93 (.baload) 1 94 := ⟨by decide +kernel, rfl⟩
theorem aX7_step_94 : At cX7_step 94 (.invokestatic 54) 3 97 := ⟨by decide +kernel, rfl⟩
theorem aX7_step_97 : Br cX7_step 97 (.ifCond .eq (75)) (75) 100 172 := ⟨by decide +kernel, rfl, by decide⟩
theorem aX7_step_100 : At cX7_step 100 (.aload_n 0) 1 101 := ⟨by decide +kernel, rfl⟩
theorem aX7_step_101 : At cX7_step 101 (.dup) 1 102 := ⟨by decide +kernel, rfl⟩
theorem aX7_step_102 : At cX7_step 102 (.getfield 19) 3 105 := ⟨by decide +kernel, rfl⟩
theorem aX7_step_105 : At cX7_step 105 (.iconst 1) 1 106 := ⟨by decide +kernel, rfl⟩
theorem aX7_step_106 : At cX7_step 106 (.iadd) 1 107 := ⟨by decide +kernel, rfl⟩
theorem aX7_step_107 : At cX7_step 107 (.putfield 19) 3 110 := ⟨by decide +kernel, rfl⟩
theorem aX7_step_110 : Br cX7_step 110 (.goto (-36)) (-36) 113 74 := ⟨by decide +kernel, rfl, by decide⟩
theorem aX7_step_113 : At cX7_step 113 (.iload_n 1) 1 114 := ⟨by decide +kernel, rfl⟩
theorem aX7_step_114 : At cX7_step 114 (.aload_n 0) 1 115 := ⟨by decide +kernel, rfl⟩
theorem aX7_step_115 : At cX7_step 115 (.getfield 15) 3 118 := ⟨by decide +kernel, rfl⟩
theorem aX7_step_118 : Br cX7_step 118 (.if_icmp .ge (54)) (54) 121 172 := ⟨by decide +kernel, rfl, by decide⟩
theorem aX7_step_121 : At cX7_step 121 (.aload_n 0) 1 122 := ⟨by decide +kernel, rfl⟩
theorem aX7_step_122 : At cX7_step 122 (.getfield 9) 3 125 := ⟨by decide +kernel, rfl⟩
theorem aX7_step_125 : At cX7_step 125 (.iload_n 1) 1 126 := ⟨by decide +kernel, rfl⟩
theorem aX7_step_126 : At cX7_step 126 (.baload) 1 127 := ⟨by decide +kernel, rfl⟩
theorem aX7_step_127 : At cX7_step 127 (.invokestatic 41) 3 130 := ⟨by decide +kernel, rfl⟩
theorem aX7_step_130 : Br cX7_step 130 (.ifCond .eq (42)) (42) 133 172 := ⟨by decide +kernel, rfl, by decide⟩
theorem aX7_step_133 : At cX7_step 133 (.aload_n 0) 1 134 := ⟨by decide +kernel, rfl⟩
theorem aX7_step_134 : At cX7_step 134 (.getfield 19) 3 137 := ⟨by decide +kernel, rfl⟩
theorem aX7_step_137 : At cX7_step 137 (.aload_n 0) 1 138 := ⟨by decide +kernel, rfl⟩
theorem aX7_step_138 : At cX7_step 138 (.getfield 15) 3 141 := ⟨by decide +kernel, rfl⟩
theorem aX7_step_141 : Br cX7_step 141 (.if_icmp .ge (31)) (31) 144 172 := ⟨by decide +kernel, rfl, by decide⟩
theorem aX7_step_144 : At cX7_step 144 (.aload_n 0) 1 145 := ⟨by decide +kernel, rfl⟩
theorem aX7_step_145 : At cX7_step 145 (.getfield 9) 3 148 := ⟨by decide +kernel, rfl⟩
theorem aX7_step_148 : At cX7_step 148 (.aload_n 0) 1 149 := ⟨by decide +kernel, rfl⟩
theorem aX7_step_149 : At cX7_step 149 (.getfield 19) 3 152 := ⟨by decide +kernel, rfl⟩
theorem aX7_step_152 : At cX7_step 152 (.baload) 1 153 := ⟨by decide +kernel, rfl⟩
theorem aX7_step_153 : At cX7_step 153 (.invokestatic 41) 3 156 := ⟨by decide +kernel, rfl⟩
theorem aX7_step_156 : Br cX7_step 156 (.ifCond .eq (16)) (16) 159 172 := ⟨by decide +kernel, rfl, by decide⟩
theorem aX7_step_159 : At cX7_step 159 (.aload_n 0) 1 160 := ⟨by decide +kernel, rfl⟩
theorem aX7_step_160 : At cX7_step 160 (.dup) 1 161 := ⟨by decide +kernel, rfl⟩
theorem aX7_step_161 : At cX7_step 161 (.getfield 19) 3 164 := ⟨by decide +kernel, rfl⟩
theorem aX7_step_164 : At cX7_step 164 (.iconst 1) 1 165 := ⟨by decide +kernel, rfl⟩
theorem aX7_step_165 : At cX7_step 165 (.iadd) 1 166 := ⟨by decide +kernel, rfl⟩
theorem aX7_step_166 : At cX7_step 166 (.putfield 19) 3 169 := ⟨by decide +kernel, rfl⟩
theorem aX7_step_169 : Br cX7_step 169 (.goto (-36)) (-36) 172 133 := ⟨by decide +kernel, rfl, by decide⟩
theorem aX7_step_172 : At cX7_step 172 (.return_) 1 173 := ⟨by decide +kernel, rfl⟩
theorem aX7_isLetter_0 : At cX7_isLetter 0 (.iload_n 0) 1 1 := ⟨by decide +kernel, rfl⟩
theorem aX7_isLetter_1 : At cX7_isLetter 1 (.bipush 97) 2 3 := ⟨by decide +kernel, rfl⟩
theorem aX7_isLetter_3 : Br cX7_isLetter 3 (.if_icmp .lt (13)) (13) 6 16 := ⟨by decide +kernel, rfl, by decide⟩
theorem aX7_isLetter_6 : At cX7_isLetter 6 (.iload_n 0) 1 7 := ⟨by decide +kernel, rfl⟩
theorem aX7_isLetter_7 : At cX7_isLetter 7 (.bipush 122) 2 9 := ⟨by decide +kernel, rfl⟩
theorem aX7_isLetter_9 : Br cX7_isLetter 9 (.if_icmp .gt (7)) (7) 12 16 := ⟨by decide +kernel, rfl, by decide⟩
theorem aX7_isLetter_12 : At cX7_isLetter 12 (.iconst 1) 1 13 := ⟨by decide +kernel, rfl⟩
theorem aX7_isLetter_13 : Br cX7_isLetter 13 (.goto (4)) (4) 16 17 := ⟨by decide +kernel, rfl, by decide⟩
theorem aX7_isLetter_16 : At cX7_isLetter 16 (.iconst 0) 1 17 := ⟨by decide +kernel, rfl⟩
theorem aX7_isLetter_17 : At cX7_isLetter 17 (.ireturn) 1 18 := ⟨by decide +kernel, rfl⟩
theorem aX7_isDigit_0 : At cX7_isDigit 0 (.iload_n 0) 1 1 := ⟨by decide +kernel, rfl⟩
theorem aX7_isDigit_1 : At cX7_isDigit 1 (.bipush 48) 2 3 := ⟨by decide +kernel, rfl⟩
theorem aX7_isDigit_3 : Br cX7_isDigit 3 (.if_icmp .lt (13)) (13) 6 16 := ⟨by decide +kernel, rfl, by decide⟩
theorem aX7_isDigit_6 : At cX7_isDigit 6 (.iload_n 0) 1 7 := ⟨by decide +kernel, rfl⟩
theorem aX7_isDigit_7 : At cX7_isDigit 7 (.bipush 57) 2 9 := ⟨by decide +kernel, rfl⟩
theorem aX7_isDigit_9 : Br cX7_isDigit 9 (.if_icmp .gt (7)) (7) 12 16 := ⟨by decide +kernel, rfl, by decide⟩
theorem aX7_isDigit_12 : At cX7_isDigit 12 (.iconst 1) 1 13 := ⟨by decide +kernel, rfl⟩
theorem aX7_isDigit_13 : Br cX7_isDigit 13 (.goto (4)) (4) 16 17 := ⟨by decide +kernel, rfl, by decide⟩
theorem aX7_isDigit_16 : At cX7_isDigit 16 (.iconst 0) 1 17 := ⟨by decide +kernel, rfl⟩
theorem aX7_isDigit_17 : At cX7_isDigit 17 (.ireturn) 1 18 := ⟨by decide +kernel, rfl⟩
theorem aJ9_min_7cf53_0 : At cJ9_min_7cf53 0 (.iload_n 0) 1 1 := ⟨by decide +kernel, rfl⟩
theorem aJ9_min_7cf53_1 : At cJ9_min_7cf53 1 (.iload_n 1) 1 2 := ⟨by decide +kernel, rfl⟩
theorem aJ9_min_7cf53_2 : Br cJ9_min_7cf53 2 (.if_icmp .gt (7)) (7) 5 9 := ⟨by decide +kernel, rfl, by decide⟩
theorem aJ9_min_7cf53_5 : At cJ9_min_7cf53 5 (.iload_n 0) 1 6 := ⟨by decide +kernel, rfl⟩
theorem aJ9_min_7cf53_6 : Br cJ9_min_7cf53 6 (.goto (4)) (4) 9 10 := ⟨by decide +kernel, rfl, by decide⟩
theorem aJ9_min_7cf53_9 : At cJ9_min_7cf53 9 (.iload_n 1) 1 10 := ⟨by decide +kernel, rfl⟩
theorem aJ9_min_7cf53_10 : At cJ9_min_7cf53 10 (.ireturn) 1 11 := ⟨by decide +kernel, rfl⟩
theorem aJ0_length_8abf5_0 : At cJ0_length_8abf5 0 (.aload_n 0) 1 1 := ⟨by decide +kernel, rfl⟩
theorem aJ0_length_8abf5_1 : At cJ0_length_8abf5 1 (.getfield 9) 3 4 := ⟨by decide +kernel, rfl⟩
theorem aJ0_length_8abf5_4 : At cJ0_length_8abf5 4 (.arraylength) 1 5 := ⟨by decide +kernel, rfl⟩
theorem aJ0_length_8abf5_5 : At cJ0_length_8abf5 5 (.aload_n 0) 1 6 := ⟨by decide +kernel, rfl⟩
theorem aJ0_length_8abf5_6 : At cJ0_length_8abf5 6 (.invokevirtual 335) 3 9 := ⟨by decide +kernel, rfl⟩
theorem aJ0_length_8abf5_9 : At cJ0_length_8abf5 9 (.ishr) 1 10 := ⟨by decide +kernel, rfl⟩
theorem aJ0_length_8abf5_10 : At cJ0_length_8abf5 10 (.ireturn) 1 11 := ⟨by decide +kernel, rfl⟩
theorem aJ0_charAt_5068e_0 : At cJ0_charAt_5068e 0 (.aload_n 0) 1 1 := ⟨by decide +kernel, rfl⟩
theorem aJ0_charAt_5068e_1 : At cJ0_charAt_5068e 1 (.invokevirtual 492) 3 4 := ⟨by decide +kernel, rfl⟩
theorem aJ0_charAt_5068e_4 : Br cJ0_charAt_5068e 4 (.ifCond .eq (12)) (12) 7 16 := ⟨by decide +kernel, rfl, by decide⟩
theorem aJ0_charAt_5068e_7 : At cJ0_charAt_5068e 7 (.aload_n 0) 1 8 := ⟨by decide +kernel, rfl⟩
theorem aJ0_charAt_5068e_8 : At cJ0_charAt_5068e 8 (.getfield 9) 3 11 := ⟨by decide +kernel, rfl⟩
theorem aJ0_charAt_5068e_11 : At cJ0_charAt_5068e 11 (.iload_n 1) 1 12 := ⟨by decide +kernel, rfl⟩
theorem aJ0_charAt_5068e_12 : At cJ0_charAt_5068e 12 (.invokestatic 495) 3 15 := ⟨by decide +kernel, rfl⟩
theorem aJ0_charAt_5068e_15 : At cJ0_charAt_5068e 15 (.ireturn) 1 16 := ⟨by decide +kernel, rfl⟩
theorem aJ0_charAt_5068e_16 : At cJ0_charAt_5068e 16 (.aload_n 0) 1 17 := ⟨by decide +kernel, rfl⟩
theorem aJ0_charAt_5068e_17 : At cJ0_charAt_5068e 17 (.getfield 9) 3 20 := ⟨by decide +kernel, rfl⟩
theorem aJ0_charAt_5068e_20 : At cJ0_charAt_5068e 20 (.iload_n 1) 1 21 := ⟨by decide +kernel, rfl⟩
theorem aJ0_charAt_5068e_21 : At cJ0_charAt_5068e 21 (.invokestatic 498) 3 24 := ⟨by decide +kernel, rfl⟩
theorem aJ0_charAt_5068e_24 : At cJ0_charAt_5068e 24 (.ireturn) 1 25 := ⟨by decide +kernel, rfl⟩
theorem aJ0_coder_7d493_0 : At cJ0_coder_7d493 0 (.getstatic 38) 3 3 := ⟨by decide +kernel, rfl⟩
theorem aJ0_coder_7d493_3 : Br cJ0_coder_7d493 3 (.ifCond .eq (10)) (10) 6 13 := ⟨by decide +kernel, rfl, by decide⟩
theorem aJ0_coder_7d493_6 : At cJ0_coder_7d493 6 (.aload_n 0) 1 7 := ⟨by decide +kernel, rfl⟩
theorem aJ0_coder_7d493_7 : At cJ0_coder_7d493 7 (.getfield 15) 3 10 := ⟨by decide +kernel, rfl⟩
theorem aJ0_coder_7d493_10 : Br cJ0_coder_7d493 10 (.goto (4)) (4) 13 14 := ⟨by decide +kernel, rfl, by decide⟩
theorem aJ0_coder_7d493_13 : At cJ0_coder_7d493 13 (.iconst 1) 1 14 := ⟨by decide +kernel, rfl⟩
theorem aJ0_coder_7d493_14 : At cJ0_coder_7d493 14 (.ireturn) 1 15 := ⟨by decide +kernel, rfl⟩
theorem aJ0_isLatin1_aae02_0 : At cJ0_isLatin1_aae02 0 (.getstatic 38) 3 3 := ⟨by decide +kernel, rfl⟩
theorem aJ0_isLatin1_aae02_3 : Br cJ0_isLatin1_aae02 3 (.ifCond .eq (14)) (14) 6 17 := ⟨by decide +kernel, rfl, by decide⟩
theorem aJ0_isLatin1_aae02_6 : At cJ0_isLatin1_aae02 6 (.aload_n 0) 1 7 := ⟨by decide +kernel, rfl⟩
theorem aJ0_isLatin1_aae02_7 : At cJ0_isLatin1_aae02 7 (.getfield 15) 3 10 := ⟨by decide +kernel, rfl⟩
theorem aJ0_isLatin1_aae02_10 : Br cJ0_isLatin1_aae02 10 (.ifCond .ne (7)) (7) 13 17 := ⟨by decide +kernel, rfl, by decide⟩
theorem aJ0_isLatin1_aae02_13 : At cJ0_isLatin1_aae02 13 (.iconst 1) 1 14 := ⟨by decide +kernel, rfl⟩
theorem aJ0_isLatin1_aae02_14 : Br cJ0_isLatin1_aae02 14 (.goto (4)) (4) 17 18 := ⟨by decide +kernel, rfl, by decide⟩
theorem aJ0_isLatin1_aae02_17 : At cJ0_isLatin1_aae02 17 (.iconst 0) 1 18 := ⟨by decide +kernel, rfl⟩
theorem aJ0_isLatin1_aae02_18 : At cJ0_isLatin1_aae02 18 (.ireturn) 1 19 := ⟨by decide +kernel, rfl⟩
theorem aJ0_checkIndex_df160_0 : At cJ0_checkIndex_df160 0 (.iload_n 0) 1 1 := ⟨by decide +kernel, rfl⟩
theorem aJ0_checkIndex_df160_1 : At cJ0_checkIndex_df160 1 (.iload_n 1) 1 2 := ⟨by decide +kernel, rfl⟩
theorem aJ0_checkIndex_df160_2 : At cJ0_checkIndex_df160 2 (.getstatic 1053) 3 5 := ⟨by decide +kernel, rfl⟩
theorem aJ0_checkIndex_df160_5 : At cJ0_checkIndex_df160 5 (.invokestatic 1059) 3 8 := ⟨by decide +kernel, rfl⟩
theorem aJ0_checkIndex_df160_8 : At cJ0_checkIndex_df160 8 (.pop) 1 9 := ⟨by decide +kernel, rfl⟩
theorem aJ0_checkIndex_df160_9 : At cJ0_checkIndex_df160 9 (.return_) 1 10 := ⟨by decide +kernel, rfl⟩
theorem aJ1_charAt_3b067_0 : At cJ1_charAt_3b067 0 (.iload_n 1) 1 1 := ⟨by decide +kernel, rfl⟩
theorem aJ1_charAt_3b067_1 : At cJ1_charAt_3b067 1 (.aload_n 0) 1 2 := ⟨by decide +kernel, rfl⟩
theorem aJ1_charAt_3b067_2 : At cJ1_charAt_3b067 2 (.arraylength) 1 3 := ⟨by decide +kernel, rfl⟩
theorem aJ1_charAt_3b067_3 : At cJ1_charAt_3b067 3 (.invokestatic 9) 3 6 := ⟨by decide +kernel, rfl⟩
theorem aJ1_charAt_3b067_6 : At cJ1_charAt_3b067 6 (.aload_n 0) 1 7 := ⟨by decide +kernel, rfl⟩
theorem aJ1_charAt_3b067_7 : At cJ1_charAt_3b067 7 (.iload_n 1) 1 8 := ⟨by decide +kernel, rfl⟩
theorem aJ1_charAt_3b067_8 : At cJ1_charAt_3b067 8 (.baload) 1 9 := ⟨by decide +kernel, rfl⟩
theorem aJ1_charAt_3b067_9 : At cJ1_charAt_3b067 9 (.sipush 255) 3 12 := ⟨by decide +kernel, rfl⟩
theorem aJ1_charAt_3b067_12 : At cJ1_charAt_3b067 12 (.iand) 1 13 := ⟨by decide +kernel, rfl⟩
theorem aJ1_charAt_3b067_13 : At cJ1_charAt_3b067 13 (.i2c) 1 14 := ⟨by decide +kernel, rfl⟩
theorem aJ1_charAt_3b067_14 : At cJ1_charAt_3b067 14 (.ireturn) 1 15 := ⟨by decide +kernel, rfl⟩
theorem aJ2_getChar_3b067_0 : At cJ2_getChar_3b067 0 (.getstatic 44) 3 3 := ⟨by decide +kernel, rfl⟩
theorem aJ2_getChar_3b067_3 : Br cJ2_getChar_3b067 3 (.ifCond .ne (25)) (25) 6 28 := ⟨by decide +kernel, rfl, by decide⟩
theorem aJ2_getChar_3b067_6 : At cJ2_getChar_3b067 6 (.iload_n 1) 1 7 := ⟨by decide +kernel, rfl⟩
theorem aJ2_getChar_3b067_7 : Br cJ2_getChar_3b067 7 (.ifCond .lt (11)) (11) 10 18 := ⟨by decide +kernel, rfl, by decide⟩
theorem aJ2_getChar_3b067_10 : At cJ2_getChar_3b067 10 (.iload_n 1) 1 11 := ⟨by decide +kernel, rfl⟩
theorem aJ2_getChar_3b067_11 : At cJ2_getChar_3b067 11 (.aload_n 0) 1 12 := ⟨by decide +kernel, rfl⟩
theorem aJ2_getChar_3b067_12 : At cJ2_getChar_3b067 12 (.invokestatic 48) 3 15 := ⟨by decide +kernel, rfl⟩
theorem aJ2_getChar_3b067_15 : Br cJ2_getChar_3b067 15 (.if_icmp .lt (13)) (13) 18 28 := ⟨by decide +kernel, rfl, by decide⟩
theorem aJ2_getChar_3b067_18 : At cJ2_getChar_3b067 18 (.new 52) 3 21 := ⟨by decide +kernel, rfl⟩
theorem aJ2_getChar_3b067_21 : At cJ2_getChar_3b067 21 (.dup) 1 22 := ⟨by decide +kernel, rfl⟩
theorem aJ2_getChar_3b067_22 : At cJ2_getChar_3b067 22 (.ldc 54) 2 24 := ⟨by decide +kernel, rfl⟩
theorem aJ2_getChar_3b067_24 : At cJ2_getChar_3b067 24 (.invokespecial 56) 3 27 := ⟨by decide +kernel, rfl⟩
theorem aJ2_getChar_3b067_27 : At cJ2_getChar_3b067 27 (.athrow) 1 28 := ⟨by decide +kernel, rfl⟩
theorem aJ2_getChar_3b067_28 : At cJ2_getChar_3b067 28 (.iload_n 1) 1 29 := ⟨by decide +kernel, rfl⟩
theorem aJ2_getChar_3b067_29 : At cJ2_getChar_3b067 29 (.iconst 1) 1 30 := ⟨by decide +kernel, rfl⟩
theorem aJ2_getChar_3b067_30 : At cJ2_getChar_3b067 30 (.ishl) 1 31 := ⟨by decide +kernel, rfl⟩
theorem aJ2_getChar_3b067_31 : At cJ2_getChar_3b067 31 (.istore_n 1) 1 32 := ⟨by decide +kernel, rfl⟩
theorem aJ2_getChar_3b067_32 : At cJ2_getChar_3b067 32 (.aload_n 0) 1 33 := ⟨by decide +kernel, rfl⟩
theorem aJ2_getChar_3b067_33 : At cJ2_getChar_3b067 33 (.iload_n 1) 1 34 := ⟨by decide +kernel, rfl⟩
theorem aJ2_getChar_3b067_34 : At cJ2_getChar_3b067 34 (.iinc 1 1) 3 37 := ⟨by decide +kernel, rfl⟩
theorem aJ2_getChar_3b067_37 : At cJ2_getChar_3b067 37 (.baload) 1 38 := ⟨by decide +kernel, rfl⟩
theorem aJ2_getChar_3b067_38 : At cJ2_getChar_3b067 38 (.sipush 255) 3 41 := ⟨by decide +kernel, rfl⟩
theorem aJ2_getChar_3b067_41 : At cJ2_getChar_3b067 41 (.iand) 1 42 := ⟨by decide +kernel, rfl⟩
theorem aJ2_getChar_3b067_42 : At cJ2_getChar_3b067 42 (.getstatic 59) 3 45 := ⟨by decide +kernel, rfl⟩
theorem aJ2_getChar_3b067_45 : At cJ2_getChar_3b067 45 (.ishl) 1 46 := ⟨by decide +kernel, rfl⟩
theorem aJ2_getChar_3b067_46 : At cJ2_getChar_3b067 46 (.aload_n 0) 1 47 := ⟨by decide +kernel, rfl⟩
theorem aJ2_getChar_3b067_47 : At cJ2_getChar_3b067 47 (.iload_n 1) 1 48 := ⟨by decide +kernel, rfl⟩
theorem aJ2_getChar_3b067_48 : At cJ2_getChar_3b067 48 (.baload) 1 49 := ⟨by decide +kernel, rfl⟩
theorem aJ2_getChar_3b067_49 : At cJ2_getChar_3b067 49 (.sipush 255) 3 52 := ⟨by decide +kernel, rfl⟩
theorem aJ2_getChar_3b067_52 : At cJ2_getChar_3b067 52 (.iand) 1 53 := ⟨by decide +kernel, rfl⟩
theorem aJ2_getChar_3b067_53 : At cJ2_getChar_3b067 53 (.getstatic 63) 3 56 := ⟨by decide +kernel, rfl⟩
theorem aJ2_getChar_3b067_56 : At cJ2_getChar_3b067 56 (.ishl) 1 57 := ⟨by decide +kernel, rfl⟩
theorem aJ2_getChar_3b067_57 : At cJ2_getChar_3b067 57 (.ior) 1 58 := ⟨by decide +kernel, rfl⟩
theorem aJ2_getChar_3b067_58 : At cJ2_getChar_3b067 58 (.i2c) 1 59 := ⟨by decide +kernel, rfl⟩
theorem aJ2_getChar_3b067_59 : At cJ2_getChar_3b067 59 (.ireturn) 1 60 := ⟨by decide +kernel, rfl⟩
theorem aJ2_length_9d52b_0 : At cJ2_length_9d52b 0 (.aload_n 0) 1 1 := ⟨by decide +kernel, rfl⟩
theorem aJ2_length_9d52b_1 : At cJ2_length_9d52b 1 (.arraylength) 1 2 := ⟨by decide +kernel, rfl⟩
theorem aJ2_length_9d52b_2 : At cJ2_length_9d52b 2 (.iconst 1) 1 3 := ⟨by decide +kernel, rfl⟩
theorem aJ2_length_9d52b_3 : At cJ2_length_9d52b 3 (.ishr) 1 4 := ⟨by decide +kernel, rfl⟩
theorem aJ2_length_9d52b_4 : At cJ2_length_9d52b 4 (.ireturn) 1 5 := ⟨by decide +kernel, rfl⟩
theorem aJ2_charAt_3b067_0 : At cJ2_charAt_3b067 0 (.iload_n 1) 1 1 := ⟨by decide +kernel, rfl⟩
theorem aJ2_charAt_3b067_1 : At cJ2_charAt_3b067 1 (.aload_n 0) 1 2 := ⟨by decide +kernel, rfl⟩
theorem aJ2_charAt_3b067_2 : At cJ2_charAt_3b067 2 (.invokestatic 67) 3 5 := ⟨by decide +kernel, rfl⟩
theorem aJ2_charAt_3b067_5 : At cJ2_charAt_3b067 5 (.aload_n 0) 1 6 := ⟨by decide +kernel, rfl⟩
theorem aJ2_charAt_3b067_6 : At cJ2_charAt_3b067 6 (.iload_n 1) 1 7 := ⟨by decide +kernel, rfl⟩
theorem aJ2_charAt_3b067_7 : At cJ2_charAt_3b067 7 (.invokestatic 71) 3 10 := ⟨by decide +kernel, rfl⟩
theorem aJ2_charAt_3b067_10 : At cJ2_charAt_3b067 10 (.ireturn) 1 11 := ⟨by decide +kernel, rfl⟩
theorem aJ2_checkIndex_2214a_0 : At cJ2_checkIndex_2214a 0 (.iload_n 0) 1 1 := ⟨by decide +kernel, rfl⟩
theorem aJ2_checkIndex_2214a_1 : At cJ2_checkIndex_2214a 1 (.aload_n 1) 1 2 := ⟨by decide +kernel, rfl⟩
theorem aJ2_checkIndex_2214a_2 : At cJ2_checkIndex_2214a 2 (.invokestatic 48) 3 5 := ⟨by decide +kernel, rfl⟩
theorem aJ2_checkIndex_2214a_5 : At cJ2_checkIndex_2214a 5 (.invokestatic 414) 3 8 := ⟨by decide +kernel, rfl⟩
theorem aJ2_checkIndex_2214a_8 : At cJ2_checkIndex_2214a 8 (.return_) 1 9 := ⟨by decide +kernel, rfl⟩
theorem aJ3_checkIndex_8e157_0 : At cJ3_checkIndex_8e157 0 (.iload_n 0) 1 1 := ⟨by decide +kernel, rfl⟩
theorem aJ3_checkIndex_8e157_1 : Br cJ3_checkIndex_8e157 1 (.ifCond .lt (8)) (8) 4 9 := ⟨by decide +kernel, rfl, by decide⟩
theorem aJ3_checkIndex_8e157_4 : At cJ3_checkIndex_8e157 4 (.iload_n 0) 1 5 := ⟨by decide +kernel, rfl⟩
theorem aJ3_checkIndex_8e157_5 : At cJ3_checkIndex_8e157 5 (.iload_n 1) 1 6 := ⟨by decide +kernel, rfl⟩
theorem aJ3_checkIndex_8e157_6 : Br cJ3_checkIndex_8e157 6 (.if_icmp .lt (10)) (10) 9 16 := ⟨by decide +kernel, rfl, by decide⟩
theorem aJ3_checkIndex_8e157_9 : At cJ3_checkIndex_8e157 9 (.aload_n 2) 1 10 := ⟨by decide +kernel, rfl⟩
theorem aJ3_checkIndex_8e157_10 : At cJ3_checkIndex_8e157 10 (.iload_n 0) 1 11 := ⟨by decide +kernel, rfl⟩
theorem aJ3_checkIndex_8e157_11 : At cJ3_checkIndex_8e157 11 (.iload_n 1) 1 12 := ⟨by decide +kernel, rfl⟩
theorem aJ3_checkIndex_8e157_12 : At cJ3_checkIndex_8e157 12 (.invokestatic 95) 3 15 := ⟨by decide +kernel, rfl⟩
theorem aJ3_checkIndex_8e157_15 : At cJ3_checkIndex_8e157 15 (.athrow) 1 16 := ⟨by decide +kernel, rfl⟩
theorem aJ3_checkIndex_8e157_16 : At cJ3_checkIndex_8e157 16 (.iload_n 0) 1 17 := ⟨by decide +kernel, rfl⟩
theorem aJ3_checkIndex_8e157_17 : At cJ3_checkIndex_8e157 17 (.ireturn) 1 18 := ⟨by decide +kernel, rfl⟩
end
section
/-! decode rows: RolledPicks -/
theorem aX8_init_0 : At cX8_init 0 (.aload_n 0) 1 1 := ⟨by decide +kernel, rfl⟩
theorem aX8_init_1 : At cX8_init 1 (.invokespecial 1) 3 4 := ⟨by decide +kernel, rfl⟩
theorem aX8_init_4 : At cX8_init 4 (.aload_n 0) 1 5 := ⟨by decide +kernel, rfl⟩
theorem aX8_init_5 : At cX8_init 5 (.new 7) 3 8 := ⟨by decide +kernel, rfl⟩
theorem aX8_init_8 : At cX8_init 8 (.dup) 1 9 := ⟨by decide +kernel, rfl⟩
theorem aX8_init_9 : At cX8_init 9 (.invokespecial 9) 3 12 := ⟨by decide +kernel, rfl⟩
theorem aX8_init_12 : At cX8_init 12 (.putfield 10) 3 15 := ⟨by decide +kernel, rfl⟩
theorem aX8_init_15 : At cX8_init 15 (.aload_n 0) 1 16 := ⟨by decide +kernel, rfl⟩
theorem aX8_init_16 : At cX8_init 16 (.bipush 6) 2 18 := ⟨by decide +kernel, rfl⟩
theorem aX8_init_18 : At cX8_init 18 (.anewarray 7) 3 21 := ⟨by decide +kernel, rfl⟩
theorem aX8_init_21 : At cX8_init 21 (.putfield 16) 3 24 := ⟨by decide +kernel, rfl⟩
theorem aX8_init_24 : At cX8_init 24 (.aload_n 0) 1 25 := ⟨by decide +kernel, rfl⟩
theorem aX8_init_25 : At cX8_init 25 (.new 20) 3 28 := ⟨by decide +kernel, rfl⟩
theorem aX8_init_28 : At cX8_init 28 (.dup) 1 29 := ⟨by decide +kernel, rfl⟩
theorem aX8_init_29 : At cX8_init 29 (.invokespecial 22) 3 32 := ⟨by decide +kernel, rfl⟩
theorem aX8_init_32 : At cX8_init 32 (.putfield 23) 3 35 := ⟨by decide +kernel, rfl⟩
theorem aX8_init_35 : At cX8_init 35 (.aload_n 0) 1 36 := ⟨by decide +kernel, rfl⟩
theorem aX8_init_36 : At cX8_init 36 (.new 27) 3 39 := ⟨by decide +kernel, rfl⟩
theorem aX8_init_39 : At cX8_init 39 (.dup) 1 40 := ⟨by decide +kernel, rfl⟩
theorem aX8_init_40 : At cX8_init 40 (.invokespecial 29) 3 43 := ⟨by decide +kernel, rfl⟩
theorem aX8_init_43 : At cX8_init 43 (.putfield 30) 3 46 := ⟨by decide +kernel, rfl⟩
theorem aX8_init_46 : At cX8_init 46 (.aload_n 0) 1 47 := ⟨by decide +kernel, rfl⟩
theorem aX8_init_47 : At cX8_init 47 (.iconst 4) 1 48 := ⟨by decide +kernel, rfl⟩
theorem aX8_init_48 : At cX8_init 48 (.anewarray 34) 3 51 := ⟨by decide +kernel, rfl⟩
theorem aX8_init_51 : At cX8_init 51 (.putfield 36) 3 54 := ⟨by decide +kernel, rfl⟩
theorem aX8_init_54 : At cX8_init 54 (.aload_n 0) 1 55 := ⟨by decide +kernel, rfl⟩
theorem aX8_init_55 : At cX8_init 55 (.iconst 4) 1 56 := ⟨by decide +kernel, rfl⟩
theorem aX8_init_56 : At cX8_init 56 (.anewarray 40) 3 59 := ⟨by decide +kernel, rfl⟩
theorem aX8_init_59 : At cX8_init 59 (.putfield 42) 3 62 := ⟨by decide +kernel, rfl⟩
theorem aX8_init_62 : At cX8_init 62 (.aload_n 0) 1 63 := ⟨by decide +kernel, rfl⟩
theorem aX8_init_63 : At cX8_init 63 (.iconst 3) 1 64 := ⟨by decide +kernel, rfl⟩
theorem aX8_init_64 : At cX8_init 64 (.newarray .int) 2 66 := ⟨by decide +kernel, rfl⟩
theorem aX8_init_66 : At cX8_init 66 (.dup) 1 67 := ⟨by decide +kernel, rfl⟩
theorem aX8_init_67 : At cX8_init 67 (.iconst 0) 1 68 := ⟨by decide +kernel, rfl⟩
theorem aX8_init_68 : At cX8_init 68 (.iconst (-1)) 1 69 := ⟨by decide +kernel, rfl⟩
theorem aX8_init_69 : At cX8_init 69 (.iastore) 1 70 := ⟨by decide +kernel, rfl⟩
theorem aX8_init_70 : At cX8_init 70 (.dup) 1 71 := ⟨by decide +kernel, rfl⟩
theorem aX8_init_71 : At cX8_init 71 (.iconst 1) 1 72 := ⟨by decide +kernel, rfl⟩
theorem aX8_init_72 : At cX8_init 72 (.iconst (-1)) 1 73 := ⟨by decide +kernel, rfl⟩
theorem aX8_init_73 : At cX8_init 73 (.iastore) 1 74 := ⟨by decide +kernel, rfl⟩
theorem aX8_init_74 : At cX8_init 74 (.dup) 1 75 := ⟨by decide +kernel, rfl⟩
theorem aX8_init_75 : At cX8_init 75 (.iconst 2) 1 76 := ⟨by decide +kernel, rfl⟩
theorem aX8_init_76 : At cX8_init 76 (.iconst (-1)) 1 77 := ⟨by decide +kernel, rfl⟩
theorem aX8_init_77 : At cX8_init 77 (.iastore) 1 78 := ⟨by decide +kernel, rfl⟩
theorem aX8_init_78 : At cX8_init 78 (.putfield 46) 3 81 := ⟨by decide +kernel, rfl⟩
theorem aX8_init_81 : At cX8_init 81 (.aload_n 0) 1 82 := ⟨by decide +kernel, rfl⟩
theorem aX8_init_82 : At cX8_init 82 (.bipush 8) 2 84 := ⟨by decide +kernel, rfl⟩
theorem aX8_init_84 : At cX8_init 84 (.newarray .int) 2 86 := ⟨by decide +kernel, rfl⟩
theorem aX8_init_86 : At cX8_init 86 (.putfield 50) 3 89 := ⟨by decide +kernel, rfl⟩
theorem aX8_init_89 : At cX8_init 89 (.iconst 0) 1 90 := ⟨by decide +kernel, rfl⟩
theorem aX8_init_90 : At cX8_init 90 (.istore_n 1) 1 91 := ⟨by decide +kernel, rfl⟩
theorem aX8_init_91 : At cX8_init 91 (.iload_n 1) 1 92 := ⟨by decide +kernel, rfl⟩
theorem aX8_init_92 : At cX8_init 92 (.bipush 6) 2 94 := ⟨by decide +kernel, rfl⟩
theorem aX8_init_94 : Br cX8_init 94 (.if_icmp .ge (22)) (22) 97 116 := ⟨by decide +kernel, rfl, by decide⟩
theorem aX8_init_97 : At cX8_init 97 (.aload_n 0) 1 98 := ⟨by decide +kernel, rfl⟩
theorem aX8_init_98 : At cX8_init 98 (.getfield 16) 3 101 := ⟨by decide +kernel, rfl⟩
theorem aX8_init_101 : At cX8_init 101 (.iload_n 1) 1 102 := ⟨by decide +kernel, rfl⟩
theorem aX8_init_102 : At cX8_init 102 (.new 7) 3 105 := ⟨by decide +kernel, rfl⟩
theorem aX8_init_105 : At cX8_init 105 (.dup) 1 106 := ⟨by decide +kernel, rfl⟩
theorem aX8_init_106 : At cX8_init 106 (.invokespecial 9) 3 109 := ⟨by decide +kernel, rfl⟩
theorem aX8_init_109 : At cX8_init 109 (.aastore) 1 110 := ⟨by decide +kernel, rfl⟩
theorem aX8_init_110 : At cX8_init 110 (.iinc 1 1) 3 113 := ⟨by decide +kernel, rfl⟩
theorem aX8_init_113 : Br cX8_init 113 (.goto (-22)) (-22) 116 91 := ⟨by decide +kernel, rfl, by decide⟩
theorem aX8_init_116 : At cX8_init 116 (.iconst 0) 1 117 := ⟨by decide +kernel, rfl⟩
theorem aX8_init_117 : At cX8_init 117 (.istore_n 1) 1 118 := ⟨by decide +kernel, rfl⟩
theorem aX8_init_118 : At cX8_init 118 (.iload_n 1) 1 119 := ⟨by decide +kernel, rfl⟩
theorem aX8_init_119 : At cX8_init 119 (.iconst 4) 1 120 := ⟨by decide +kernel, rfl⟩
theorem aX8_init_120 : Br cX8_init 120 (.if_icmp .ge (22)) (22) 123 142 := ⟨by decide +kernel, rfl, by decide⟩
theorem aX8_init_123 : At cX8_init 123 (.aload_n 0) 1 124 := ⟨by decide +kernel, rfl⟩
theorem aX8_init_124 : At cX8_init 124 (.getfield 36) 3 127 := ⟨by decide +kernel, rfl⟩
theorem aX8_init_127 : At cX8_init 127 (.iload_n 1) 1 128 := ⟨by decide +kernel, rfl⟩
theorem aX8_init_128 : At cX8_init 128 (.new 34) 3 131 := ⟨by decide +kernel, rfl⟩
theorem aX8_init_131 : At cX8_init 131 (.dup) 1 132 := ⟨by decide +kernel, rfl⟩
theorem aX8_init_132 : At cX8_init 132 (.invokespecial 53) 3 135 := ⟨by decide +kernel, rfl⟩
theorem aX8_init_135 : At cX8_init 135 (.aastore) 1 136 := ⟨by decide +kernel, rfl⟩
theorem aX8_init_136 : At cX8_init 136 (.iinc 1 1) 3 139 := ⟨by decide +kernel, rfl⟩
theorem aX8_init_139 : Br cX8_init 139 (.goto (-21)) (-21) 142 118 := ⟨by decide +kernel, rfl, by decide⟩
theorem aX8_init_142 : At cX8_init 142 (.aload_n 0) 1 143 := ⟨by decide +kernel, rfl⟩
theorem aX8_init_143 : At cX8_init 143 (.getfield 23) 3 146 := ⟨by decide +kernel, rfl⟩
theorem aX8_init_146 : At cX8_init 146 (.iconst 0) 1 147 := ⟨by decide +kernel, rfl⟩
theorem aX8_init_147 : At cX8_init 147 (.sipush 1296) 3 150 := ⟨by decide +kernel, rfl⟩
theorem aX8_init_150 : At cX8_init 150 (.invokevirtual 54) 3 153 := ⟨by decide +kernel, rfl⟩
theorem aX8_init_153 : At cX8_init 153 (.return_) 1 154 := ⟨by decide +kernel, rfl⟩
theorem aX8_order_0 : At cX8_order 0 (.iload_n 1) 1 1 := ⟨by decide +kernel, rfl⟩
theorem aX8_order_1 : At cX8_order 1 (.bipush 6) 2 3 := ⟨by decide +kernel, rfl⟩
theorem aX8_order_3 : At cX8_order 3 (.invokestatic 58) 3 6 := ⟨by decide +kernel, rfl⟩
theorem aX8_order_6 : Br cX8_order 6 (.ifCond .ne (11)) (11) 9 17 := ⟨by decide +kernel, rfl, by decide⟩
theorem aX8_order_9 : At cX8_order 9 (.iload_n 2) 1 10 := ⟨by decide +kernel, rfl⟩
theorem aX8_order_10 : At cX8_order 10 (.iconst 3) 1 11 := ⟨by decide +kernel, rfl⟩
theorem aX8_order_11 : At cX8_order 11 (.invokestatic 58) 3 14 := ⟨by decide +kernel, rfl⟩
theorem aX8_order_14 : Br cX8_order 14 (.ifCond .eq (9)) (9) 17 23 := ⟨by decide +kernel, rfl, by decide⟩
theorem aX8_order_17 : At cX8_order 17 (.aload_n 0) 1 18 := ⟨by decide +kernel, rfl⟩
theorem aX8_order_18 : At cX8_order 18 (.iconst 0) 1 19 := ⟨by decide +kernel, rfl⟩
theorem aX8_order_19 : At cX8_order 19 (.invokevirtual 62) 3 22 := ⟨by decide +kernel, rfl⟩
theorem aX8_order_22 : At cX8_order 22 (.ireturn) 1 23 := ⟨by decide +kernel, rfl⟩
theorem aX8_order_23 : At cX8_order 23 (.getstatic 66) 3 26 := ⟨by decide +kernel, rfl⟩
theorem aX8_order_26 : At cX8_order 26 (.iload_n 1) 1 27 := ⟨by decide +kernel, rfl⟩
theorem aX8_order_27 : At cX8_order 27 (.iconst 3) 1 28 := ⟨by decide +kernel, rfl⟩
theorem aX8_order_28 : At cX8_order 28 (.imul) 1 29 := ⟨by decide +kernel, rfl⟩
theorem aX8_order_29 : At cX8_order 29 (.iload_n 2) 1 30 := ⟨by decide +kernel, rfl⟩
theorem aX8_order_30 : At cX8_order 30 (.iadd) 1 31 := ⟨by decide +kernel, rfl⟩
theorem aX8_order_31 : At cX8_order 31 (.iaload) 1 32 := ⟨by decide +kernel, rfl⟩
theorem aX8_order_32 : At cX8_order 32 (.ireturn) 1 33 := ⟨by decide +kernel, rfl⟩
theorem aX8_place_0 : At cX8_place 0 (.iload_n 1) 1 1 := ⟨by decide +kernel, rfl⟩
theorem aX8_place_1 : At cX8_place 1 (.sipush 1296) 3 4 := ⟨by decide +kernel, rfl⟩
theorem aX8_place_4 : At cX8_place 4 (.invokestatic 58) 3 7 := ⟨by decide +kernel, rfl⟩
theorem aX8_place_7 : Br cX8_place 7 (.ifCond .ne (12)) (12) 10 19 := ⟨by decide +kernel, rfl, by decide⟩
theorem aX8_place_10 : At cX8_place 10 (.iload_n 2) 1 11 := ⟨by decide +kernel, rfl⟩
theorem aX8_place_11 : At cX8_place 11 (.bipush 12) 2 13 := ⟨by decide +kernel, rfl⟩
theorem aX8_place_13 : At cX8_place 13 (.invokestatic 58) 3 16 := ⟨by decide +kernel, rfl⟩
theorem aX8_place_16 : Br cX8_place 16 (.ifCond .eq (9)) (9) 19 25 := ⟨by decide +kernel, rfl, by decide⟩
theorem aX8_place_19 : At cX8_place 19 (.aload_n 0) 1 20 := ⟨by decide +kernel, rfl⟩
theorem aX8_place_20 : At cX8_place 20 (.iconst 0) 1 21 := ⟨by decide +kernel, rfl⟩
theorem aX8_place_21 : At cX8_place 21 (.invokevirtual 62) 3 24 := ⟨by decide +kernel, rfl⟩
theorem aX8_place_24 : At cX8_place 24 (.ireturn) 1 25 := ⟨by decide +kernel, rfl⟩
theorem aX8_place_25 : At cX8_place 25 (.iload_n 1) 1 26 := ⟨by decide +kernel, rfl⟩
theorem aX8_place_26 : At cX8_place 26 (.iload_n 2) 1 27 := ⟨by decide +kernel, rfl⟩
theorem aX8_place_27 : At cX8_place 27 (.invokestatic 69) 3 30 := ⟨by decide +kernel, rfl⟩
theorem aX8_place_30 : At cX8_place 30 (.ireturn) 1 31 := ⟨by decide +kernel, rfl⟩
theorem aX8_fall_0 : At cX8_fall 0 (.iload_n 1) 1 1 := ⟨by decide +kernel, rfl⟩
theorem aX8_fall_1 : At cX8_fall 1 (.bipush 6) 2 3 := ⟨by decide +kernel, rfl⟩
theorem aX8_fall_3 : At cX8_fall 3 (.invokestatic 58) 3 6 := ⟨by decide +kernel, rfl⟩
theorem aX8_fall_6 : Br cX8_fall 6 (.ifCond .eq (9)) (9) 9 15 := ⟨by decide +kernel, rfl, by decide⟩
theorem aX8_fall_9 : At cX8_fall 9 (.aload_n 0) 1 10 := ⟨by decide +kernel, rfl⟩
theorem aX8_fall_10 : At cX8_fall 10 (.iconst 0) 1 11 := ⟨by decide +kernel, rfl⟩
theorem aX8_fall_11 : At cX8_fall 11 (.invokevirtual 62) 3 14 := ⟨by decide +kernel, rfl⟩
theorem aX8_fall_14 : At cX8_fall 14 (.ireturn) 1 15 := ⟨by decide +kernel, rfl⟩
theorem aX8_fall_15 : At cX8_fall 15 (.aload_n 0) 1 16 := ⟨by decide +kernel, rfl⟩
theorem aX8_fall_16 : At cX8_fall 16 (.getfield 10) 3 19 := ⟨by decide +kernel, rfl⟩
theorem aX8_fall_19 : At cX8_fall 19 (.getfield 73) 3 22 := ⟨by decide +kernel, rfl⟩
theorem aX8_fall_22 : At cX8_fall 22 (.iconst 4) 1 23 := ⟨by decide +kernel, rfl⟩
theorem aX8_fall_23 : Br cX8_fall 23 (.if_icmp .lt (9)) (9) 26 32 := ⟨by decide +kernel, rfl, by decide⟩
theorem aX8_fall_26 : At cX8_fall 26 (.aload_n 0) 1 27 := ⟨by decide +kernel, rfl⟩
theorem aX8_fall_27 : At cX8_fall 27 (.iconst 3) 1 28 := ⟨by decide +kernel, rfl⟩
theorem aX8_fall_28 : At cX8_fall 28 (.invokevirtual 62) 3 31 := ⟨by decide +kernel, rfl⟩
theorem aX8_fall_31 : At cX8_fall 31 (.ireturn) 1 32 := ⟨by decide +kernel, rfl⟩
theorem aX8_fall_32 : At cX8_fall 32 (.aload_n 0) 1 33 := ⟨by decide +kernel, rfl⟩
theorem aX8_fall_33 : At cX8_fall 33 (.getfield 10) 3 36 := ⟨by decide +kernel, rfl⟩
theorem aX8_fall_36 : At cX8_fall 36 (.getfield 77) 3 39 := ⟨by decide +kernel, rfl⟩
theorem aX8_fall_39 : At cX8_fall 39 (.aload_n 0) 1 40 := ⟨by decide +kernel, rfl⟩
theorem aX8_fall_40 : At cX8_fall 40 (.getfield 10) 3 43 := ⟨by decide +kernel, rfl⟩
theorem aX8_fall_43 : At cX8_fall 43 (.getfield 73) 3 46 := ⟨by decide +kernel, rfl⟩
theorem aX8_fall_46 : At cX8_fall 46 (.iload_n 1) 1 47 := ⟨by decide +kernel, rfl⟩
theorem aX8_fall_47 : At cX8_fall 47 (.iastore) 1 48 := ⟨by decide +kernel, rfl⟩
theorem aX8_fall_48 : At cX8_fall 48 (.aload_n 0) 1 49 := ⟨by decide +kernel, rfl⟩
theorem aX8_fall_49 : At cX8_fall 49 (.getfield 10) 3 52 := ⟨by decide +kernel, rfl⟩
theorem aX8_fall_52 : At cX8_fall 52 (.dup) 1 53 := ⟨by decide +kernel, rfl⟩
theorem aX8_fall_53 : At cX8_fall 53 (.getfield 73) 3 56 := ⟨by decide +kernel, rfl⟩
theorem aX8_fall_56 : At cX8_fall 56 (.iconst 1) 1 57 := ⟨by decide +kernel, rfl⟩
theorem aX8_fall_57 : At cX8_fall 57 (.iadd) 1 58 := ⟨by decide +kernel, rfl⟩
theorem aX8_fall_58 : At cX8_fall 58 (.putfield 73) 3 61 := ⟨by decide +kernel, rfl⟩
theorem aX8_fall_61 : At cX8_fall 61 (.aload_n 0) 1 62 := ⟨by decide +kernel, rfl⟩
theorem aX8_fall_62 : At cX8_fall 62 (.getfield 10) 3 65 := ⟨by decide +kernel, rfl⟩
theorem aX8_fall_65 : At cX8_fall 65 (.getfield 73) 3 68 := ⟨by decide +kernel, rfl⟩
theorem aX8_fall_68 : At cX8_fall 68 (.ireturn) 1 69 := ⟨by decide +kernel, rfl⟩
theorem aX8_fallen_0 : At cX8_fallen 0 (.iload_n 1) 1 1 := ⟨by decide +kernel, rfl⟩
theorem aX8_fallen_1 : At cX8_fallen 1 (.iconst 4) 1 2 := ⟨by decide +kernel, rfl⟩
theorem aX8_fallen_2 : At cX8_fallen 2 (.invokestatic 58) 3 5 := ⟨by decide +kernel, rfl⟩
theorem aX8_fallen_5 : Br cX8_fallen 5 (.ifCond .eq (9)) (9) 8 14 := ⟨by decide +kernel, rfl, by decide⟩
theorem aX8_fallen_8 : At cX8_fallen 8 (.aload_n 0) 1 9 := ⟨by decide +kernel, rfl⟩
theorem aX8_fallen_9 : At cX8_fallen 9 (.iconst 0) 1 10 := ⟨by decide +kernel, rfl⟩
theorem aX8_fallen_10 : At cX8_fallen 10 (.invokevirtual 62) 3 13 := ⟨by decide +kernel, rfl⟩
theorem aX8_fallen_13 : At cX8_fallen 13 (.ireturn) 1 14 := ⟨by decide +kernel, rfl⟩
theorem aX8_fallen_14 : At cX8_fallen 14 (.iload_n 1) 1 15 := ⟨by decide +kernel, rfl⟩
theorem aX8_fallen_15 : At cX8_fallen 15 (.aload_n 0) 1 16 := ⟨by decide +kernel, rfl⟩
theorem aX8_fallen_16 : At cX8_fallen 16 (.getfield 10) 3 19 := ⟨by decide +kernel, rfl⟩
theorem aX8_fallen_19 : At cX8_fallen 19 (.getfield 73) 3 22 := ⟨by decide +kernel, rfl⟩
theorem aX8_fallen_22 : Br cX8_fallen 22 (.if_icmp .ge (15)) (15) 25 37 := ⟨by decide +kernel, rfl, by decide⟩
theorem aX8_fallen_25 : At cX8_fallen 25 (.aload_n 0) 1 26 := ⟨by decide +kernel, rfl⟩
theorem aX8_fallen_26 : At cX8_fallen 26 (.getfield 10) 3 29 := ⟨by decide +kernel, rfl⟩
theorem aX8_fallen_29 : At cX8_fallen 29 (.getfield 77) 3 32 := ⟨by decide +kernel, rfl⟩
theorem aX8_fallen_32 : At cX8_fallen 32 (.iload_n 1) 1 33 := ⟨by decide +kernel, rfl⟩
theorem aX8_fallen_33 : At cX8_fallen 33 (.iaload) 1 34 := ⟨by decide +kernel, rfl⟩
theorem aX8_fallen_34 : Br cX8_fallen 34 (.goto (8)) (8) 37 42 := ⟨by decide +kernel, rfl, by decide⟩
theorem aX8_fallen_37 : At cX8_fallen 37 (.aload_n 0) 1 38 := ⟨by decide +kernel, rfl⟩
theorem aX8_fallen_38 : At cX8_fallen 38 (.iconst 3) 1 39 := ⟨by decide +kernel, rfl⟩
theorem aX8_fallen_39 : At cX8_fallen 39 (.invokevirtual 62) 3 42 := ⟨by decide +kernel, rfl⟩
theorem aX8_fallen_42 : At cX8_fallen 42 (.ireturn) 1 43 := ⟨by decide +kernel, rfl⟩
theorem aX8_draw_0 : At cX8_draw 0 (.aload_n 0) 1 1 := ⟨by decide +kernel, rfl⟩
theorem aX8_draw_1 : At cX8_draw 1 (.getfield 10) 3 4 := ⟨by decide +kernel, rfl⟩
theorem aX8_draw_4 : At cX8_draw 4 (.aload_n 0) 1 5 := ⟨by decide +kernel, rfl⟩
theorem aX8_draw_5 : At cX8_draw 5 (.getfield 10) 3 8 := ⟨by decide +kernel, rfl⟩
theorem aX8_draw_8 : At cX8_draw 8 (.getfield 80) 3 11 := ⟨by decide +kernel, rfl⟩
theorem aX8_draw_11 : At cX8_draw 11 (.ldc 83) 2 13 := ⟨by decide +kernel, rfl⟩
theorem aX8_draw_13 : At cX8_draw 13 (.imul) 1 14 := ⟨by decide +kernel, rfl⟩
theorem aX8_draw_14 : At cX8_draw 14 (.sipush 12345) 3 17 := ⟨by decide +kernel, rfl⟩
theorem aX8_draw_17 : At cX8_draw 17 (.iadd) 1 18 := ⟨by decide +kernel, rfl⟩
theorem aX8_draw_18 : At cX8_draw 18 (.putfield 80) 3 21 := ⟨by decide +kernel, rfl⟩
theorem aX8_draw_21 : At cX8_draw 21 (.aload_n 0) 1 22 := ⟨by decide +kernel, rfl⟩
theorem aX8_draw_22 : At cX8_draw 22 (.getfield 10) 3 25 := ⟨by decide +kernel, rfl⟩
theorem aX8_draw_25 : At cX8_draw 25 (.invokevirtual 84) 3 28 := ⟨by decide +kernel, rfl⟩
theorem aX8_draw_28 : At cX8_draw 28 (.aload_n 0) 1 29 := ⟨by decide +kernel, rfl⟩
theorem aX8_draw_29 : At cX8_draw 29 (.getfield 10) 3 32 := ⟨by decide +kernel, rfl⟩
theorem aX8_draw_32 : At cX8_draw 32 (.getfield 80) 3 35 := ⟨by decide +kernel, rfl⟩
theorem aX8_draw_35 : At cX8_draw 35 (.bipush 8) 2 37 := ⟨by decide +kernel, rfl⟩
theorem aX8_draw_37 : At cX8_draw 37 (.iushr) 1 38 := ⟨by decide +kernel, rfl⟩
theorem aX8_draw_38 : At cX8_draw 38 (.aload_n 0) 1 39 := ⟨by decide +kernel, rfl⟩
theorem aX8_draw_39 : At cX8_draw 39 (.getfield 10) 3 42 := ⟨by decide +kernel, rfl⟩
theorem aX8_draw_42 : At cX8_draw 42 (.invokevirtual 88) 3 45 := ⟨by decide +kernel, rfl⟩
theorem aX8_draw_45 : At cX8_draw 45 (.irem) 1 46 := ⟨by decide +kernel, rfl⟩
theorem aX8_draw_46 : At cX8_draw 46 (.iadd) 1 47 := ⟨by decide +kernel, rfl⟩
theorem aX8_draw_47 : At cX8_draw 47 (.ireturn) 1 48 := ⟨by decide +kernel, rfl⟩
theorem aX8_sale_0 : At cX8_sale 0 (.iload_n 1) 1 1 := ⟨by decide +kernel, rfl⟩
theorem aX8_sale_1 : Br cX8_sale 1 (.ifCond .eq (18)) (18) 4 19 := ⟨by decide +kernel, rfl, by decide⟩
theorem aX8_sale_4 : At cX8_sale 4 (.iload_n 1) 1 5 := ⟨by decide +kernel, rfl⟩
theorem aX8_sale_5 : At cX8_sale 5 (.iconst 1) 1 6 := ⟨by decide +kernel, rfl⟩
theorem aX8_sale_6 : Br cX8_sale 6 (.if_icmp .eq (13)) (13) 9 19 := ⟨by decide +kernel, rfl, by decide⟩
theorem aX8_sale_9 : At cX8_sale 9 (.iload_n 1) 1 10 := ⟨by decide +kernel, rfl⟩
theorem aX8_sale_10 : At cX8_sale 10 (.iconst 3) 1 11 := ⟨by decide +kernel, rfl⟩
theorem aX8_sale_11 : Br cX8_sale 11 (.if_icmp .eq (8)) (8) 14 19 := ⟨by decide +kernel, rfl, by decide⟩
theorem aX8_sale_14 : At cX8_sale 14 (.iload_n 1) 1 15 := ⟨by decide +kernel, rfl⟩
theorem aX8_sale_15 : At cX8_sale 15 (.iconst 4) 1 16 := ⟨by decide +kernel, rfl⟩
theorem aX8_sale_16 : Br cX8_sale 16 (.if_icmp .ne (7)) (7) 19 23 := ⟨by decide +kernel, rfl, by decide⟩
theorem aX8_sale_19 : At cX8_sale 19 (.iconst 1) 1 20 := ⟨by decide +kernel, rfl⟩
theorem aX8_sale_20 : Br cX8_sale 20 (.goto (4)) (4) 23 24 := ⟨by decide +kernel, rfl, by decide⟩
theorem aX8_sale_23 : At cX8_sale 23 (.iconst 0) 1 24 := ⟨by decide +kernel, rfl⟩
theorem aX8_sale_24 : At cX8_sale 24 (.istore 6) 2 26 := ⟨by decide +kernel, rfl⟩
theorem aX8_sale_26 : At cX8_sale 26 (.iload 6) 2 28 := ⟨by decide +kernel, rfl⟩
theorem aX8_sale_28 : Br cX8_sale 28 (.ifCond .eq (21)) (21) 31 49 := ⟨by decide +kernel, rfl, by decide⟩
theorem aX8_sale_31 : At cX8_sale 31 (.iload_n 2) 1 32 := ⟨by decide +kernel, rfl⟩
theorem aX8_sale_32 : At cX8_sale 32 (.iload_n 3) 1 33 := ⟨by decide +kernel, rfl⟩
theorem aX8_sale_33 : At cX8_sale 33 (.invokestatic 91) 3 36 := ⟨by decide +kernel, rfl⟩
theorem aX8_sale_36 : Br cX8_sale 36 (.ifCond .ne (13)) (13) 39 49 := ⟨by decide +kernel, rfl, by decide⟩
theorem aX8_sale_39 : At cX8_sale 39 (.iload 4) 2 41 := ⟨by decide +kernel, rfl⟩
theorem aX8_sale_41 : At cX8_sale 41 (.bipush 12) 2 43 := ⟨by decide +kernel, rfl⟩
theorem aX8_sale_43 : At cX8_sale 43 (.invokestatic 58) 3 46 := ⟨by decide +kernel, rfl⟩
theorem aX8_sale_46 : Br cX8_sale 46 (.ifCond .eq (9)) (9) 49 55 := ⟨by decide +kernel, rfl, by decide⟩
theorem aX8_sale_49 : At cX8_sale 49 (.aload_n 0) 1 50 := ⟨by decide +kernel, rfl⟩
theorem aX8_sale_50 : At cX8_sale 50 (.iconst 0) 1 51 := ⟨by decide +kernel, rfl⟩
theorem aX8_sale_51 : At cX8_sale 51 (.invokevirtual 62) 3 54 := ⟨by decide +kernel, rfl⟩
theorem aX8_sale_54 : At cX8_sale 54 (.ireturn) 1 55 := ⟨by decide +kernel, rfl⟩
theorem aX8_sale_55 : At cX8_sale 55 (.iload_n 1) 1 56 := ⟨by decide +kernel, rfl⟩
theorem aX8_sale_56 : Br cX8_sale 56 (.ifCond .eq (21)) (21) 59 77 := ⟨by decide +kernel, rfl, by decide⟩
theorem aX8_sale_59 : At cX8_sale 59 (.iload 5) 2 61 := ⟨by decide +kernel, rfl⟩
theorem aX8_sale_61 : At cX8_sale 61 (.iconst 1) 1 62 := ⟨by decide +kernel, rfl⟩
theorem aX8_sale_62 : Br cX8_sale 62 (.if_icmp .lt (9)) (9) 65 71 := ⟨by decide +kernel, rfl, by decide⟩
theorem aX8_sale_65 : At cX8_sale 65 (.iload 5) 2 67 := ⟨by decide +kernel, rfl⟩
theorem aX8_sale_67 : At cX8_sale 67 (.iconst 2) 1 68 := ⟨by decide +kernel, rfl⟩
theorem aX8_sale_68 : Br cX8_sale 68 (.if_icmp .le (9)) (9) 71 77 := ⟨by decide +kernel, rfl, by decide⟩
theorem aX8_sale_71 : At cX8_sale 71 (.aload_n 0) 1 72 := ⟨by decide +kernel, rfl⟩
theorem aX8_sale_72 : At cX8_sale 72 (.iconst 0) 1 73 := ⟨by decide +kernel, rfl⟩
theorem aX8_sale_73 : At cX8_sale 73 (.invokevirtual 62) 3 76 := ⟨by decide +kernel, rfl⟩
theorem aX8_sale_76 : At cX8_sale 76 (.ireturn) 1 77 := ⟨by decide +kernel, rfl⟩
theorem aX8_sale_77 : At cX8_sale 77 (.aload_n 0) 1 78 := ⟨by decide +kernel, rfl⟩
theorem aX8_sale_78 : At cX8_sale 78 (.new 40) 3 81 := ⟨by decide +kernel, rfl⟩
theorem aX8_sale_81 : At cX8_sale 81 (.dup) 1 82 := ⟨by decide +kernel, rfl⟩
theorem aX8_sale_82 : At cX8_sale 82 (.iload_n 1) 1 83 := ⟨by decide +kernel, rfl⟩
theorem aX8_sale_83 : At cX8_sale 83 (.iload_n 2) 1 84 := ⟨by decide +kernel, rfl⟩
theorem aX8_sale_84 : At cX8_sale 84 (.iload_n 3) 1 85 := ⟨by decide +kernel, rfl⟩
theorem aX8_sale_85 : At cX8_sale 85 (.iload 4) 2 87 := ⟨by decide +kernel, rfl⟩
theorem aX8_sale_87 : At cX8_sale 87 (.iconst (-1)) 1 88 := ⟨by decide +kernel, rfl⟩
theorem aX8_sale_88 : At cX8_sale 88 (.iload_n 1) 1 89 := ⟨by decide +kernel, rfl⟩
theorem aX8_sale_89 : Br cX8_sale 89 (.ifCond .ne (7)) (7) 92 96 := ⟨by decide +kernel, rfl, by decide⟩
theorem aX8_sale_92 : At cX8_sale 92 (.iconst 0) 1 93 := ⟨by decide +kernel, rfl⟩
theorem aX8_sale_93 : Br cX8_sale 93 (.goto (5)) (5) 96 98 := ⟨by decide +kernel, rfl, by decide⟩
theorem aX8_sale_96 : At cX8_sale 96 (.iload 5) 2 98 := ⟨by decide +kernel, rfl⟩
theorem aX8_sale_98 : At cX8_sale 98 (.aconst_null) 1 99 := ⟨by decide +kernel, rfl⟩
theorem aX8_sale_99 : At cX8_sale 99 (.invokespecial 94) 3 102 := ⟨by decide +kernel, rfl⟩
theorem aX8_sale_102 : At cX8_sale 102 (.invokevirtual 97) 3 105 := ⟨by decide +kernel, rfl⟩
theorem aX8_sale_105 : At cX8_sale 105 (.ireturn) 1 106 := ⟨by decide +kernel, rfl⟩
theorem aX8_swap_0 : At cX8_swap 0 (.iload_n 1) 1 1 := ⟨by decide +kernel, rfl⟩
theorem aX8_swap_1 : At cX8_swap 1 (.iload_n 2) 1 2 := ⟨by decide +kernel, rfl⟩
theorem aX8_swap_2 : At cX8_swap 2 (.invokestatic 91) 3 5 := ⟨by decide +kernel, rfl⟩
theorem aX8_swap_5 : Br cX8_swap 5 (.ifCond .ne (22)) (22) 8 27 := ⟨by decide +kernel, rfl, by decide⟩
theorem aX8_swap_8 : At cX8_swap 8 (.iload_n 3) 1 9 := ⟨by decide +kernel, rfl⟩
theorem aX8_swap_9 : At cX8_swap 9 (.bipush 12) 2 11 := ⟨by decide +kernel, rfl⟩
theorem aX8_swap_11 : At cX8_swap 11 (.invokestatic 58) 3 14 := ⟨by decide +kernel, rfl⟩
theorem aX8_swap_14 : Br cX8_swap 14 (.ifCond .ne (13)) (13) 17 27 := ⟨by decide +kernel, rfl, by decide⟩
theorem aX8_swap_17 : At cX8_swap 17 (.iload 4) 2 19 := ⟨by decide +kernel, rfl⟩
theorem aX8_swap_19 : At cX8_swap 19 (.bipush 12) 2 21 := ⟨by decide +kernel, rfl⟩
theorem aX8_swap_21 : At cX8_swap 21 (.invokestatic 58) 3 24 := ⟨by decide +kernel, rfl⟩
theorem aX8_swap_24 : Br cX8_swap 24 (.ifCond .eq (9)) (9) 27 33 := ⟨by decide +kernel, rfl, by decide⟩
theorem aX8_swap_27 : At cX8_swap 27 (.aload_n 0) 1 28 := ⟨by decide +kernel, rfl⟩
theorem aX8_swap_28 : At cX8_swap 28 (.iconst 0) 1 29 := ⟨by decide +kernel, rfl⟩
theorem aX8_swap_29 : At cX8_swap 29 (.invokevirtual 62) 3 32 := ⟨by decide +kernel, rfl⟩
theorem aX8_swap_32 : At cX8_swap 32 (.ireturn) 1 33 := ⟨by decide +kernel, rfl⟩
theorem aX8_swap_33 : At cX8_swap 33 (.iload_n 3) 1 34 := ⟨by decide +kernel, rfl⟩
theorem aX8_swap_34 : At cX8_swap 34 (.iload 4) 2 36 := ⟨by decide +kernel, rfl⟩
theorem aX8_swap_36 : Br cX8_swap 36 (.if_icmp .eq (24)) (24) 39 60 := ⟨by decide +kernel, rfl, by decide⟩
theorem aX8_swap_39 : At cX8_swap 39 (.iload_n 3) 1 40 := ⟨by decide +kernel, rfl⟩
theorem aX8_swap_40 : At cX8_swap 40 (.iconst 3) 1 41 := ⟨by decide +kernel, rfl⟩
theorem aX8_swap_41 : At cX8_swap 41 (.idiv) 1 42 := ⟨by decide +kernel, rfl⟩
theorem aX8_swap_42 : At cX8_swap 42 (.iload 4) 2 44 := ⟨by decide +kernel, rfl⟩
theorem aX8_swap_44 : At cX8_swap 44 (.iconst 3) 1 45 := ⟨by decide +kernel, rfl⟩
theorem aX8_swap_45 : At cX8_swap 45 (.idiv) 1 46 := ⟨by decide +kernel, rfl⟩
theorem aX8_swap_46 : Br cX8_swap 46 (.if_icmp .ne (14)) (14) 49 60 := ⟨by decide +kernel, rfl, by decide⟩
theorem aX8_swap_49 : At cX8_swap 49 (.iload 5) 2 51 := ⟨by decide +kernel, rfl⟩
theorem aX8_swap_51 : Br cX8_swap 51 (.ifCond .lt (9)) (9) 54 60 := ⟨by decide +kernel, rfl, by decide⟩
theorem aX8_swap_54 : At cX8_swap 54 (.iload 5) 2 56 := ⟨by decide +kernel, rfl⟩
theorem aX8_swap_56 : At cX8_swap 56 (.iconst 2) 1 57 := ⟨by decide +kernel, rfl⟩
theorem aX8_swap_57 : Br cX8_swap 57 (.if_icmp .le (9)) (9) 60 66 := ⟨by decide +kernel, rfl, by decide⟩
theorem aX8_swap_60 : At cX8_swap 60 (.aload_n 0) 1 61 := ⟨by decide +kernel, rfl⟩
theorem aX8_swap_61 : At cX8_swap 61 (.iconst 0) 1 62 := ⟨by decide +kernel, rfl⟩
theorem aX8_swap_62 : At cX8_swap 62 (.invokevirtual 62) 3 65 := ⟨by decide +kernel, rfl⟩
theorem aX8_swap_65 : At cX8_swap 65 (.ireturn) 1 66 := ⟨by decide +kernel, rfl⟩
theorem aX8_swap_66 : At cX8_swap 66 (.aload_n 0) 1 67 := ⟨by decide +kernel, rfl⟩
theorem aX8_swap_67 : At cX8_swap 67 (.new 40) 3 70 := ⟨by decide +kernel, rfl⟩
theorem aX8_swap_70 : At cX8_swap 70 (.dup) 1 71 := ⟨by decide +kernel, rfl⟩
theorem aX8_swap_71 : At cX8_swap 71 (.iload 5) 2 73 := ⟨by decide +kernel, rfl⟩
theorem aX8_swap_73 : Br cX8_swap 73 (.ifCond .ne (7)) (7) 76 80 := ⟨by decide +kernel, rfl, by decide⟩
theorem aX8_swap_76 : At cX8_swap 76 (.iconst 2) 1 77 := ⟨by decide +kernel, rfl⟩
theorem aX8_swap_77 : Br cX8_swap 77 (.goto (4)) (4) 80 81 := ⟨by decide +kernel, rfl, by decide⟩
theorem aX8_swap_80 : At cX8_swap 80 (.iconst 5) 1 81 := ⟨by decide +kernel, rfl⟩
theorem aX8_swap_81 : At cX8_swap 81 (.iload_n 1) 1 82 := ⟨by decide +kernel, rfl⟩
theorem aX8_swap_82 : At cX8_swap 82 (.iload_n 2) 1 83 := ⟨by decide +kernel, rfl⟩
theorem aX8_swap_83 : At cX8_swap 83 (.iload_n 3) 1 84 := ⟨by decide +kernel, rfl⟩
theorem aX8_swap_84 : At cX8_swap 84 (.iload 4) 2 86 := ⟨by decide +kernel, rfl⟩
theorem aX8_swap_86 : At cX8_swap 86 (.iload 5) 2 88 := ⟨by decide +kernel, rfl⟩
theorem aX8_swap_88 : At cX8_swap 88 (.aconst_null) 1 89 := ⟨by decide +kernel, rfl⟩
theorem aX8_swap_89 : At cX8_swap 89 (.invokespecial 94) 3 92 := ⟨by decide +kernel, rfl⟩
theorem aX8_swap_92 : At cX8_swap 92 (.invokevirtual 97) 3 95 := ⟨by decide +kernel, rfl⟩
theorem aX8_swap_95 : At cX8_swap 95 (.ireturn) 1 96 := ⟨by decide +kernel, rfl⟩
theorem aX8_text_0 : At cX8_text 0 (.aload_n 0) 1 1 := ⟨by decide +kernel, rfl⟩
theorem aX8_text_1 : At cX8_text 1 (.getfield 10) 3 4 := ⟨by decide +kernel, rfl⟩
theorem aX8_text_4 : At cX8_text 4 (.getfield 101) 3 7 := ⟨by decide +kernel, rfl⟩
theorem aX8_text_7 : At cX8_text 7 (.istore_n 1) 1 8 := ⟨by decide +kernel, rfl⟩
theorem aX8_text_8 : At cX8_text 8 (.aload_n 0) 1 9 := ⟨by decide +kernel, rfl⟩
theorem aX8_text_9 : At cX8_text 9 (.getfield 30) 3 12 := ⟨by decide +kernel, rfl⟩
theorem aX8_text_12 : At cX8_text 12 (.aload_n 0) 1 13 := ⟨by decide +kernel, rfl⟩
theorem aX8_text_13 : At cX8_text 13 (.getfield 10) 3 16 := ⟨by decide +kernel, rfl⟩
theorem aX8_text_16 : At cX8_text 16 (.invokevirtual 104) 3 19 := ⟨by decide +kernel, rfl⟩
theorem aX8_text_19 : At cX8_text 19 (.istore_n 2) 1 20 := ⟨by decide +kernel, rfl⟩
theorem aX8_text_20 : At cX8_text 20 (.aload_n 0) 1 21 := ⟨by decide +kernel, rfl⟩
theorem aX8_text_21 : At cX8_text 21 (.getfield 30) 3 24 := ⟨by decide +kernel, rfl⟩
theorem aX8_text_24 : At cX8_text 24 (.getfield 108) 3 27 := ⟨by decide +kernel, rfl⟩
theorem aX8_text_27 : At cX8_text 27 (.iconst 0) 1 28 := ⟨by decide +kernel, rfl⟩
theorem aX8_text_28 : At cX8_text 28 (.putfield 112) 3 31 := ⟨by decide +kernel, rfl⟩
theorem aX8_text_31 : At cX8_text 31 (.iconst 0) 1 32 := ⟨by decide +kernel, rfl⟩
theorem aX8_text_32 : At cX8_text 32 (.istore_n 3) 1 33 := ⟨by decide +kernel, rfl⟩
theorem aX8_text_33 : At cX8_text 33 (.iload_n 3) 1 34 := ⟨by decide +kernel, rfl⟩
theorem aX8_text_34 : At cX8_text 34 (.iload_n 2) 1 35 := ⟨by decide +kernel, rfl⟩
theorem aX8_text_35 : Br cX8_text 35 (.if_icmp .ge (42)) (42) 38 77 := ⟨by decide +kernel, rfl, by decide⟩
theorem aX8_text_38 : At cX8_text 38 (.aload_n 0) 1 39 := ⟨by decide +kernel, rfl⟩
theorem aX8_text_39 : At cX8_text 39 (.aload_n 0) 1 40 := ⟨by decide +kernel, rfl⟩
theorem aX8_text_40 : At cX8_text 40 (.getfield 30) 3 43 := ⟨by decide +kernel, rfl⟩
theorem aX8_text_43 : At cX8_text 43 (.iload_n 3) 1 44 := ⟨by decide +kernel, rfl⟩
theorem aX8_text_44 : At cX8_text 44 (.invokevirtual 117) 3 47 := ⟨by decide +kernel, rfl⟩
theorem aX8_text_47 : At cX8_text 47 (.invokevirtual 121) 3 50 := ⟨by decide +kernel, rfl⟩
theorem aX8_text_50 : Br cX8_text 50 (.ifCond .ne (21)) (21) 53 71 := ⟨by decide +kernel, rfl, by decide⟩
theorem aX8_text_53 : At cX8_text 53 (.aload_n 0) 1 54 := ⟨by decide +kernel, rfl⟩
theorem aX8_text_54 : At cX8_text 54 (.getfield 10) 3 57 := ⟨by decide +kernel, rfl⟩
theorem aX8_text_57 : At cX8_text 57 (.iload_n 1) 1 58 := ⟨by decide +kernel, rfl⟩
theorem aX8_text_58 : At cX8_text 58 (.putfield 101) 3 61 := ⟨by decide +kernel, rfl⟩
theorem aX8_text_61 : At cX8_text 61 (.aload_n 0) 1 62 := ⟨by decide +kernel, rfl⟩
theorem aX8_text_62 : At cX8_text 62 (.invokevirtual 125) 3 65 := ⟨by decide +kernel, rfl⟩
theorem aX8_text_65 : At cX8_text 65 (.aload_n 0) 1 66 := ⟨by decide +kernel, rfl⟩
theorem aX8_text_66 : At cX8_text 66 (.iconst 4) 1 67 := ⟨by decide +kernel, rfl⟩
theorem aX8_text_67 : At cX8_text 67 (.invokevirtual 62) 3 70 := ⟨by decide +kernel, rfl⟩
theorem aX8_text_70 : At cX8_text 70 (.ireturn) 1 71 := ⟨by decide +kernel, rfl⟩
theorem aX8_text_71 : At cX8_text 71 (.iinc 3 1) 3 74 := ⟨by decide +kernel, rfl⟩
theorem aX8_text_74 : Br cX8_text 74 (.goto (-41)) (-41) 77 33 := ⟨by decide +kernel, rfl, by decide⟩
theorem aX8_text_77 : At cX8_text 77 (.iload_n 2) 1 78 := ⟨by decide +kernel, rfl⟩
theorem aX8_text_78 : At cX8_text 78 (.ireturn) 1 79 := ⟨by decide +kernel, rfl⟩
theorem aX8_of_0 : At cX8_of 0 (.aload_n 0) 1 1 := ⟨by decide +kernel, rfl⟩
theorem aX8_of_1 : At cX8_of 1 (.getfield 10) 3 4 := ⟨by decide +kernel, rfl⟩
theorem aX8_of_4 : At cX8_of 4 (.iload_n 1) 1 5 := ⟨by decide +kernel, rfl⟩
theorem aX8_of_5 : At cX8_of 5 (.invokevirtual 128) 3 8 := ⟨by decide +kernel, rfl⟩
theorem aX8_of_8 : At cX8_of 8 (.astore_n 3) 1 9 := ⟨by decide +kernel, rfl⟩
theorem aX8_of_9 : At cX8_of 9 (.aload_n 3) 1 10 := ⟨by decide +kernel, rfl⟩
theorem aX8_of_10 : Br cX8_of 10 (.ifnonnull (9)) (9) 13 19 := ⟨by decide +kernel, rfl, by decide⟩
theorem aX8_of_13 : At cX8_of 13 (.aload_n 0) 1 14 := ⟨by decide +kernel, rfl⟩
theorem aX8_of_14 : At cX8_of 14 (.iconst 0) 1 15 := ⟨by decide +kernel, rfl⟩
theorem aX8_of_15 : At cX8_of 15 (.invokevirtual 62) 3 18 := ⟨by decide +kernel, rfl⟩
theorem aX8_of_18 : At cX8_of 18 (.ireturn) 1 19 := ⟨by decide +kernel, rfl⟩
theorem aX8_of_19 : At cX8_of 19 (.iload_n 2) 1 20 := ⟨by decide +kernel, rfl⟩
theorem aX8_of_20 : At cX8_of 20 (.tableswitch 97 0 7 #[48, 53, 58, 63, 68, 73, 78, 91]) 48 68 := ⟨by decide +kernel, rfl⟩
theorem aX8_of_68 : At cX8_of 68 (.aload_n 3) 1 69 := ⟨by decide +kernel, rfl⟩
theorem aX8_of_69 : At cX8_of 69 (.getfield 131) 3 72 := ⟨by decide +kernel, rfl⟩
theorem aX8_of_72 : At cX8_of 72 (.ireturn) 1 73 := ⟨by decide +kernel, rfl⟩
theorem aX8_of_73 : At cX8_of 73 (.aload_n 3) 1 74 := ⟨by decide +kernel, rfl⟩
theorem aX8_of_74 : At cX8_of 74 (.getfield 134) 3 77 := ⟨by decide +kernel, rfl⟩
theorem aX8_of_77 : At cX8_of 77 (.ireturn) 1 78 := ⟨by decide +kernel, rfl⟩
theorem aX8_of_78 : At cX8_of 78 (.aload_n 3) 1 79 := ⟨by decide +kernel, rfl⟩
theorem aX8_of_79 : At cX8_of 79 (.getfield 137) 3 82 := ⟨by decide +kernel, rfl⟩
theorem aX8_of_82 : At cX8_of 82 (.ireturn) 1 83 := ⟨by decide +kernel, rfl⟩
theorem aX8_of_83 : At cX8_of 83 (.aload_n 3) 1 84 := ⟨by decide +kernel, rfl⟩
theorem aX8_of_84 : At cX8_of 84 (.getfield 140) 3 87 := ⟨by decide +kernel, rfl⟩
theorem aX8_of_87 : At cX8_of 87 (.ireturn) 1 88 := ⟨by decide +kernel, rfl⟩
theorem aX8_of_88 : At cX8_of 88 (.aload_n 3) 1 89 := ⟨by decide +kernel, rfl⟩
theorem aX8_of_89 : At cX8_of 89 (.getfield 143) 3 92 := ⟨by decide +kernel, rfl⟩
theorem aX8_of_92 : At cX8_of 92 (.ireturn) 1 93 := ⟨by decide +kernel, rfl⟩
theorem aX8_of_93 : At cX8_of 93 (.aload_n 3) 1 94 := ⟨by decide +kernel, rfl⟩
theorem aX8_of_94 : At cX8_of 94 (.getfield 146) 3 97 := ⟨by decide +kernel, rfl⟩
theorem aX8_of_97 : At cX8_of 97 (.ireturn) 1 98 := ⟨by decide +kernel, rfl⟩
theorem aX8_of_98 : At cX8_of 98 (.aload_n 3) 1 99 := ⟨by decide +kernel, rfl⟩
theorem aX8_of_99 : At cX8_of 99 (.getfield 149) 3 102 := ⟨by decide +kernel, rfl⟩
theorem aX8_of_102 : Br cX8_of 102 (.ifnull (7)) (7) 105 109 := ⟨by decide +kernel, rfl, by decide⟩
theorem aX8_of_105 : At cX8_of 105 (.iconst 1) 1 106 := ⟨by decide +kernel, rfl⟩
theorem aX8_of_106 : Br cX8_of 106 (.goto (4)) (4) 109 110 := ⟨by decide +kernel, rfl, by decide⟩
theorem aX8_of_109 : At cX8_of 109 (.iconst 0) 1 110 := ⟨by decide +kernel, rfl⟩
theorem aX8_of_110 : At cX8_of 110 (.ireturn) 1 111 := ⟨by decide +kernel, rfl⟩
theorem aX8_of_111 : At cX8_of 111 (.aload_n 0) 1 112 := ⟨by decide +kernel, rfl⟩
theorem aX8_of_112 : At cX8_of 112 (.aload_n 3) 1 113 := ⟨by decide +kernel, rfl⟩
theorem aX8_of_113 : At cX8_of 113 (.invokevirtual 153) 3 116 := ⟨by decide +kernel, rfl⟩
theorem aX8_of_116 : At cX8_of 116 (.ireturn) 1 117 := ⟨by decide +kernel, rfl⟩
theorem aX8_of_117 : At cX8_of 117 (.aload_n 0) 1 118 := ⟨by decide +kernel, rfl⟩
theorem aX8_of_118 : At cX8_of 118 (.iconst 0) 1 119 := ⟨by decide +kernel, rfl⟩
theorem aX8_of_119 : At cX8_of 119 (.invokevirtual 62) 3 122 := ⟨by decide +kernel, rfl⟩
theorem aX8_of_122 : At cX8_of 122 (.ireturn) 1 123 := ⟨by decide +kernel, rfl⟩
theorem aX8_holds_0 : At cX8_holds 0 (.aload_n 0) 1 1 := ⟨by decide +kernel, rfl⟩
theorem aX8_holds_1 : At cX8_holds 1 (.getfield 10) 3 4 := ⟨by decide +kernel, rfl⟩
theorem aX8_holds_4 : At cX8_holds 4 (.iload_n 1) 1 5 := ⟨by decide +kernel, rfl⟩
theorem aX8_holds_5 : At cX8_holds 5 (.invokevirtual 128) 3 8 := ⟨by decide +kernel, rfl⟩
theorem aX8_holds_8 : At cX8_holds 8 (.astore_n 3) 1 9 := ⟨by decide +kernel, rfl⟩
theorem aX8_holds_9 : At cX8_holds 9 (.aload_n 3) 1 10 := ⟨by decide +kernel, rfl⟩
theorem aX8_holds_10 : Br cX8_holds 10 (.ifnull (13)) (13) 13 23 := ⟨by decide +kernel, rfl, by decide⟩
theorem aX8_holds_13 : At cX8_holds 13 (.iload_n 2) 1 14 := ⟨by decide +kernel, rfl⟩
theorem aX8_holds_14 : At cX8_holds 14 (.sipush 1296) 3 17 := ⟨by decide +kernel, rfl⟩
theorem aX8_holds_17 : At cX8_holds 17 (.invokestatic 58) 3 20 := ⟨by decide +kernel, rfl⟩
theorem aX8_holds_20 : Br cX8_holds 20 (.ifCond .eq (9)) (9) 23 29 := ⟨by decide +kernel, rfl, by decide⟩
theorem aX8_holds_23 : At cX8_holds 23 (.aload_n 0) 1 24 := ⟨by decide +kernel, rfl⟩
theorem aX8_holds_24 : At cX8_holds 24 (.iconst 0) 1 25 := ⟨by decide +kernel, rfl⟩
theorem aX8_holds_25 : At cX8_holds 25 (.invokevirtual 62) 3 28 := ⟨by decide +kernel, rfl⟩
theorem aX8_holds_28 : At cX8_holds 28 (.ireturn) 1 29 := ⟨by decide +kernel, rfl⟩
theorem aX8_holds_29 : At cX8_holds 29 (.aload_n 3) 1 30 := ⟨by decide +kernel, rfl⟩
theorem aX8_holds_30 : At cX8_holds 30 (.iload_n 2) 1 31 := ⟨by decide +kernel, rfl⟩
theorem aX8_holds_31 : At cX8_holds 31 (.invokevirtual 156) 3 34 := ⟨by decide +kernel, rfl⟩
theorem aX8_holds_34 : Br cX8_holds 34 (.ifCond .eq (7)) (7) 37 41 := ⟨by decide +kernel, rfl, by decide⟩
theorem aX8_holds_37 : At cX8_holds 37 (.iconst 1) 1 38 := ⟨by decide +kernel, rfl⟩
theorem aX8_holds_38 : Br cX8_holds 38 (.goto (4)) (4) 41 42 := ⟨by decide +kernel, rfl, by decide⟩
theorem aX8_holds_41 : At cX8_holds 41 (.iconst 0) 1 42 := ⟨by decide +kernel, rfl⟩
theorem aX8_holds_42 : At cX8_holds 42 (.ireturn) 1 43 := ⟨by decide +kernel, rfl⟩
theorem aX8_conveys_0 : At cX8_conveys 0 (.aload_n 0) 1 1 := ⟨by decide +kernel, rfl⟩
theorem aX8_conveys_1 : At cX8_conveys 1 (.getfield 10) 3 4 := ⟨by decide +kernel, rfl⟩
theorem aX8_conveys_4 : At cX8_conveys 4 (.iload_n 1) 1 5 := ⟨by decide +kernel, rfl⟩
theorem aX8_conveys_5 : At cX8_conveys 5 (.invokevirtual 128) 3 8 := ⟨by decide +kernel, rfl⟩
theorem aX8_conveys_8 : At cX8_conveys 8 (.astore 4) 2 10 := ⟨by decide +kernel, rfl⟩
theorem aX8_conveys_10 : At cX8_conveys 10 (.aload 4) 2 12 := ⟨by decide +kernel, rfl⟩
theorem aX8_conveys_12 : Br cX8_conveys 12 (.ifnull (21)) (21) 15 33 := ⟨by decide +kernel, rfl, by decide⟩
theorem aX8_conveys_15 : At cX8_conveys 15 (.iload_n 2) 1 16 := ⟨by decide +kernel, rfl⟩
theorem aX8_conveys_16 : At cX8_conveys 16 (.sipush 1296) 3 19 := ⟨by decide +kernel, rfl⟩
theorem aX8_conveys_19 : At cX8_conveys 19 (.invokestatic 58) 3 22 := ⟨by decide +kernel, rfl⟩
theorem aX8_conveys_22 : Br cX8_conveys 22 (.ifCond .ne (11)) (11) 25 33 := ⟨by decide +kernel, rfl, by decide⟩
theorem aX8_conveys_25 : At cX8_conveys 25 (.iload_n 3) 1 26 := ⟨by decide +kernel, rfl⟩
theorem aX8_conveys_26 : At cX8_conveys 26 (.iconst 2) 1 27 := ⟨by decide +kernel, rfl⟩
theorem aX8_conveys_27 : At cX8_conveys 27 (.invokestatic 58) 3 30 := ⟨by decide +kernel, rfl⟩
theorem aX8_conveys_30 : Br cX8_conveys 30 (.ifCond .eq (9)) (9) 33 39 := ⟨by decide +kernel, rfl, by decide⟩
theorem aX8_conveys_33 : At cX8_conveys 33 (.aload_n 0) 1 34 := ⟨by decide +kernel, rfl⟩
theorem aX8_conveys_34 : At cX8_conveys 34 (.iconst 0) 1 35 := ⟨by decide +kernel, rfl⟩
theorem aX8_conveys_35 : At cX8_conveys 35 (.invokevirtual 62) 3 38 := ⟨by decide +kernel, rfl⟩
theorem aX8_conveys_38 : At cX8_conveys 38 (.ireturn) 1 39 := ⟨by decide +kernel, rfl⟩
theorem aX8_conveys_39 : At cX8_conveys 39 (.iload_n 3) 1 40 := ⟨by decide +kernel, rfl⟩
theorem aX8_conveys_40 : Br cX8_conveys 40 (.ifCond .ne (12)) (12) 43 52 := ⟨by decide +kernel, rfl, by decide⟩
theorem aX8_conveys_43 : At cX8_conveys 43 (.aload 4) 2 45 := ⟨by decide +kernel, rfl⟩
theorem aX8_conveys_45 : At cX8_conveys 45 (.iload_n 2) 1 46 := ⟨by decide +kernel, rfl⟩
theorem aX8_conveys_46 : At cX8_conveys 46 (.invokevirtual 160) 3 49 := ⟨by decide +kernel, rfl⟩
theorem aX8_conveys_49 : Br cX8_conveys 49 (.goto (9)) (9) 52 58 := ⟨by decide +kernel, rfl, by decide⟩
theorem aX8_conveys_52 : At cX8_conveys 52 (.aload 4) 2 54 := ⟨by decide +kernel, rfl⟩
theorem aX8_conveys_54 : At cX8_conveys 54 (.iload_n 2) 1 55 := ⟨by decide +kernel, rfl⟩
theorem aX8_conveys_55 : At cX8_conveys 55 (.invokevirtual 163) 3 58 := ⟨by decide +kernel, rfl⟩
theorem aX8_conveys_58 : At cX8_conveys 58 (.istore 5) 2 60 := ⟨by decide +kernel, rfl⟩
theorem aX8_conveys_60 : At cX8_conveys 60 (.iload 5) 2 62 := ⟨by decide +kernel, rfl⟩
theorem aX8_conveys_62 : Br cX8_conveys 62 (.ifCond .ge (11)) (11) 65 73 := ⟨by decide +kernel, rfl, by decide⟩
theorem aX8_conveys_65 : At cX8_conveys 65 (.aload_n 0) 1 66 := ⟨by decide +kernel, rfl⟩
theorem aX8_conveys_66 : At cX8_conveys 66 (.iconst 3) 1 67 := ⟨by decide +kernel, rfl⟩
theorem aX8_conveys_67 : At cX8_conveys 67 (.invokevirtual 62) 3 70 := ⟨by decide +kernel, rfl⟩
theorem aX8_conveys_70 : Br cX8_conveys 70 (.goto (5)) (5) 73 75 := ⟨by decide +kernel, rfl, by decide⟩
theorem aX8_conveys_73 : At cX8_conveys 73 (.iload 5) 2 75 := ⟨by decide +kernel, rfl⟩
theorem aX8_conveys_75 : At cX8_conveys 75 (.ireturn) 1 76 := ⟨by decide +kernel, rfl⟩
theorem aX8_drop_0 : At cX8_drop 0 (.aload_n 0) 1 1 := ⟨by decide +kernel, rfl⟩
theorem aX8_drop_1 : At cX8_drop 1 (.getfield 10) 3 4 := ⟨by decide +kernel, rfl⟩
theorem aX8_drop_4 : At cX8_drop 4 (.getfield 101) 3 7 := ⟨by decide +kernel, rfl⟩
theorem aX8_drop_7 : Br cX8_drop 7 (.ifCond .gt (9)) (9) 10 16 := ⟨by decide +kernel, rfl, by decide⟩
theorem aX8_drop_10 : At cX8_drop 10 (.aload_n 0) 1 11 := ⟨by decide +kernel, rfl⟩
theorem aX8_drop_11 : At cX8_drop 11 (.iconst 3) 1 12 := ⟨by decide +kernel, rfl⟩
theorem aX8_drop_12 : At cX8_drop 12 (.invokevirtual 62) 3 15 := ⟨by decide +kernel, rfl⟩
theorem aX8_drop_15 : At cX8_drop 15 (.ireturn) 1 16 := ⟨by decide +kernel, rfl⟩
theorem aX8_drop_16 : At cX8_drop 16 (.aload_n 0) 1 17 := ⟨by decide +kernel, rfl⟩
theorem aX8_drop_17 : At cX8_drop 17 (.getfield 10) 3 20 := ⟨by decide +kernel, rfl⟩
theorem aX8_drop_20 : At cX8_drop 20 (.dup) 1 21 := ⟨by decide +kernel, rfl⟩
theorem aX8_drop_21 : At cX8_drop 21 (.getfield 101) 3 24 := ⟨by decide +kernel, rfl⟩
theorem aX8_drop_24 : At cX8_drop 24 (.iconst 1) 1 25 := ⟨by decide +kernel, rfl⟩
theorem aX8_drop_25 : At cX8_drop 25 (.isub) 1 26 := ⟨by decide +kernel, rfl⟩
theorem aX8_drop_26 : At cX8_drop 26 (.putfield 101) 3 29 := ⟨by decide +kernel, rfl⟩
theorem aX8_drop_29 : At cX8_drop 29 (.aload_n 0) 1 30 := ⟨by decide +kernel, rfl⟩
theorem aX8_drop_30 : At cX8_drop 30 (.invokevirtual 125) 3 33 := ⟨by decide +kernel, rfl⟩
theorem aX8_drop_33 : At cX8_drop 33 (.aload_n 0) 1 34 := ⟨by decide +kernel, rfl⟩
theorem aX8_drop_34 : At cX8_drop 34 (.getfield 10) 3 37 := ⟨by decide +kernel, rfl⟩
theorem aX8_drop_37 : At cX8_drop 37 (.getfield 101) 3 40 := ⟨by decide +kernel, rfl⟩
theorem aX8_drop_40 : At cX8_drop 40 (.ireturn) 1 41 := ⟨by decide +kernel, rfl⟩
theorem aX8_prune_0 : At cX8_prune 0 (.iconst 0) 1 1 := ⟨by decide +kernel, rfl⟩
theorem aX8_prune_1 : At cX8_prune 1 (.istore_n 1) 1 2 := ⟨by decide +kernel, rfl⟩
theorem aX8_prune_2 : At cX8_prune 2 (.aload_n 0) 1 3 := ⟨by decide +kernel, rfl⟩
theorem aX8_prune_3 : At cX8_prune 3 (.getfield 10) 3 6 := ⟨by decide +kernel, rfl⟩
theorem aX8_prune_6 : At cX8_prune 6 (.getfield 101) 3 9 := ⟨by decide +kernel, rfl⟩
theorem aX8_prune_9 : At cX8_prune 9 (.istore_n 2) 1 10 := ⟨by decide +kernel, rfl⟩
theorem aX8_prune_10 : At cX8_prune 10 (.iconst 0) 1 11 := ⟨by decide +kernel, rfl⟩
theorem aX8_prune_11 : At cX8_prune 11 (.istore_n 3) 1 12 := ⟨by decide +kernel, rfl⟩
theorem aX8_prune_12 : At cX8_prune 12 (.iload_n 3) 1 13 := ⟨by decide +kernel, rfl⟩
theorem aX8_prune_13 : At cX8_prune 13 (.iload_n 2) 1 14 := ⟨by decide +kernel, rfl⟩
theorem aX8_prune_14 : Br cX8_prune 14 (.if_icmp .ge (47)) (47) 17 61 := ⟨by decide +kernel, rfl, by decide⟩
theorem aX8_prune_17 : At cX8_prune 17 (.aload_n 0) 1 18 := ⟨by decide +kernel, rfl⟩
theorem aX8_prune_18 : At cX8_prune 18 (.getfield 10) 3 21 := ⟨by decide +kernel, rfl⟩
theorem aX8_prune_21 : At cX8_prune 21 (.iload_n 3) 1 22 := ⟨by decide +kernel, rfl⟩
theorem aX8_prune_22 : At cX8_prune 22 (.invokevirtual 128) 3 25 := ⟨by decide +kernel, rfl⟩
theorem aX8_prune_25 : At cX8_prune 25 (.astore 4) 2 27 := ⟨by decide +kernel, rfl⟩
theorem aX8_prune_27 : At cX8_prune 27 (.aload 4) 2 29 := ⟨by decide +kernel, rfl⟩
theorem aX8_prune_29 : Br cX8_prune 29 (.ifnull (26)) (26) 32 55 := ⟨by decide +kernel, rfl, by decide⟩
theorem aX8_prune_32 : At cX8_prune 32 (.aload_n 0) 1 33 := ⟨by decide +kernel, rfl⟩
theorem aX8_prune_33 : At cX8_prune 33 (.aload 4) 2 35 := ⟨by decide +kernel, rfl⟩
theorem aX8_prune_35 : At cX8_prune 35 (.invokevirtual 153) 3 38 := ⟨by decide +kernel, rfl⟩
theorem aX8_prune_38 : Br cX8_prune 38 (.ifCond .le (17)) (17) 41 55 := ⟨by decide +kernel, rfl, by decide⟩
theorem aX8_prune_41 : At cX8_prune 41 (.aload_n 0) 1 42 := ⟨by decide +kernel, rfl⟩
theorem aX8_prune_42 : At cX8_prune 42 (.getfield 10) 3 45 := ⟨by decide +kernel, rfl⟩
theorem aX8_prune_45 : At cX8_prune 45 (.getfield 166) 3 48 := ⟨by decide +kernel, rfl⟩
theorem aX8_prune_48 : At cX8_prune 48 (.iload_n 1) 1 49 := ⟨by decide +kernel, rfl⟩
theorem aX8_prune_49 : At cX8_prune 49 (.aload 4) 2 51 := ⟨by decide +kernel, rfl⟩
theorem aX8_prune_51 : At cX8_prune 51 (.aastore) 1 52 := ⟨by decide +kernel, rfl⟩
theorem aX8_prune_52 : At cX8_prune 52 (.iinc 1 1) 3 55 := ⟨by decide +kernel, rfl⟩
theorem aX8_prune_55 : At cX8_prune 55 (.iinc 3 1) 3 58 := ⟨by decide +kernel, rfl⟩
theorem aX8_prune_58 : Br cX8_prune 58 (.goto (-46)) (-46) 61 12 := ⟨by decide +kernel, rfl, by decide⟩
theorem aX8_prune_61 : At cX8_prune 61 (.aload_n 0) 1 62 := ⟨by decide +kernel, rfl⟩
theorem aX8_prune_62 : At cX8_prune 62 (.getfield 10) 3 65 := ⟨by decide +kernel, rfl⟩
theorem aX8_prune_65 : At cX8_prune 65 (.iload_n 1) 1 66 := ⟨by decide +kernel, rfl⟩
theorem aX8_prune_66 : At cX8_prune 66 (.putfield 101) 3 69 := ⟨by decide +kernel, rfl⟩
theorem aX8_prune_69 : At cX8_prune 69 (.iload_n 2) 1 70 := ⟨by decide +kernel, rfl⟩
theorem aX8_prune_70 : At cX8_prune 70 (.iload_n 1) 1 71 := ⟨by decide +kernel, rfl⟩
theorem aX8_prune_71 : At cX8_prune 71 (.isub) 1 72 := ⟨by decide +kernel, rfl⟩
theorem aX8_prune_72 : At cX8_prune 72 (.ireturn) 1 73 := ⟨by decide +kernel, rfl⟩
theorem aX8_clash_0 : At cX8_clash 0 (.iload_n 1) 1 1 := ⟨by decide +kernel, rfl⟩
theorem aX8_clash_1 : At cX8_clash 1 (.aload_n 0) 1 2 := ⟨by decide +kernel, rfl⟩
theorem aX8_clash_2 : At cX8_clash 2 (.getfield 46) 3 5 := ⟨by decide +kernel, rfl⟩
theorem aX8_clash_5 : At cX8_clash 5 (.arraylength) 1 6 := ⟨by decide +kernel, rfl⟩
theorem aX8_clash_6 : At cX8_clash 6 (.invokestatic 58) 3 9 := ⟨by decide +kernel, rfl⟩
theorem aX8_clash_9 : Br cX8_clash 9 (.ifCond .eq (11)) (11) 12 20 := ⟨by decide +kernel, rfl, by decide⟩
theorem aX8_clash_12 : At cX8_clash 12 (.aload_n 0) 1 13 := ⟨by decide +kernel, rfl⟩
theorem aX8_clash_13 : At cX8_clash 13 (.iconst 0) 1 14 := ⟨by decide +kernel, rfl⟩
theorem aX8_clash_14 : At cX8_clash 14 (.invokevirtual 62) 3 17 := ⟨by decide +kernel, rfl⟩
theorem aX8_clash_17 : Br cX8_clash 17 (.goto (9)) (9) 20 26 := ⟨by decide +kernel, rfl, by decide⟩
theorem aX8_clash_20 : At cX8_clash 20 (.aload_n 0) 1 21 := ⟨by decide +kernel, rfl⟩
theorem aX8_clash_21 : At cX8_clash 21 (.getfield 46) 3 24 := ⟨by decide +kernel, rfl⟩
theorem aX8_clash_24 : At cX8_clash 24 (.iload_n 1) 1 25 := ⟨by decide +kernel, rfl⟩
theorem aX8_clash_25 : At cX8_clash 25 (.iaload) 1 26 := ⟨by decide +kernel, rfl⟩
theorem aX8_clash_26 : At cX8_clash 26 (.ireturn) 1 27 := ⟨by decide +kernel, rfl⟩
theorem aX8_owner_0 : At cX8_owner 0 (.aload_n 0) 1 1 := ⟨by decide +kernel, rfl⟩
theorem aX8_owner_1 : At cX8_owner 1 (.getfield 10) 3 4 := ⟨by decide +kernel, rfl⟩
theorem aX8_owner_4 : At cX8_owner 4 (.iload_n 1) 1 5 := ⟨by decide +kernel, rfl⟩
theorem aX8_owner_5 : At cX8_owner 5 (.invokevirtual 169) 3 8 := ⟨by decide +kernel, rfl⟩
theorem aX8_owner_8 : Br cX8_owner 8 (.ifCond .eq (12)) (12) 11 20 := ⟨by decide +kernel, rfl, by decide⟩
theorem aX8_owner_11 : At cX8_owner 11 (.iload_n 2) 1 12 := ⟨by decide +kernel, rfl⟩
theorem aX8_owner_12 : At cX8_owner 12 (.bipush 12) 2 14 := ⟨by decide +kernel, rfl⟩
theorem aX8_owner_14 : At cX8_owner 14 (.invokestatic 58) 3 17 := ⟨by decide +kernel, rfl⟩
theorem aX8_owner_17 : Br cX8_owner 17 (.ifCond .eq (9)) (9) 20 26 := ⟨by decide +kernel, rfl, by decide⟩
theorem aX8_owner_20 : At cX8_owner 20 (.aload_n 0) 1 21 := ⟨by decide +kernel, rfl⟩
theorem aX8_owner_21 : At cX8_owner 21 (.iconst 0) 1 22 := ⟨by decide +kernel, rfl⟩
theorem aX8_owner_22 : At cX8_owner 22 (.invokevirtual 62) 3 25 := ⟨by decide +kernel, rfl⟩
theorem aX8_owner_25 : At cX8_owner 25 (.ireturn) 1 26 := ⟨by decide +kernel, rfl⟩
theorem aX8_owner_26 : At cX8_owner 26 (.aload_n 0) 1 27 := ⟨by decide +kernel, rfl⟩
theorem aX8_owner_27 : At cX8_owner 27 (.getfield 23) 3 30 := ⟨by decide +kernel, rfl⟩
theorem aX8_owner_30 : At cX8_owner 30 (.iload_n 1) 1 31 := ⟨by decide +kernel, rfl⟩
theorem aX8_owner_31 : At cX8_owner 31 (.iload_n 2) 1 32 := ⟨by decide +kernel, rfl⟩
theorem aX8_owner_32 : At cX8_owner 32 (.invokevirtual 172) 3 35 := ⟨by decide +kernel, rfl⟩
theorem aX8_owner_35 : At cX8_owner 35 (.ireturn) 1 36 := ⟨by decide +kernel, rfl⟩
theorem aX8_chain_0 : At cX8_chain 0 (.aload_n 0) 1 1 := ⟨by decide +kernel, rfl⟩
theorem aX8_chain_1 : At cX8_chain 1 (.getfield 10) 3 4 := ⟨by decide +kernel, rfl⟩
theorem aX8_chain_4 : At cX8_chain 4 (.iload_n 1) 1 5 := ⟨by decide +kernel, rfl⟩
theorem aX8_chain_5 : At cX8_chain 5 (.invokevirtual 169) 3 8 := ⟨by decide +kernel, rfl⟩
theorem aX8_chain_8 : Br cX8_chain 8 (.ifCond .eq (12)) (12) 11 20 := ⟨by decide +kernel, rfl, by decide⟩
theorem aX8_chain_11 : At cX8_chain 11 (.iload_n 2) 1 12 := ⟨by decide +kernel, rfl⟩
theorem aX8_chain_12 : At cX8_chain 12 (.bipush 12) 2 14 := ⟨by decide +kernel, rfl⟩
theorem aX8_chain_14 : At cX8_chain 14 (.invokestatic 58) 3 17 := ⟨by decide +kernel, rfl⟩
theorem aX8_chain_17 : Br cX8_chain 17 (.ifCond .eq (9)) (9) 20 26 := ⟨by decide +kernel, rfl, by decide⟩
theorem aX8_chain_20 : At cX8_chain 20 (.aload_n 0) 1 21 := ⟨by decide +kernel, rfl⟩
theorem aX8_chain_21 : At cX8_chain 21 (.iconst 0) 1 22 := ⟨by decide +kernel, rfl⟩
theorem aX8_chain_22 : At cX8_chain 22 (.invokevirtual 62) 3 25 := ⟨by decide +kernel, rfl⟩
theorem aX8_chain_25 : At cX8_chain 25 (.ireturn) 1 26 := ⟨by decide +kernel, rfl⟩
theorem aX8_chain_26 : At cX8_chain 26 (.iload_n 2) 1 27 := ⟨by decide +kernel, rfl⟩
theorem aX8_chain_27 : At cX8_chain 27 (.iconst 3) 1 28 := ⟨by decide +kernel, rfl⟩
theorem aX8_chain_28 : At cX8_chain 28 (.irem) 1 29 := ⟨by decide +kernel, rfl⟩
theorem aX8_chain_29 : At cX8_chain 29 (.istore 4) 2 31 := ⟨by decide +kernel, rfl⟩
theorem aX8_chain_31 : At cX8_chain 31 (.iconst 1) 1 32 := ⟨by decide +kernel, rfl⟩
theorem aX8_chain_32 : At cX8_chain 32 (.istore 5) 2 34 := ⟨by decide +kernel, rfl⟩
theorem aX8_chain_34 : At cX8_chain 34 (.iconst 0) 1 35 := ⟨by decide +kernel, rfl⟩
theorem aX8_chain_35 : At cX8_chain 35 (.istore 6) 2 37 := ⟨by decide +kernel, rfl⟩
theorem aX8_chain_37 : At cX8_chain 37 (.iload 6) 2 39 := ⟨by decide +kernel, rfl⟩
theorem aX8_chain_39 : At cX8_chain 39 (.aload_n 0) 1 40 := ⟨by decide +kernel, rfl⟩
theorem aX8_chain_40 : At cX8_chain 40 (.getfield 10) 3 43 := ⟨by decide +kernel, rfl⟩
theorem aX8_chain_43 : At cX8_chain 43 (.getfield 101) 3 46 := ⟨by decide +kernel, rfl⟩
theorem aX8_chain_46 : Br cX8_chain 46 (.if_icmp .ge (58)) (58) 49 104 := ⟨by decide +kernel, rfl, by decide⟩
theorem aX8_chain_49 : At cX8_chain 49 (.iload 5) 2 51 := ⟨by decide +kernel, rfl⟩
theorem aX8_chain_51 : At cX8_chain 51 (.iload_n 3) 1 52 := ⟨by decide +kernel, rfl⟩
theorem aX8_chain_52 : At cX8_chain 52 (.iconst 1) 1 53 := ⟨by decide +kernel, rfl⟩
theorem aX8_chain_53 : At cX8_chain 53 (.iadd) 1 54 := ⟨by decide +kernel, rfl⟩
theorem aX8_chain_54 : Br cX8_chain 54 (.if_icmp .eq (50)) (50) 57 104 := ⟨by decide +kernel, rfl, by decide⟩
theorem aX8_chain_57 : At cX8_chain 57 (.aload_n 0) 1 58 := ⟨by decide +kernel, rfl⟩
theorem aX8_chain_58 : At cX8_chain 58 (.getfield 10) 3 61 := ⟨by decide +kernel, rfl⟩
theorem aX8_chain_61 : At cX8_chain 61 (.iload 6) 2 63 := ⟨by decide +kernel, rfl⟩
theorem aX8_chain_63 : At cX8_chain 63 (.invokevirtual 128) 3 66 := ⟨by decide +kernel, rfl⟩
theorem aX8_chain_66 : At cX8_chain 66 (.astore 7) 2 68 := ⟨by decide +kernel, rfl⟩
theorem aX8_chain_68 : At cX8_chain 68 (.aload 7) 2 70 := ⟨by decide +kernel, rfl⟩
theorem aX8_chain_70 : Br cX8_chain 70 (.ifnonnull (7)) (7) 73 77 := ⟨by decide +kernel, rfl, by decide⟩
theorem aX8_chain_73 : At cX8_chain 73 (.iconst (-1)) 1 74 := ⟨by decide +kernel, rfl⟩
theorem aX8_chain_74 : Br cX8_chain 74 (.goto (10)) (10) 77 84 := ⟨by decide +kernel, rfl, by decide⟩
theorem aX8_chain_77 : At cX8_chain 77 (.aload 7) 2 79 := ⟨by decide +kernel, rfl⟩
theorem aX8_chain_79 : At cX8_chain 79 (.iload_n 1) 1 80 := ⟨by decide +kernel, rfl⟩
theorem aX8_chain_80 : At cX8_chain 80 (.iload_n 2) 1 81 := ⟨by decide +kernel, rfl⟩
theorem aX8_chain_81 : At cX8_chain 81 (.invokevirtual 175) 3 84 := ⟨by decide +kernel, rfl⟩
theorem aX8_chain_84 : At cX8_chain 84 (.istore 8) 2 86 := ⟨by decide +kernel, rfl⟩
theorem aX8_chain_86 : At cX8_chain 86 (.iload 8) 2 88 := ⟨by decide +kernel, rfl⟩
theorem aX8_chain_88 : Br cX8_chain 88 (.ifCond .lt (10)) (10) 91 98 := ⟨by decide +kernel, rfl, by decide⟩
theorem aX8_chain_91 : At cX8_chain 91 (.iload 8) 2 93 := ⟨by decide +kernel, rfl⟩
theorem aX8_chain_93 : At cX8_chain 93 (.istore 4) 2 95 := ⟨by decide +kernel, rfl⟩
theorem aX8_chain_95 : At cX8_chain 95 (.iinc 5 1) 3 98 := ⟨by decide +kernel, rfl⟩
theorem aX8_chain_98 : At cX8_chain 98 (.iinc 6 1) 3 101 := ⟨by decide +kernel, rfl⟩
theorem aX8_chain_101 : Br cX8_chain 101 (.goto (-64)) (-64) 104 37 := ⟨by decide +kernel, rfl, by decide⟩
theorem aX8_chain_104 : At cX8_chain 104 (.iload_n 3) 1 105 := ⟨by decide +kernel, rfl⟩
theorem aX8_chain_105 : At cX8_chain 105 (.iconst (-1)) 1 106 := ⟨by decide +kernel, rfl⟩
theorem aX8_chain_106 : Br cX8_chain 106 (.if_icmp .ne (6)) (6) 109 112 := ⟨by decide +kernel, rfl, by decide⟩
theorem aX8_chain_109 : At cX8_chain 109 (.iload 5) 2 111 := ⟨by decide +kernel, rfl⟩
theorem aX8_chain_111 : At cX8_chain 111 (.ireturn) 1 112 := ⟨by decide +kernel, rfl⟩
theorem aX8_chain_112 : At cX8_chain 112 (.iload 5) 2 114 := ⟨by decide +kernel, rfl⟩
theorem aX8_chain_114 : At cX8_chain 114 (.iload_n 3) 1 115 := ⟨by decide +kernel, rfl⟩
theorem aX8_chain_115 : At cX8_chain 115 (.iconst 1) 1 116 := ⟨by decide +kernel, rfl⟩
theorem aX8_chain_116 : At cX8_chain 116 (.iadd) 1 117 := ⟨by decide +kernel, rfl⟩
theorem aX8_chain_117 : Br cX8_chain 117 (.if_icmp .ne (8)) (8) 120 125 := ⟨by decide +kernel, rfl, by decide⟩
theorem aX8_chain_120 : At cX8_chain 120 (.iload 4) 2 122 := ⟨by decide +kernel, rfl⟩
theorem aX8_chain_122 : Br cX8_chain 122 (.goto (8)) (8) 125 130 := ⟨by decide +kernel, rfl, by decide⟩
theorem aX8_chain_125 : At cX8_chain 125 (.aload_n 0) 1 126 := ⟨by decide +kernel, rfl⟩
theorem aX8_chain_126 : At cX8_chain 126 (.iconst 3) 1 127 := ⟨by decide +kernel, rfl⟩
theorem aX8_chain_127 : At cX8_chain 127 (.invokevirtual 62) 3 130 := ⟨by decide +kernel, rfl⟩
theorem aX8_chain_130 : At cX8_chain 130 (.ireturn) 1 131 := ⟨by decide +kernel, rfl⟩
theorem aX8_hand_0 : At cX8_hand 0 (.aload_n 0) 1 1 := ⟨by decide +kernel, rfl⟩
theorem aX8_hand_1 : At cX8_hand 1 (.getfield 10) 3 4 := ⟨by decide +kernel, rfl⟩
theorem aX8_hand_4 : At cX8_hand 4 (.iload_n 1) 1 5 := ⟨by decide +kernel, rfl⟩
theorem aX8_hand_5 : At cX8_hand 5 (.invokevirtual 169) 3 8 := ⟨by decide +kernel, rfl⟩
theorem aX8_hand_8 : Br cX8_hand 8 (.ifCond .eq (11)) (11) 11 19 := ⟨by decide +kernel, rfl, by decide⟩
theorem aX8_hand_11 : At cX8_hand 11 (.iload_n 2) 1 12 := ⟨by decide +kernel, rfl⟩
theorem aX8_hand_12 : At cX8_hand 12 (.iconst 3) 1 13 := ⟨by decide +kernel, rfl⟩
theorem aX8_hand_13 : At cX8_hand 13 (.invokestatic 58) 3 16 := ⟨by decide +kernel, rfl⟩
theorem aX8_hand_16 : Br cX8_hand 16 (.ifCond .eq (9)) (9) 19 25 := ⟨by decide +kernel, rfl, by decide⟩
theorem aX8_hand_19 : At cX8_hand 19 (.aload_n 0) 1 20 := ⟨by decide +kernel, rfl⟩
theorem aX8_hand_20 : At cX8_hand 20 (.iconst 0) 1 21 := ⟨by decide +kernel, rfl⟩
theorem aX8_hand_21 : At cX8_hand 21 (.invokevirtual 62) 3 24 := ⟨by decide +kernel, rfl⟩
theorem aX8_hand_24 : At cX8_hand 24 (.ireturn) 1 25 := ⟨by decide +kernel, rfl⟩
theorem aX8_hand_25 : At cX8_hand 25 (.iconst 0) 1 26 := ⟨by decide +kernel, rfl⟩
theorem aX8_hand_26 : At cX8_hand 26 (.istore_n 3) 1 27 := ⟨by decide +kernel, rfl⟩
theorem aX8_hand_27 : At cX8_hand 27 (.iconst 0) 1 28 := ⟨by decide +kernel, rfl⟩
theorem aX8_hand_28 : At cX8_hand 28 (.istore 4) 2 30 := ⟨by decide +kernel, rfl⟩
theorem aX8_hand_30 : At cX8_hand 30 (.iload 4) 2 32 := ⟨by decide +kernel, rfl⟩
theorem aX8_hand_32 : At cX8_hand 32 (.bipush 12) 2 34 := ⟨by decide +kernel, rfl⟩
theorem aX8_hand_34 : Br cX8_hand 34 (.if_icmp .ge (30)) (30) 37 64 := ⟨by decide +kernel, rfl, by decide⟩
theorem aX8_hand_37 : At cX8_hand 37 (.aload_n 0) 1 38 := ⟨by decide +kernel, rfl⟩
theorem aX8_hand_38 : At cX8_hand 38 (.getfield 23) 3 41 := ⟨by decide +kernel, rfl⟩
theorem aX8_hand_41 : At cX8_hand 41 (.iload_n 1) 1 42 := ⟨by decide +kernel, rfl⟩
theorem aX8_hand_42 : At cX8_hand 42 (.iload 4) 2 44 := ⟨by decide +kernel, rfl⟩
theorem aX8_hand_44 : At cX8_hand 44 (.invokevirtual 172) 3 47 := ⟨by decide +kernel, rfl⟩
theorem aX8_hand_47 : At cX8_hand 47 (.iload_n 2) 1 48 := ⟨by decide +kernel, rfl⟩
theorem aX8_hand_48 : Br cX8_hand 48 (.if_icmp .ne (10)) (10) 51 58 := ⟨by decide +kernel, rfl, by decide⟩
theorem aX8_hand_51 : At cX8_hand 51 (.iload_n 3) 1 52 := ⟨by decide +kernel, rfl⟩
theorem aX8_hand_52 : At cX8_hand 52 (.iconst 1) 1 53 := ⟨by decide +kernel, rfl⟩
theorem aX8_hand_53 : At cX8_hand 53 (.iload 4) 2 55 := ⟨by decide +kernel, rfl⟩
theorem aX8_hand_55 : At cX8_hand 55 (.ishl) 1 56 := ⟨by decide +kernel, rfl⟩
theorem aX8_hand_56 : At cX8_hand 56 (.ior) 1 57 := ⟨by decide +kernel, rfl⟩
theorem aX8_hand_57 : At cX8_hand 57 (.istore_n 3) 1 58 := ⟨by decide +kernel, rfl⟩
theorem aX8_hand_58 : At cX8_hand 58 (.iinc 4 1) 3 61 := ⟨by decide +kernel, rfl⟩
theorem aX8_hand_61 : Br cX8_hand 61 (.goto (-31)) (-31) 64 30 := ⟨by decide +kernel, rfl, by decide⟩
theorem aX8_hand_64 : At cX8_hand 64 (.iload_n 3) 1 65 := ⟨by decide +kernel, rfl⟩
theorem aX8_hand_65 : At cX8_hand 65 (.ireturn) 1 66 := ⟨by decide +kernel, rfl⟩
theorem aX8_owners_0 : At cX8_owners 0 (.iload_n 1) 1 1 := ⟨by decide +kernel, rfl⟩
theorem aX8_owners_1 : At cX8_owners 1 (.bipush 12) 2 3 := ⟨by decide +kernel, rfl⟩
theorem aX8_owners_3 : At cX8_owners 3 (.invokestatic 58) 3 6 := ⟨by decide +kernel, rfl⟩
theorem aX8_owners_6 : Br cX8_owners 6 (.ifCond .eq (11)) (11) 9 17 := ⟨by decide +kernel, rfl, by decide⟩
theorem aX8_owners_9 : At cX8_owners 9 (.aload_n 0) 1 10 := ⟨by decide +kernel, rfl⟩
theorem aX8_owners_10 : At cX8_owners 10 (.iconst 0) 1 11 := ⟨by decide +kernel, rfl⟩
theorem aX8_owners_11 : At cX8_owners 11 (.invokevirtual 62) 3 14 := ⟨by decide +kernel, rfl⟩
theorem aX8_owners_14 : Br cX8_owners 14 (.goto (8)) (8) 17 22 := ⟨by decide +kernel, rfl, by decide⟩
theorem aX8_owners_17 : At cX8_owners 17 (.aload_n 0) 1 18 := ⟨by decide +kernel, rfl⟩
theorem aX8_owners_18 : At cX8_owners 18 (.iload_n 1) 1 19 := ⟨by decide +kernel, rfl⟩
theorem aX8_owners_19 : At cX8_owners 19 (.invokevirtual 178) 3 22 := ⟨by decide +kernel, rfl⟩
theorem aX8_owners_22 : At cX8_owners 22 (.ireturn) 1 23 := ⟨by decide +kernel, rfl⟩
theorem aX8_sure_0 : At cX8_sure 0 (.iload_n 1) 1 1 := ⟨by decide +kernel, rfl⟩
theorem aX8_sure_1 : At cX8_sure 1 (.bipush 12) 2 3 := ⟨by decide +kernel, rfl⟩
theorem aX8_sure_3 : At cX8_sure 3 (.invokestatic 58) 3 6 := ⟨by decide +kernel, rfl⟩
theorem aX8_sure_6 : Br cX8_sure 6 (.ifCond .eq (9)) (9) 9 15 := ⟨by decide +kernel, rfl, by decide⟩
theorem aX8_sure_9 : At cX8_sure 9 (.aload_n 0) 1 10 := ⟨by decide +kernel, rfl⟩
theorem aX8_sure_10 : At cX8_sure 10 (.iconst 0) 1 11 := ⟨by decide +kernel, rfl⟩
theorem aX8_sure_11 : At cX8_sure 11 (.invokevirtual 62) 3 14 := ⟨by decide +kernel, rfl⟩
theorem aX8_sure_14 : At cX8_sure 14 (.ireturn) 1 15 := ⟨by decide +kernel, rfl⟩
theorem aX8_sure_15 : At cX8_sure 15 (.aload_n 0) 1 16 := ⟨by decide +kernel, rfl⟩
theorem aX8_sure_16 : At cX8_sure 16 (.iload_n 1) 1 17 := ⟨by decide +kernel, rfl⟩
theorem aX8_sure_17 : At cX8_sure 17 (.invokevirtual 178) 3 20 := ⟨by decide +kernel, rfl⟩
theorem aX8_sure_20 : At cX8_sure 20 (.istore_n 2) 1 21 := ⟨by decide +kernel, rfl⟩
theorem aX8_sure_21 : At cX8_sure 21 (.iconst 0) 1 22 := ⟨by decide +kernel, rfl⟩
theorem aX8_sure_22 : At cX8_sure 22 (.istore_n 3) 1 23 := ⟨by decide +kernel, rfl⟩
theorem aX8_sure_23 : At cX8_sure 23 (.iload_n 3) 1 24 := ⟨by decide +kernel, rfl⟩
theorem aX8_sure_24 : At cX8_sure 24 (.iconst 3) 1 25 := ⟨by decide +kernel, rfl⟩
theorem aX8_sure_25 : Br cX8_sure 25 (.if_icmp .ge (18)) (18) 28 43 := ⟨by decide +kernel, rfl, by decide⟩
theorem aX8_sure_28 : At cX8_sure 28 (.iload_n 2) 1 29 := ⟨by decide +kernel, rfl⟩
theorem aX8_sure_29 : At cX8_sure 29 (.iconst 1) 1 30 := ⟨by decide +kernel, rfl⟩
theorem aX8_sure_30 : At cX8_sure 30 (.iload_n 3) 1 31 := ⟨by decide +kernel, rfl⟩
theorem aX8_sure_31 : At cX8_sure 31 (.ishl) 1 32 := ⟨by decide +kernel, rfl⟩
theorem aX8_sure_32 : Br cX8_sure 32 (.if_icmp .ne (5)) (5) 35 37 := ⟨by decide +kernel, rfl, by decide⟩
theorem aX8_sure_35 : At cX8_sure 35 (.iload_n 3) 1 36 := ⟨by decide +kernel, rfl⟩
theorem aX8_sure_36 : At cX8_sure 36 (.ireturn) 1 37 := ⟨by decide +kernel, rfl⟩
theorem aX8_sure_37 : At cX8_sure 37 (.iinc 3 1) 3 40 := ⟨by decide +kernel, rfl⟩
theorem aX8_sure_40 : Br cX8_sure 40 (.goto (-17)) (-17) 43 23 := ⟨by decide +kernel, rfl, by decide⟩
theorem aX8_sure_43 : At cX8_sure 43 (.aload_n 0) 1 44 := ⟨by decide +kernel, rfl⟩
theorem aX8_sure_44 : At cX8_sure 44 (.iconst 3) 1 45 := ⟨by decide +kernel, rfl⟩
theorem aX8_sure_45 : At cX8_sure 45 (.invokevirtual 62) 3 48 := ⟨by decide +kernel, rfl⟩
theorem aX8_sure_48 : At cX8_sure 48 (.ireturn) 1 49 := ⟨by decide +kernel, rfl⟩
theorem aX8_chance_0 : At cX8_chance 0 (.iload_n 1) 1 1 := ⟨by decide +kernel, rfl⟩
theorem aX8_chance_1 : At cX8_chance 1 (.bipush 12) 2 3 := ⟨by decide +kernel, rfl⟩
theorem aX8_chance_3 : At cX8_chance 3 (.invokestatic 58) 3 6 := ⟨by decide +kernel, rfl⟩
theorem aX8_chance_6 : Br cX8_chance 6 (.ifCond .ne (11)) (11) 9 17 := ⟨by decide +kernel, rfl, by decide⟩
theorem aX8_chance_9 : At cX8_chance 9 (.iload_n 2) 1 10 := ⟨by decide +kernel, rfl⟩
theorem aX8_chance_10 : At cX8_chance 10 (.iconst 3) 1 11 := ⟨by decide +kernel, rfl⟩
theorem aX8_chance_11 : At cX8_chance 11 (.invokestatic 58) 3 14 := ⟨by decide +kernel, rfl⟩
theorem aX8_chance_14 : Br cX8_chance 14 (.ifCond .eq (9)) (9) 17 23 := ⟨by decide +kernel, rfl, by decide⟩
theorem aX8_chance_17 : At cX8_chance 17 (.aload_n 0) 1 18 := ⟨by decide +kernel, rfl⟩
theorem aX8_chance_18 : At cX8_chance 18 (.iconst 0) 1 19 := ⟨by decide +kernel, rfl⟩
theorem aX8_chance_19 : At cX8_chance 19 (.invokevirtual 62) 3 22 := ⟨by decide +kernel, rfl⟩
theorem aX8_chance_22 : At cX8_chance 22 (.ireturn) 1 23 := ⟨by decide +kernel, rfl⟩
theorem aX8_chance_23 : At cX8_chance 23 (.iconst 0) 1 24 := ⟨by decide +kernel, rfl⟩
theorem aX8_chance_24 : At cX8_chance 24 (.istore_n 3) 1 25 := ⟨by decide +kernel, rfl⟩
theorem aX8_chance_25 : At cX8_chance 25 (.aload_n 0) 1 26 := ⟨by decide +kernel, rfl⟩
theorem aX8_chance_26 : At cX8_chance 26 (.getfield 10) 3 29 := ⟨by decide +kernel, rfl⟩
theorem aX8_chance_29 : At cX8_chance 29 (.invokevirtual 181) 3 32 := ⟨by decide +kernel, rfl⟩
theorem aX8_chance_32 : At cX8_chance 32 (.istore 4) 2 34 := ⟨by decide +kernel, rfl⟩
theorem aX8_chance_34 : At cX8_chance 34 (.aload_n 0) 1 35 := ⟨by decide +kernel, rfl⟩
theorem aX8_chance_35 : At cX8_chance 35 (.getfield 10) 3 38 := ⟨by decide +kernel, rfl⟩
theorem aX8_chance_38 : At cX8_chance 38 (.invokevirtual 84) 3 41 := ⟨by decide +kernel, rfl⟩
theorem aX8_chance_41 : At cX8_chance 41 (.istore 5) 2 43 := ⟨by decide +kernel, rfl⟩
theorem aX8_chance_43 : At cX8_chance 43 (.iload 5) 2 45 := ⟨by decide +kernel, rfl⟩
theorem aX8_chance_45 : At cX8_chance 45 (.iload 4) 2 47 := ⟨by decide +kernel, rfl⟩
theorem aX8_chance_47 : Br cX8_chance 47 (.if_icmp .ge (26)) (26) 50 73 := ⟨by decide +kernel, rfl, by decide⟩
theorem aX8_chance_50 : At cX8_chance 50 (.aload_n 0) 1 51 := ⟨by decide +kernel, rfl⟩
theorem aX8_chance_51 : At cX8_chance 51 (.getfield 23) 3 54 := ⟨by decide +kernel, rfl⟩
theorem aX8_chance_54 : At cX8_chance 54 (.iload 5) 2 56 := ⟨by decide +kernel, rfl⟩
theorem aX8_chance_56 : At cX8_chance 56 (.iload_n 1) 1 57 := ⟨by decide +kernel, rfl⟩
theorem aX8_chance_57 : At cX8_chance 57 (.invokevirtual 172) 3 60 := ⟨by decide +kernel, rfl⟩
theorem aX8_chance_60 : At cX8_chance 60 (.iload_n 2) 1 61 := ⟨by decide +kernel, rfl⟩
theorem aX8_chance_61 : Br cX8_chance 61 (.if_icmp .ne (6)) (6) 64 67 := ⟨by decide +kernel, rfl, by decide⟩
theorem aX8_chance_64 : At cX8_chance 64 (.iinc 3 1) 3 67 := ⟨by decide +kernel, rfl⟩
theorem aX8_chance_67 : At cX8_chance 67 (.iinc 5 1) 3 70 := ⟨by decide +kernel, rfl⟩
theorem aX8_chance_70 : Br cX8_chance 70 (.goto (-27)) (-27) 73 43 := ⟨by decide +kernel, rfl, by decide⟩
theorem aX8_chance_73 : At cX8_chance 73 (.iload_n 3) 1 74 := ⟨by decide +kernel, rfl⟩
theorem aX8_chance_74 : At cX8_chance 74 (.ireturn) 1 75 := ⟨by decide +kernel, rfl⟩
theorem aX8_least_0 : At cX8_least 0 (.iload_n 1) 1 1 := ⟨by decide +kernel, rfl⟩
theorem aX8_least_1 : At cX8_least 1 (.bipush 12) 2 3 := ⟨by decide +kernel, rfl⟩
theorem aX8_least_3 : At cX8_least 3 (.invokestatic 58) 3 6 := ⟨by decide +kernel, rfl⟩
theorem aX8_least_6 : Br cX8_least 6 (.ifCond .ne (11)) (11) 9 17 := ⟨by decide +kernel, rfl, by decide⟩
theorem aX8_least_9 : At cX8_least 9 (.iload_n 2) 1 10 := ⟨by decide +kernel, rfl⟩
theorem aX8_least_10 : At cX8_least 10 (.iconst 3) 1 11 := ⟨by decide +kernel, rfl⟩
theorem aX8_least_11 : At cX8_least 11 (.invokestatic 58) 3 14 := ⟨by decide +kernel, rfl⟩
theorem aX8_least_14 : Br cX8_least 14 (.ifCond .eq (9)) (9) 17 23 := ⟨by decide +kernel, rfl, by decide⟩
theorem aX8_least_17 : At cX8_least 17 (.aload_n 0) 1 18 := ⟨by decide +kernel, rfl⟩
theorem aX8_least_18 : At cX8_least 18 (.iconst 0) 1 19 := ⟨by decide +kernel, rfl⟩
theorem aX8_least_19 : At cX8_least 19 (.invokevirtual 62) 3 22 := ⟨by decide +kernel, rfl⟩
theorem aX8_least_22 : At cX8_least 22 (.ireturn) 1 23 := ⟨by decide +kernel, rfl⟩
theorem aX8_least_23 : At cX8_least 23 (.aload_n 0) 1 24 := ⟨by decide +kernel, rfl⟩
theorem aX8_least_24 : At cX8_least 24 (.getfield 10) 3 27 := ⟨by decide +kernel, rfl⟩
theorem aX8_least_27 : At cX8_least 27 (.invokevirtual 181) 3 30 := ⟨by decide +kernel, rfl⟩
theorem aX8_least_30 : At cX8_least 30 (.istore_n 3) 1 31 := ⟨by decide +kernel, rfl⟩
theorem aX8_least_31 : At cX8_least 31 (.aload_n 0) 1 32 := ⟨by decide +kernel, rfl⟩
theorem aX8_least_32 : At cX8_least 32 (.getfield 10) 3 35 := ⟨by decide +kernel, rfl⟩
theorem aX8_least_35 : At cX8_least 35 (.invokevirtual 84) 3 38 := ⟨by decide +kernel, rfl⟩
theorem aX8_least_38 : At cX8_least 38 (.istore 4) 2 40 := ⟨by decide +kernel, rfl⟩
theorem aX8_least_40 : At cX8_least 40 (.iload 4) 2 42 := ⟨by decide +kernel, rfl⟩
theorem aX8_least_42 : At cX8_least 42 (.iload_n 3) 1 43 := ⟨by decide +kernel, rfl⟩
theorem aX8_least_43 : Br cX8_least 43 (.if_icmp .ge (26)) (26) 46 69 := ⟨by decide +kernel, rfl, by decide⟩
theorem aX8_least_46 : At cX8_least 46 (.aload_n 0) 1 47 := ⟨by decide +kernel, rfl⟩
theorem aX8_least_47 : At cX8_least 47 (.getfield 23) 3 50 := ⟨by decide +kernel, rfl⟩
theorem aX8_least_50 : At cX8_least 50 (.iload 4) 2 52 := ⟨by decide +kernel, rfl⟩
theorem aX8_least_52 : At cX8_least 52 (.iload_n 1) 1 53 := ⟨by decide +kernel, rfl⟩
theorem aX8_least_53 : At cX8_least 53 (.invokevirtual 172) 3 56 := ⟨by decide +kernel, rfl⟩
theorem aX8_least_56 : At cX8_least 56 (.iload_n 2) 1 57 := ⟨by decide +kernel, rfl⟩
theorem aX8_least_57 : Br cX8_least 57 (.if_icmp .ne (6)) (6) 60 63 := ⟨by decide +kernel, rfl, by decide⟩
theorem aX8_least_60 : At cX8_least 60 (.iload 4) 2 62 := ⟨by decide +kernel, rfl⟩
theorem aX8_least_62 : At cX8_least 62 (.ireturn) 1 63 := ⟨by decide +kernel, rfl⟩
theorem aX8_least_63 : At cX8_least 63 (.iinc 4 1) 3 66 := ⟨by decide +kernel, rfl⟩
theorem aX8_least_66 : Br cX8_least 66 (.goto (-26)) (-26) 69 40 := ⟨by decide +kernel, rfl, by decide⟩
theorem aX8_least_69 : At cX8_least 69 (.aload_n 0) 1 70 := ⟨by decide +kernel, rfl⟩
theorem aX8_least_70 : At cX8_least 70 (.iconst 3) 1 71 := ⟨by decide +kernel, rfl⟩
theorem aX8_least_71 : At cX8_least 71 (.invokevirtual 62) 3 74 := ⟨by decide +kernel, rfl⟩
theorem aX8_least_74 : At cX8_least 74 (.ireturn) 1 75 := ⟨by decide +kernel, rfl⟩
theorem aX8_price_0 : At cX8_price 0 (.iload_n 1) 1 1 := ⟨by decide +kernel, rfl⟩
theorem aX8_price_1 : At cX8_price 1 (.iconst 3) 1 2 := ⟨by decide +kernel, rfl⟩
theorem aX8_price_2 : At cX8_price 2 (.invokestatic 58) 3 5 := ⟨by decide +kernel, rfl⟩
theorem aX8_price_5 : Br cX8_price 5 (.ifCond .ne (13)) (13) 8 18 := ⟨by decide +kernel, rfl, by decide⟩
theorem aX8_price_8 : At cX8_price 8 (.iload_n 2) 1 9 := ⟨by decide +kernel, rfl⟩
theorem aX8_price_9 : At cX8_price 9 (.sipush 1000) 3 12 := ⟨by decide +kernel, rfl⟩
theorem aX8_price_12 : At cX8_price 12 (.invokestatic 58) 3 15 := ⟨by decide +kernel, rfl⟩
theorem aX8_price_15 : Br cX8_price 15 (.ifCond .eq (9)) (9) 18 24 := ⟨by decide +kernel, rfl, by decide⟩
theorem aX8_price_18 : At cX8_price 18 (.aload_n 0) 1 19 := ⟨by decide +kernel, rfl⟩
theorem aX8_price_19 : At cX8_price 19 (.iconst 0) 1 20 := ⟨by decide +kernel, rfl⟩
theorem aX8_price_20 : At cX8_price 20 (.invokevirtual 62) 3 23 := ⟨by decide +kernel, rfl⟩
theorem aX8_price_23 : At cX8_price 23 (.ireturn) 1 24 := ⟨by decide +kernel, rfl⟩
theorem aX8_price_24 : At cX8_price 24 (.aload_n 0) 1 25 := ⟨by decide +kernel, rfl⟩
theorem aX8_price_25 : At cX8_price 25 (.getfield 10) 3 28 := ⟨by decide +kernel, rfl⟩
theorem aX8_price_28 : At cX8_price 28 (.getfield 184) 3 31 := ⟨by decide +kernel, rfl⟩
theorem aX8_price_31 : At cX8_price 31 (.iload_n 1) 1 32 := ⟨by decide +kernel, rfl⟩
theorem aX8_price_32 : At cX8_price 32 (.iaload) 1 33 := ⟨by decide +kernel, rfl⟩
theorem aX8_price_33 : At cX8_price 33 (.istore_n 3) 1 34 := ⟨by decide +kernel, rfl⟩
theorem aX8_price_34 : At cX8_price 34 (.aload_n 0) 1 35 := ⟨by decide +kernel, rfl⟩
theorem aX8_price_35 : At cX8_price 35 (.getfield 10) 3 38 := ⟨by decide +kernel, rfl⟩
theorem aX8_price_38 : At cX8_price 38 (.getfield 184) 3 41 := ⟨by decide +kernel, rfl⟩
theorem aX8_price_41 : At cX8_price 41 (.iload_n 1) 1 42 := ⟨by decide +kernel, rfl⟩
theorem aX8_price_42 : At cX8_price 42 (.iload_n 2) 1 43 := ⟨by decide +kernel, rfl⟩
theorem aX8_price_43 : At cX8_price 43 (.iastore) 1 44 := ⟨by decide +kernel, rfl⟩
theorem aX8_price_44 : At cX8_price 44 (.iload_n 3) 1 45 := ⟨by decide +kernel, rfl⟩
theorem aX8_price_45 : At cX8_price 45 (.ireturn) 1 46 := ⟨by decide +kernel, rfl⟩
theorem aX8_worth_0 : At cX8_worth 0 (.aload_n 0) 1 1 := ⟨by decide +kernel, rfl⟩
theorem aX8_worth_1 : At cX8_worth 1 (.getfield 10) 3 4 := ⟨by decide +kernel, rfl⟩
theorem aX8_worth_4 : At cX8_worth 4 (.iload_n 1) 1 5 := ⟨by decide +kernel, rfl⟩
theorem aX8_worth_5 : At cX8_worth 5 (.invokevirtual 169) 3 8 := ⟨by decide +kernel, rfl⟩
theorem aX8_worth_8 : Br cX8_worth 8 (.ifCond .eq (11)) (11) 11 19 := ⟨by decide +kernel, rfl, by decide⟩
theorem aX8_worth_11 : At cX8_worth 11 (.iload_n 2) 1 12 := ⟨by decide +kernel, rfl⟩
theorem aX8_worth_12 : At cX8_worth 12 (.iconst 3) 1 13 := ⟨by decide +kernel, rfl⟩
theorem aX8_worth_13 : At cX8_worth 13 (.invokestatic 58) 3 16 := ⟨by decide +kernel, rfl⟩
theorem aX8_worth_16 : Br cX8_worth 16 (.ifCond .eq (9)) (9) 19 25 := ⟨by decide +kernel, rfl, by decide⟩
theorem aX8_worth_19 : At cX8_worth 19 (.aload_n 0) 1 20 := ⟨by decide +kernel, rfl⟩
theorem aX8_worth_20 : At cX8_worth 20 (.iconst 0) 1 21 := ⟨by decide +kernel, rfl⟩
theorem aX8_worth_21 : At cX8_worth 21 (.invokevirtual 62) 3 24 := ⟨by decide +kernel, rfl⟩
theorem aX8_worth_24 : At cX8_worth 24 (.ireturn) 1 25 := ⟨by decide +kernel, rfl⟩
theorem aX8_worth_25 : At cX8_worth 25 (.aload_n 0) 1 26 := ⟨by decide +kernel, rfl⟩
theorem aX8_worth_26 : At cX8_worth 26 (.iload_n 1) 1 27 := ⟨by decide +kernel, rfl⟩
theorem aX8_worth_27 : At cX8_worth 27 (.iload_n 2) 1 28 := ⟨by decide +kernel, rfl⟩
theorem aX8_worth_28 : At cX8_worth 28 (.invokevirtual 187) 3 31 := ⟨by decide +kernel, rfl⟩
theorem aX8_worth_31 : At cX8_worth 31 (.ireturn) 1 32 := ⟨by decide +kernel, rfl⟩
theorem aX8_value_0 : At cX8_value 0 (.iload_n 1) 1 1 := ⟨by decide +kernel, rfl⟩
theorem aX8_value_1 : At cX8_value 1 (.iconst 3) 1 2 := ⟨by decide +kernel, rfl⟩
theorem aX8_value_2 : At cX8_value 2 (.invokestatic 58) 3 5 := ⟨by decide +kernel, rfl⟩
theorem aX8_value_5 : Br cX8_value 5 (.ifCond .eq (9)) (9) 8 14 := ⟨by decide +kernel, rfl, by decide⟩
theorem aX8_value_8 : At cX8_value 8 (.aload_n 0) 1 9 := ⟨by decide +kernel, rfl⟩
theorem aX8_value_9 : At cX8_value 9 (.iconst 0) 1 10 := ⟨by decide +kernel, rfl⟩
theorem aX8_value_10 : At cX8_value 10 (.invokevirtual 190) 3 13 := ⟨by decide +kernel, rfl⟩
theorem aX8_value_13 : At cX8_value 13 (.lreturn) 1 14 := ⟨by decide +kernel, rfl⟩
theorem aX8_value_14 : At cX8_value 14 (.aload_n 0) 1 15 := ⟨by decide +kernel, rfl⟩
theorem aX8_value_15 : At cX8_value 15 (.aload_n 0) 1 16 := ⟨by decide +kernel, rfl⟩
theorem aX8_value_16 : At cX8_value 16 (.getfield 10) 3 19 := ⟨by decide +kernel, rfl⟩
theorem aX8_value_19 : At cX8_value 19 (.invokevirtual 84) 3 22 := ⟨by decide +kernel, rfl⟩
theorem aX8_value_22 : At cX8_value 22 (.aload_n 0) 1 23 := ⟨by decide +kernel, rfl⟩
theorem aX8_value_23 : At cX8_value 23 (.getfield 10) 3 26 := ⟨by decide +kernel, rfl⟩
theorem aX8_value_26 : At cX8_value 26 (.invokevirtual 181) 3 29 := ⟨by decide +kernel, rfl⟩
theorem aX8_value_29 : At cX8_value 29 (.iload_n 1) 1 30 := ⟨by decide +kernel, rfl⟩
theorem aX8_value_30 : At cX8_value 30 (.invokevirtual 194) 3 33 := ⟨by decide +kernel, rfl⟩
theorem aX8_value_33 : At cX8_value 33 (.lreturn) 1 34 := ⟨by decide +kernel, rfl⟩
theorem aX8_best_0 : At cX8_best 0 (.iload_n 1) 1 1 := ⟨by decide +kernel, rfl⟩
theorem aX8_best_1 : At cX8_best 1 (.iconst 3) 1 2 := ⟨by decide +kernel, rfl⟩
theorem aX8_best_2 : At cX8_best 2 (.invokestatic 58) 3 5 := ⟨by decide +kernel, rfl⟩
theorem aX8_best_5 : Br cX8_best 5 (.ifCond .ne (11)) (11) 8 16 := ⟨by decide +kernel, rfl, by decide⟩
theorem aX8_best_8 : At cX8_best 8 (.iload_n 2) 1 9 := ⟨by decide +kernel, rfl⟩
theorem aX8_best_9 : At cX8_best 9 (.iconst 2) 1 10 := ⟨by decide +kernel, rfl⟩
theorem aX8_best_10 : At cX8_best 10 (.invokestatic 58) 3 13 := ⟨by decide +kernel, rfl⟩
theorem aX8_best_13 : Br cX8_best 13 (.ifCond .eq (9)) (9) 16 22 := ⟨by decide +kernel, rfl, by decide⟩
theorem aX8_best_16 : At cX8_best 16 (.aload_n 0) 1 17 := ⟨by decide +kernel, rfl⟩
theorem aX8_best_17 : At cX8_best 17 (.iconst 0) 1 18 := ⟨by decide +kernel, rfl⟩
theorem aX8_best_18 : At cX8_best 18 (.invokevirtual 62) 3 21 := ⟨by decide +kernel, rfl⟩
theorem aX8_best_21 : At cX8_best 21 (.ireturn) 1 22 := ⟨by decide +kernel, rfl⟩
theorem aX8_best_22 : At cX8_best 22 (.aload_n 0) 1 23 := ⟨by decide +kernel, rfl⟩
theorem aX8_best_23 : At cX8_best 23 (.getfield 10) 3 26 := ⟨by decide +kernel, rfl⟩
theorem aX8_best_26 : At cX8_best 26 (.invokevirtual 84) 3 29 := ⟨by decide +kernel, rfl⟩
theorem aX8_best_29 : At cX8_best 29 (.istore_n 3) 1 30 := ⟨by decide +kernel, rfl⟩
theorem aX8_best_30 : At cX8_best 30 (.aload_n 0) 1 31 := ⟨by decide +kernel, rfl⟩
theorem aX8_best_31 : At cX8_best 31 (.iload_n 3) 1 32 := ⟨by decide +kernel, rfl⟩
theorem aX8_best_32 : At cX8_best 32 (.iload_n 1) 1 33 := ⟨by decide +kernel, rfl⟩
theorem aX8_best_33 : At cX8_best 33 (.invokevirtual 187) 3 36 := ⟨by decide +kernel, rfl⟩
theorem aX8_best_36 : At cX8_best 36 (.istore 4) 2 38 := ⟨by decide +kernel, rfl⟩
theorem aX8_best_38 : At cX8_best 38 (.aload_n 0) 1 39 := ⟨by decide +kernel, rfl⟩
theorem aX8_best_39 : At cX8_best 39 (.getfield 10) 3 42 := ⟨by decide +kernel, rfl⟩
theorem aX8_best_42 : At cX8_best 42 (.invokevirtual 181) 3 45 := ⟨by decide +kernel, rfl⟩
theorem aX8_best_45 : At cX8_best 45 (.istore 5) 2 47 := ⟨by decide +kernel, rfl⟩
theorem aX8_best_47 : At cX8_best 47 (.iload_n 3) 1 48 := ⟨by decide +kernel, rfl⟩
theorem aX8_best_48 : At cX8_best 48 (.iconst 1) 1 49 := ⟨by decide +kernel, rfl⟩
theorem aX8_best_49 : At cX8_best 49 (.iadd) 1 50 := ⟨by decide +kernel, rfl⟩
theorem aX8_best_50 : At cX8_best 50 (.istore 6) 2 52 := ⟨by decide +kernel, rfl⟩
theorem aX8_best_52 : At cX8_best 52 (.iload 6) 2 54 := ⟨by decide +kernel, rfl⟩
theorem aX8_best_54 : At cX8_best 54 (.iload 5) 2 56 := ⟨by decide +kernel, rfl⟩
theorem aX8_best_56 : Br cX8_best 56 (.if_icmp .ge (46)) (46) 59 102 := ⟨by decide +kernel, rfl, by decide⟩
theorem aX8_best_59 : At cX8_best 59 (.aload_n 0) 1 60 := ⟨by decide +kernel, rfl⟩
theorem aX8_best_60 : At cX8_best 60 (.iload 6) 2 62 := ⟨by decide +kernel, rfl⟩
theorem aX8_best_62 : At cX8_best 62 (.iload_n 1) 1 63 := ⟨by decide +kernel, rfl⟩
theorem aX8_best_63 : At cX8_best 63 (.invokevirtual 187) 3 66 := ⟨by decide +kernel, rfl⟩
theorem aX8_best_66 : At cX8_best 66 (.istore 7) 2 68 := ⟨by decide +kernel, rfl⟩
theorem aX8_best_68 : At cX8_best 68 (.iload_n 2) 1 69 := ⟨by decide +kernel, rfl⟩
theorem aX8_best_69 : Br cX8_best 69 (.ifCond .ne (13)) (13) 72 82 := ⟨by decide +kernel, rfl, by decide⟩
theorem aX8_best_72 : At cX8_best 72 (.iload 7) 2 74 := ⟨by decide +kernel, rfl⟩
theorem aX8_best_74 : At cX8_best 74 (.iload 4) 2 76 := ⟨by decide +kernel, rfl⟩
theorem aX8_best_76 : Br cX8_best 76 (.if_icmp .le (20)) (20) 79 96 := ⟨by decide +kernel, rfl, by decide⟩
theorem aX8_best_79 : Br cX8_best 79 (.goto (10)) (10) 82 89 := ⟨by decide +kernel, rfl, by decide⟩
theorem aX8_best_82 : At cX8_best 82 (.iload 7) 2 84 := ⟨by decide +kernel, rfl⟩
theorem aX8_best_84 : At cX8_best 84 (.iload 4) 2 86 := ⟨by decide +kernel, rfl⟩
theorem aX8_best_86 : Br cX8_best 86 (.if_icmp .ge (10)) (10) 89 96 := ⟨by decide +kernel, rfl, by decide⟩
theorem aX8_best_89 : At cX8_best 89 (.iload 6) 2 91 := ⟨by decide +kernel, rfl⟩
theorem aX8_best_91 : At cX8_best 91 (.istore_n 3) 1 92 := ⟨by decide +kernel, rfl⟩
theorem aX8_best_92 : At cX8_best 92 (.iload 7) 2 94 := ⟨by decide +kernel, rfl⟩
theorem aX8_best_94 : At cX8_best 94 (.istore 4) 2 96 := ⟨by decide +kernel, rfl⟩
theorem aX8_best_96 : At cX8_best 96 (.iinc 6 1) 3 99 := ⟨by decide +kernel, rfl⟩
theorem aX8_best_99 : Br cX8_best 99 (.goto (-47)) (-47) 102 52 := ⟨by decide +kernel, rfl, by decide⟩
theorem aX8_best_102 : At cX8_best 102 (.iload_n 3) 1 103 := ⟨by decide +kernel, rfl⟩
theorem aX8_best_103 : At cX8_best 103 (.ireturn) 1 104 := ⟨by decide +kernel, rfl⟩
theorem aX8_hope_0 : At cX8_hope 0 (.iload_n 1) 1 1 := ⟨by decide +kernel, rfl⟩
theorem aX8_hope_1 : At cX8_hope 1 (.iconst 3) 1 2 := ⟨by decide +kernel, rfl⟩
theorem aX8_hope_2 : At cX8_hope 2 (.invokestatic 58) 3 5 := ⟨by decide +kernel, rfl⟩
theorem aX8_hope_5 : Br cX8_hope 5 (.ifCond .eq (9)) (9) 8 14 := ⟨by decide +kernel, rfl, by decide⟩
theorem aX8_hope_8 : At cX8_hope 8 (.aload_n 0) 1 9 := ⟨by decide +kernel, rfl⟩
theorem aX8_hope_9 : At cX8_hope 9 (.iconst 0) 1 10 := ⟨by decide +kernel, rfl⟩
theorem aX8_hope_10 : At cX8_hope 10 (.invokevirtual 62) 3 13 := ⟨by decide +kernel, rfl⟩
theorem aX8_hope_13 : At cX8_hope 13 (.ireturn) 1 14 := ⟨by decide +kernel, rfl⟩
theorem aX8_hope_14 : At cX8_hope 14 (.aload_n 0) 1 15 := ⟨by decide +kernel, rfl⟩
theorem aX8_hope_15 : At cX8_hope 15 (.getfield 10) 3 18 := ⟨by decide +kernel, rfl⟩
theorem aX8_hope_18 : At cX8_hope 18 (.getfield 73) 3 21 := ⟨by decide +kernel, rfl⟩
theorem aX8_hope_21 : At cX8_hope 21 (.iconst 4) 1 22 := ⟨by decide +kernel, rfl⟩
theorem aX8_hope_22 : Br cX8_hope 22 (.if_icmp .lt (9)) (9) 25 31 := ⟨by decide +kernel, rfl, by decide⟩
theorem aX8_hope_25 : At cX8_hope 25 (.aload_n 0) 1 26 := ⟨by decide +kernel, rfl⟩
theorem aX8_hope_26 : At cX8_hope 26 (.iconst 3) 1 27 := ⟨by decide +kernel, rfl⟩
theorem aX8_hope_27 : At cX8_hope 27 (.invokevirtual 62) 3 30 := ⟨by decide +kernel, rfl⟩
theorem aX8_hope_30 : At cX8_hope 30 (.ireturn) 1 31 := ⟨by decide +kernel, rfl⟩
theorem aX8_hope_31 : At cX8_hope 31 (.getstatic 198) 3 34 := ⟨by decide +kernel, rfl⟩
theorem aX8_hope_34 : At cX8_hope 34 (.aload_n 0) 1 35 := ⟨by decide +kernel, rfl⟩
theorem aX8_hope_35 : At cX8_hope 35 (.getfield 10) 3 38 := ⟨by decide +kernel, rfl⟩
theorem aX8_hope_38 : At cX8_hope 38 (.getfield 73) 3 41 := ⟨by decide +kernel, rfl⟩
theorem aX8_hope_41 : At cX8_hope 41 (.iaload) 1 42 := ⟨by decide +kernel, rfl⟩
theorem aX8_hope_42 : At cX8_hope 42 (.istore_n 2) 1 43 := ⟨by decide +kernel, rfl⟩
theorem aX8_hope_43 : At cX8_hope 43 (.iconst 0) 1 44 := ⟨by decide +kernel, rfl⟩
theorem aX8_hope_44 : At cX8_hope 44 (.istore_n 3) 1 45 := ⟨by decide +kernel, rfl⟩
theorem aX8_hope_45 : At cX8_hope 45 (.ldc2_w 201) 3 48 := ⟨by decide +kernel, rfl⟩
theorem aX8_hope_48 : At cX8_hope 48 (.lstore 4) 2 50 := ⟨by decide +kernel, rfl⟩
theorem aX8_hope_50 : At cX8_hope 50 (.iconst 0) 1 51 := ⟨by decide +kernel, rfl⟩
theorem aX8_hope_51 : At cX8_hope 51 (.istore 6) 2 53 := ⟨by decide +kernel, rfl⟩
theorem aX8_hope_53 : At cX8_hope 53 (.iload 6) 2 55 := ⟨by decide +kernel, rfl⟩
theorem aX8_hope_55 : At cX8_hope 55 (.bipush 6) 2 57 := ⟨by decide +kernel, rfl⟩
theorem aX8_hope_57 : Br cX8_hope 57 (.if_icmp .ge (51)) (51) 60 108 := ⟨by decide +kernel, rfl, by decide⟩
theorem aX8_hope_60 : At cX8_hope 60 (.aload_n 0) 1 61 := ⟨by decide +kernel, rfl⟩
theorem aX8_hope_61 : At cX8_hope 61 (.getfield 10) 3 64 := ⟨by decide +kernel, rfl⟩
theorem aX8_hope_64 : At cX8_hope 64 (.invokevirtual 84) 3 67 := ⟨by decide +kernel, rfl⟩
theorem aX8_hope_67 : At cX8_hope 67 (.iload 6) 2 69 := ⟨by decide +kernel, rfl⟩
theorem aX8_hope_69 : At cX8_hope 69 (.iload_n 2) 1 70 := ⟨by decide +kernel, rfl⟩
theorem aX8_hope_70 : At cX8_hope 70 (.imul) 1 71 := ⟨by decide +kernel, rfl⟩
theorem aX8_hope_71 : At cX8_hope 71 (.iadd) 1 72 := ⟨by decide +kernel, rfl⟩
theorem aX8_hope_72 : At cX8_hope 72 (.istore 7) 2 74 := ⟨by decide +kernel, rfl⟩
theorem aX8_hope_74 : At cX8_hope 74 (.aload_n 0) 1 75 := ⟨by decide +kernel, rfl⟩
theorem aX8_hope_75 : At cX8_hope 75 (.iload 7) 2 77 := ⟨by decide +kernel, rfl⟩
theorem aX8_hope_77 : At cX8_hope 77 (.iload 7) 2 79 := ⟨by decide +kernel, rfl⟩
theorem aX8_hope_79 : At cX8_hope 79 (.iload_n 2) 1 80 := ⟨by decide +kernel, rfl⟩
theorem aX8_hope_80 : At cX8_hope 80 (.iadd) 1 81 := ⟨by decide +kernel, rfl⟩
theorem aX8_hope_81 : At cX8_hope 81 (.iload_n 1) 1 82 := ⟨by decide +kernel, rfl⟩
theorem aX8_hope_82 : At cX8_hope 82 (.invokevirtual 194) 3 85 := ⟨by decide +kernel, rfl⟩
theorem aX8_hope_85 : At cX8_hope 85 (.lstore 8) 2 87 := ⟨by decide +kernel, rfl⟩
theorem aX8_hope_87 : At cX8_hope 87 (.lload 8) 2 89 := ⟨by decide +kernel, rfl⟩
theorem aX8_hope_89 : At cX8_hope 89 (.lload 4) 2 91 := ⟨by decide +kernel, rfl⟩
theorem aX8_hope_91 : At cX8_hope 91 (.lcmp) 1 92 := ⟨by decide +kernel, rfl⟩
theorem aX8_hope_92 : Br cX8_hope 92 (.ifCond .le (10)) (10) 95 102 := ⟨by decide +kernel, rfl, by decide⟩
theorem aX8_hope_95 : At cX8_hope 95 (.iload 6) 2 97 := ⟨by decide +kernel, rfl⟩
theorem aX8_hope_97 : At cX8_hope 97 (.istore_n 3) 1 98 := ⟨by decide +kernel, rfl⟩
theorem aX8_hope_98 : At cX8_hope 98 (.lload 8) 2 100 := ⟨by decide +kernel, rfl⟩
theorem aX8_hope_100 : At cX8_hope 100 (.lstore 4) 2 102 := ⟨by decide +kernel, rfl⟩
theorem aX8_hope_102 : At cX8_hope 102 (.iinc 6 1) 3 105 := ⟨by decide +kernel, rfl⟩
theorem aX8_hope_105 : Br cX8_hope 105 (.goto (-52)) (-52) 108 53 := ⟨by decide +kernel, rfl, by decide⟩
theorem aX8_hope_108 : At cX8_hope 108 (.iload_n 3) 1 109 := ⟨by decide +kernel, rfl⟩
theorem aX8_hope_109 : At cX8_hope 109 (.ireturn) 1 110 := ⟨by decide +kernel, rfl⟩
theorem aX8_rounds_0 : At cX8_rounds 0 (.iload_n 1) 1 1 := ⟨by decide +kernel, rfl⟩
theorem aX8_rounds_1 : At cX8_rounds 1 (.iconst 4) 1 2 := ⟨by decide +kernel, rfl⟩
theorem aX8_rounds_2 : At cX8_rounds 2 (.invokestatic 58) 3 5 := ⟨by decide +kernel, rfl⟩
theorem aX8_rounds_5 : Br cX8_rounds 5 (.ifCond .ne (14)) (14) 8 19 := ⟨by decide +kernel, rfl, by decide⟩
theorem aX8_rounds_8 : At cX8_rounds 8 (.aload_n 0) 1 9 := ⟨by decide +kernel, rfl⟩
theorem aX8_rounds_9 : At cX8_rounds 9 (.getfield 10) 3 12 := ⟨by decide +kernel, rfl⟩
theorem aX8_rounds_12 : At cX8_rounds 12 (.iload_n 2) 1 13 := ⟨by decide +kernel, rfl⟩
theorem aX8_rounds_13 : At cX8_rounds 13 (.invokevirtual 169) 3 16 := ⟨by decide +kernel, rfl⟩
theorem aX8_rounds_16 : Br cX8_rounds 16 (.ifCond .ne (9)) (9) 19 25 := ⟨by decide +kernel, rfl, by decide⟩
theorem aX8_rounds_19 : At cX8_rounds 19 (.aload_n 0) 1 20 := ⟨by decide +kernel, rfl⟩
theorem aX8_rounds_20 : At cX8_rounds 20 (.iconst 0) 1 21 := ⟨by decide +kernel, rfl⟩
theorem aX8_rounds_21 : At cX8_rounds 21 (.invokevirtual 62) 3 24 := ⟨by decide +kernel, rfl⟩
theorem aX8_rounds_24 : At cX8_rounds 24 (.ireturn) 1 25 := ⟨by decide +kernel, rfl⟩
theorem aX8_rounds_25 : At cX8_rounds 25 (.aload_n 0) 1 26 := ⟨by decide +kernel, rfl⟩
theorem aX8_rounds_26 : At cX8_rounds 26 (.getfield 36) 3 29 := ⟨by decide +kernel, rfl⟩
theorem aX8_rounds_29 : At cX8_rounds 29 (.iload_n 1) 1 30 := ⟨by decide +kernel, rfl⟩
theorem aX8_rounds_30 : At cX8_rounds 30 (.aaload) 1 31 := ⟨by decide +kernel, rfl⟩
theorem aX8_rounds_31 : At cX8_rounds 31 (.astore_n 3) 1 32 := ⟨by decide +kernel, rfl⟩
theorem aX8_rounds_32 : At cX8_rounds 32 (.aload_n 3) 1 33 := ⟨by decide +kernel, rfl⟩
theorem aX8_rounds_33 : At cX8_rounds 33 (.invokevirtual 203) 3 36 := ⟨by decide +kernel, rfl⟩
theorem aX8_rounds_36 : Br cX8_rounds 36 (.ifCond .eq (9)) (9) 39 45 := ⟨by decide +kernel, rfl, by decide⟩
theorem aX8_rounds_39 : At cX8_rounds 39 (.aload_n 0) 1 40 := ⟨by decide +kernel, rfl⟩
theorem aX8_rounds_40 : At cX8_rounds 40 (.iconst 5) 1 41 := ⟨by decide +kernel, rfl⟩
theorem aX8_rounds_41 : At cX8_rounds 41 (.invokevirtual 62) 3 44 := ⟨by decide +kernel, rfl⟩
theorem aX8_rounds_44 : At cX8_rounds 44 (.ireturn) 1 45 := ⟨by decide +kernel, rfl⟩
theorem aX8_rounds_45 : At cX8_rounds 45 (.aload_n 3) 1 46 := ⟨by decide +kernel, rfl⟩
theorem aX8_rounds_46 : At cX8_rounds 46 (.getfield 207) 3 49 := ⟨by decide +kernel, rfl⟩
theorem aX8_rounds_49 : At cX8_rounds 49 (.aload_n 0) 1 50 := ⟨by decide +kernel, rfl⟩
theorem aX8_rounds_50 : At cX8_rounds 50 (.getfield 10) 3 53 := ⟨by decide +kernel, rfl⟩
theorem aX8_rounds_53 : At cX8_rounds 53 (.getfield 101) 3 56 := ⟨by decide +kernel, rfl⟩
theorem aX8_rounds_56 : Br cX8_rounds 56 (.if_icmp .eq (10)) (10) 59 66 := ⟨by decide +kernel, rfl, by decide⟩
theorem aX8_rounds_59 : At cX8_rounds 59 (.aload_n 0) 1 60 := ⟨by decide +kernel, rfl⟩
theorem aX8_rounds_60 : At cX8_rounds 60 (.bipush 6) 2 62 := ⟨by decide +kernel, rfl⟩
theorem aX8_rounds_62 : At cX8_rounds 62 (.invokevirtual 62) 3 65 := ⟨by decide +kernel, rfl⟩
theorem aX8_rounds_65 : At cX8_rounds 65 (.ireturn) 1 66 := ⟨by decide +kernel, rfl⟩
theorem aX8_rounds_66 : At cX8_rounds 66 (.aload_n 0) 1 67 := ⟨by decide +kernel, rfl⟩
theorem aX8_rounds_67 : At cX8_rounds 67 (.aload_n 3) 1 68 := ⟨by decide +kernel, rfl⟩
theorem aX8_rounds_68 : At cX8_rounds 68 (.invokevirtual 208) 3 71 := ⟨by decide +kernel, rfl⟩
theorem aX8_rounds_71 : Br cX8_rounds 71 (.ifCond .ne (9)) (9) 74 80 := ⟨by decide +kernel, rfl, by decide⟩
theorem aX8_rounds_74 : At cX8_rounds 74 (.aload_n 0) 1 75 := ⟨by decide +kernel, rfl⟩
theorem aX8_rounds_75 : At cX8_rounds 75 (.iconst 4) 1 76 := ⟨by decide +kernel, rfl⟩
theorem aX8_rounds_76 : At cX8_rounds 76 (.invokevirtual 62) 3 79 := ⟨by decide +kernel, rfl⟩
theorem aX8_rounds_79 : At cX8_rounds 79 (.ireturn) 1 80 := ⟨by decide +kernel, rfl⟩
theorem aX8_rounds_80 : At cX8_rounds 80 (.aload_n 0) 1 81 := ⟨by decide +kernel, rfl⟩
theorem aX8_rounds_81 : At cX8_rounds 81 (.aload_n 3) 1 82 := ⟨by decide +kernel, rfl⟩
theorem aX8_rounds_82 : At cX8_rounds 82 (.iload_n 2) 1 83 := ⟨by decide +kernel, rfl⟩
theorem aX8_rounds_83 : At cX8_rounds 83 (.invokevirtual 212) 3 86 := ⟨by decide +kernel, rfl⟩
theorem aX8_rounds_86 : At cX8_rounds 86 (.ireturn) 1 87 := ⟨by decide +kernel, rfl⟩
theorem aX8_lays_0 : At cX8_lays 0 (.iload_n 1) 1 1 := ⟨by decide +kernel, rfl⟩
theorem aX8_lays_1 : At cX8_lays 1 (.iconst 4) 1 2 := ⟨by decide +kernel, rfl⟩
theorem aX8_lays_2 : At cX8_lays 2 (.invokestatic 58) 3 5 := ⟨by decide +kernel, rfl⟩
theorem aX8_lays_5 : Br cX8_lays 5 (.ifCond .ne (14)) (14) 8 19 := ⟨by decide +kernel, rfl, by decide⟩
theorem aX8_lays_8 : At cX8_lays 8 (.aload_n 0) 1 9 := ⟨by decide +kernel, rfl⟩
theorem aX8_lays_9 : At cX8_lays 9 (.getfield 10) 3 12 := ⟨by decide +kernel, rfl⟩
theorem aX8_lays_12 : At cX8_lays 12 (.iload_n 2) 1 13 := ⟨by decide +kernel, rfl⟩
theorem aX8_lays_13 : At cX8_lays 13 (.invokevirtual 169) 3 16 := ⟨by decide +kernel, rfl⟩
theorem aX8_lays_16 : Br cX8_lays 16 (.ifCond .ne (9)) (9) 19 25 := ⟨by decide +kernel, rfl, by decide⟩
theorem aX8_lays_19 : At cX8_lays 19 (.aload_n 0) 1 20 := ⟨by decide +kernel, rfl⟩
theorem aX8_lays_20 : At cX8_lays 20 (.iconst 0) 1 21 := ⟨by decide +kernel, rfl⟩
theorem aX8_lays_21 : At cX8_lays 21 (.invokevirtual 62) 3 24 := ⟨by decide +kernel, rfl⟩
theorem aX8_lays_24 : At cX8_lays 24 (.ireturn) 1 25 := ⟨by decide +kernel, rfl⟩
theorem aX8_lays_25 : At cX8_lays 25 (.aload_n 0) 1 26 := ⟨by decide +kernel, rfl⟩
theorem aX8_lays_26 : At cX8_lays 26 (.getfield 36) 3 29 := ⟨by decide +kernel, rfl⟩
theorem aX8_lays_29 : At cX8_lays 29 (.iload_n 1) 1 30 := ⟨by decide +kernel, rfl⟩
theorem aX8_lays_30 : At cX8_lays 30 (.aaload) 1 31 := ⟨by decide +kernel, rfl⟩
theorem aX8_lays_31 : At cX8_lays 31 (.astore_n 3) 1 32 := ⟨by decide +kernel, rfl⟩
theorem aX8_lays_32 : At cX8_lays 32 (.aload_n 3) 1 33 := ⟨by decide +kernel, rfl⟩
theorem aX8_lays_33 : At cX8_lays 33 (.invokevirtual 203) 3 36 := ⟨by decide +kernel, rfl⟩
theorem aX8_lays_36 : Br cX8_lays 36 (.ifCond .eq (9)) (9) 39 45 := ⟨by decide +kernel, rfl, by decide⟩
theorem aX8_lays_39 : At cX8_lays 39 (.aload_n 0) 1 40 := ⟨by decide +kernel, rfl⟩
theorem aX8_lays_40 : At cX8_lays 40 (.iconst 5) 1 41 := ⟨by decide +kernel, rfl⟩
theorem aX8_lays_41 : At cX8_lays 41 (.invokevirtual 62) 3 44 := ⟨by decide +kernel, rfl⟩
theorem aX8_lays_44 : At cX8_lays 44 (.ireturn) 1 45 := ⟨by decide +kernel, rfl⟩
theorem aX8_lays_45 : At cX8_lays 45 (.aload_n 3) 1 46 := ⟨by decide +kernel, rfl⟩
theorem aX8_lays_46 : At cX8_lays 46 (.getfield 207) 3 49 := ⟨by decide +kernel, rfl⟩
theorem aX8_lays_49 : At cX8_lays 49 (.bipush 12) 2 51 := ⟨by decide +kernel, rfl⟩
theorem aX8_lays_51 : At cX8_lays 51 (.invokestatic 216) 3 54 := ⟨by decide +kernel, rfl⟩
theorem aX8_lays_54 : At cX8_lays 54 (.istore 4) 2 56 := ⟨by decide +kernel, rfl⟩
theorem aX8_lays_56 : At cX8_lays 56 (.iconst 0) 1 57 := ⟨by decide +kernel, rfl⟩
theorem aX8_lays_57 : At cX8_lays 57 (.istore 5) 2 59 := ⟨by decide +kernel, rfl⟩
theorem aX8_lays_59 : At cX8_lays 59 (.iload 5) 2 61 := ⟨by decide +kernel, rfl⟩
theorem aX8_lays_61 : At cX8_lays 61 (.iload 4) 2 63 := ⟨by decide +kernel, rfl⟩
theorem aX8_lays_63 : Br cX8_lays 63 (.if_icmp .ge (26)) (26) 66 89 := ⟨by decide +kernel, rfl, by decide⟩
theorem aX8_lays_66 : At cX8_lays 66 (.aload_n 3) 1 67 := ⟨by decide +kernel, rfl⟩
theorem aX8_lays_67 : At cX8_lays 67 (.iload 5) 2 69 := ⟨by decide +kernel, rfl⟩
theorem aX8_lays_69 : At cX8_lays 69 (.aload_n 0) 1 70 := ⟨by decide +kernel, rfl⟩
theorem aX8_lays_70 : At cX8_lays 70 (.getfield 23) 3 73 := ⟨by decide +kernel, rfl⟩
theorem aX8_lays_73 : At cX8_lays 73 (.iload_n 2) 1 74 := ⟨by decide +kernel, rfl⟩
theorem aX8_lays_74 : At cX8_lays 74 (.iload 5) 2 76 := ⟨by decide +kernel, rfl⟩
theorem aX8_lays_76 : At cX8_lays 76 (.invokevirtual 172) 3 79 := ⟨by decide +kernel, rfl⟩
theorem aX8_lays_79 : At cX8_lays 79 (.i2l) 1 80 := ⟨by decide +kernel, rfl⟩
theorem aX8_lays_80 : At cX8_lays 80 (.invokevirtual 221) 3 83 := ⟨by decide +kernel, rfl⟩
theorem aX8_lays_83 : At cX8_lays 83 (.iinc 5 1) 3 86 := ⟨by decide +kernel, rfl⟩
theorem aX8_lays_86 : Br cX8_lays 86 (.goto (-27)) (-27) 89 59 := ⟨by decide +kernel, rfl, by decide⟩
theorem aX8_lays_89 : At cX8_lays 89 (.iload 4) 2 91 := ⟨by decide +kernel, rfl⟩
theorem aX8_lays_91 : At cX8_lays 91 (.ireturn) 1 92 := ⟨by decide +kernel, rfl⟩
theorem aX8_judge_0 : At cX8_judge 0 (.iload_n 1) 1 1 := ⟨by decide +kernel, rfl⟩
theorem aX8_judge_1 : At cX8_judge 1 (.iconst 4) 1 2 := ⟨by decide +kernel, rfl⟩
theorem aX8_judge_2 : At cX8_judge 2 (.invokestatic 58) 3 5 := ⟨by decide +kernel, rfl⟩
theorem aX8_judge_5 : Br cX8_judge 5 (.ifCond .ne (14)) (14) 8 19 := ⟨by decide +kernel, rfl, by decide⟩
theorem aX8_judge_8 : At cX8_judge 8 (.aload_n 0) 1 9 := ⟨by decide +kernel, rfl⟩
theorem aX8_judge_9 : At cX8_judge 9 (.getfield 10) 3 12 := ⟨by decide +kernel, rfl⟩
theorem aX8_judge_12 : At cX8_judge 12 (.iload_n 2) 1 13 := ⟨by decide +kernel, rfl⟩
theorem aX8_judge_13 : At cX8_judge 13 (.invokevirtual 169) 3 16 := ⟨by decide +kernel, rfl⟩
theorem aX8_judge_16 : Br cX8_judge 16 (.ifCond .ne (9)) (9) 19 25 := ⟨by decide +kernel, rfl, by decide⟩
theorem aX8_judge_19 : At cX8_judge 19 (.aload_n 0) 1 20 := ⟨by decide +kernel, rfl⟩
theorem aX8_judge_20 : At cX8_judge 20 (.iconst 0) 1 21 := ⟨by decide +kernel, rfl⟩
theorem aX8_judge_21 : At cX8_judge 21 (.invokevirtual 62) 3 24 := ⟨by decide +kernel, rfl⟩
theorem aX8_judge_24 : At cX8_judge 24 (.ireturn) 1 25 := ⟨by decide +kernel, rfl⟩
theorem aX8_judge_25 : At cX8_judge 25 (.aload_n 0) 1 26 := ⟨by decide +kernel, rfl⟩
theorem aX8_judge_26 : At cX8_judge 26 (.getfield 36) 3 29 := ⟨by decide +kernel, rfl⟩
theorem aX8_judge_29 : At cX8_judge 29 (.iload_n 1) 1 30 := ⟨by decide +kernel, rfl⟩
theorem aX8_judge_30 : At cX8_judge 30 (.aaload) 1 31 := ⟨by decide +kernel, rfl⟩
theorem aX8_judge_31 : At cX8_judge 31 (.astore_n 3) 1 32 := ⟨by decide +kernel, rfl⟩
theorem aX8_judge_32 : At cX8_judge 32 (.aload_n 3) 1 33 := ⟨by decide +kernel, rfl⟩
theorem aX8_judge_33 : At cX8_judge 33 (.invokevirtual 203) 3 36 := ⟨by decide +kernel, rfl⟩
theorem aX8_judge_36 : Br cX8_judge 36 (.ifCond .eq (9)) (9) 39 45 := ⟨by decide +kernel, rfl, by decide⟩
theorem aX8_judge_39 : At cX8_judge 39 (.aload_n 0) 1 40 := ⟨by decide +kernel, rfl⟩
theorem aX8_judge_40 : At cX8_judge 40 (.iconst 5) 1 41 := ⟨by decide +kernel, rfl⟩
theorem aX8_judge_41 : At cX8_judge 41 (.invokevirtual 62) 3 44 := ⟨by decide +kernel, rfl⟩
theorem aX8_judge_44 : At cX8_judge 44 (.ireturn) 1 45 := ⟨by decide +kernel, rfl⟩
theorem aX8_judge_45 : At cX8_judge 45 (.aload_n 3) 1 46 := ⟨by decide +kernel, rfl⟩
theorem aX8_judge_46 : At cX8_judge 46 (.getfield 207) 3 49 := ⟨by decide +kernel, rfl⟩
theorem aX8_judge_49 : At cX8_judge 49 (.bipush 12) 2 51 := ⟨by decide +kernel, rfl⟩
theorem aX8_judge_51 : At cX8_judge 51 (.invokestatic 216) 3 54 := ⟨by decide +kernel, rfl⟩
theorem aX8_judge_54 : At cX8_judge 54 (.istore 4) 2 56 := ⟨by decide +kernel, rfl⟩
theorem aX8_judge_56 : At cX8_judge 56 (.iconst 0) 1 57 := ⟨by decide +kernel, rfl⟩
theorem aX8_judge_57 : At cX8_judge 57 (.istore 5) 2 59 := ⟨by decide +kernel, rfl⟩
theorem aX8_judge_59 : At cX8_judge 59 (.iload 5) 2 61 := ⟨by decide +kernel, rfl⟩
theorem aX8_judge_61 : At cX8_judge 61 (.iload 4) 2 63 := ⟨by decide +kernel, rfl⟩
theorem aX8_judge_63 : Br cX8_judge 63 (.if_icmp .ge (36)) (36) 66 99 := ⟨by decide +kernel, rfl, by decide⟩
theorem aX8_judge_66 : At cX8_judge 66 (.aload_n 3) 1 67 := ⟨by decide +kernel, rfl⟩
theorem aX8_judge_67 : At cX8_judge 67 (.getfield 225) 3 70 := ⟨by decide +kernel, rfl⟩
theorem aX8_judge_70 : At cX8_judge 70 (.iload 5) 2 72 := ⟨by decide +kernel, rfl⟩
theorem aX8_judge_72 : At cX8_judge 72 (.laload) 1 73 := ⟨by decide +kernel, rfl⟩
theorem aX8_judge_73 : At cX8_judge 73 (.aload_n 0) 1 74 := ⟨by decide +kernel, rfl⟩
theorem aX8_judge_74 : At cX8_judge 74 (.getfield 23) 3 77 := ⟨by decide +kernel, rfl⟩
theorem aX8_judge_77 : At cX8_judge 77 (.iload_n 2) 1 78 := ⟨by decide +kernel, rfl⟩
theorem aX8_judge_78 : At cX8_judge 78 (.iload 5) 2 80 := ⟨by decide +kernel, rfl⟩
theorem aX8_judge_80 : At cX8_judge 80 (.invokevirtual 172) 3 83 := ⟨by decide +kernel, rfl⟩
theorem aX8_judge_83 : At cX8_judge 83 (.i2l) 1 84 := ⟨by decide +kernel, rfl⟩
theorem aX8_judge_84 : At cX8_judge 84 (.lcmp) 1 85 := ⟨by decide +kernel, rfl⟩
theorem aX8_judge_85 : Br cX8_judge 85 (.ifCond .eq (8)) (8) 88 93 := ⟨by decide +kernel, rfl, by decide⟩
theorem aX8_judge_88 : At cX8_judge 88 (.iconst 1) 1 89 := ⟨by decide +kernel, rfl⟩
theorem aX8_judge_89 : At cX8_judge 89 (.iload 5) 2 91 := ⟨by decide +kernel, rfl⟩
theorem aX8_judge_91 : At cX8_judge 91 (.iadd) 1 92 := ⟨by decide +kernel, rfl⟩
theorem aX8_judge_92 : At cX8_judge 92 (.ireturn) 1 93 := ⟨by decide +kernel, rfl⟩
theorem aX8_judge_93 : At cX8_judge 93 (.iinc 5 1) 3 96 := ⟨by decide +kernel, rfl⟩
theorem aX8_judge_96 : Br cX8_judge 96 (.goto (-37)) (-37) 99 59 := ⟨by decide +kernel, rfl, by decide⟩
theorem aX8_judge_99 : At cX8_judge 99 (.aload_n 3) 1 100 := ⟨by decide +kernel, rfl⟩
theorem aX8_judge_100 : At cX8_judge 100 (.getfield 207) 3 103 := ⟨by decide +kernel, rfl⟩
theorem aX8_judge_103 : At cX8_judge 103 (.bipush 12) 2 105 := ⟨by decide +kernel, rfl⟩
theorem aX8_judge_105 : Br cX8_judge 105 (.if_icmp .ne (7)) (7) 108 112 := ⟨by decide +kernel, rfl, by decide⟩
theorem aX8_judge_108 : At cX8_judge 108 (.iconst 0) 1 109 := ⟨by decide +kernel, rfl⟩
theorem aX8_judge_109 : Br cX8_judge 109 (.goto (7)) (7) 112 116 := ⟨by decide +kernel, rfl, by decide⟩
theorem aX8_judge_112 : At cX8_judge 112 (.iconst 1) 1 113 := ⟨by decide +kernel, rfl⟩
theorem aX8_judge_113 : At cX8_judge 113 (.iload 4) 2 115 := ⟨by decide +kernel, rfl⟩
theorem aX8_judge_115 : At cX8_judge 115 (.iadd) 1 116 := ⟨by decide +kernel, rfl⟩
theorem aX8_judge_116 : At cX8_judge 116 (.ireturn) 1 117 := ⟨by decide +kernel, rfl⟩
theorem aX8_feed_0 : At cX8_feed 0 (.iload_n 2) 1 1 := ⟨by decide +kernel, rfl⟩
theorem aX8_feed_1 : At cX8_feed 1 (.iconst 1) 1 2 := ⟨by decide +kernel, rfl⟩
theorem aX8_feed_2 : Br cX8_feed 2 (.if_icmp .lt (8)) (8) 5 10 := ⟨by decide +kernel, rfl, by decide⟩
theorem aX8_feed_5 : At cX8_feed 5 (.iload_n 2) 1 6 := ⟨by decide +kernel, rfl⟩
theorem aX8_feed_6 : At cX8_feed 6 (.iconst 4) 1 7 := ⟨by decide +kernel, rfl⟩
theorem aX8_feed_7 : Br cX8_feed 7 (.if_icmp .le (9)) (9) 10 16 := ⟨by decide +kernel, rfl, by decide⟩
theorem aX8_feed_10 : At cX8_feed 10 (.aload_n 0) 1 11 := ⟨by decide +kernel, rfl⟩
theorem aX8_feed_11 : At cX8_feed 11 (.iconst 0) 1 12 := ⟨by decide +kernel, rfl⟩
theorem aX8_feed_12 : At cX8_feed 12 (.invokevirtual 62) 3 15 := ⟨by decide +kernel, rfl⟩
theorem aX8_feed_15 : At cX8_feed 15 (.ireturn) 1 16 := ⟨by decide +kernel, rfl⟩
theorem aX8_feed_16 : At cX8_feed 16 (.aload_n 0) 1 17 := ⟨by decide +kernel, rfl⟩
theorem aX8_feed_17 : At cX8_feed 17 (.getfield 30) 3 20 := ⟨by decide +kernel, rfl⟩
theorem aX8_feed_20 : At cX8_feed 20 (.getfield 108) 3 23 := ⟨by decide +kernel, rfl⟩
theorem aX8_feed_23 : At cX8_feed 23 (.getfield 112) 3 26 := ⟨by decide +kernel, rfl⟩
theorem aX8_feed_26 : At cX8_feed 26 (.iload_n 2) 1 27 := ⟨by decide +kernel, rfl⟩
theorem aX8_feed_27 : At cX8_feed 27 (.iadd) 1 28 := ⟨by decide +kernel, rfl⟩
theorem aX8_feed_28 : At cX8_feed 28 (.bipush 120) 2 30 := ⟨by decide +kernel, rfl⟩
theorem aX8_feed_30 : Br cX8_feed 30 (.if_icmp .le (9)) (9) 33 39 := ⟨by decide +kernel, rfl, by decide⟩
theorem aX8_feed_33 : At cX8_feed 33 (.aload_n 0) 1 34 := ⟨by decide +kernel, rfl⟩
theorem aX8_feed_34 : At cX8_feed 34 (.iconst 1) 1 35 := ⟨by decide +kernel, rfl⟩
theorem aX8_feed_35 : At cX8_feed 35 (.invokevirtual 62) 3 38 := ⟨by decide +kernel, rfl⟩
theorem aX8_feed_38 : At cX8_feed 38 (.ireturn) 1 39 := ⟨by decide +kernel, rfl⟩
theorem aX8_feed_39 : At cX8_feed 39 (.iload_n 2) 1 40 := ⟨by decide +kernel, rfl⟩
theorem aX8_feed_40 : At cX8_feed 40 (.iconst 1) 1 41 := ⟨by decide +kernel, rfl⟩
theorem aX8_feed_41 : At cX8_feed 41 (.isub) 1 42 := ⟨by decide +kernel, rfl⟩
theorem aX8_feed_42 : At cX8_feed 42 (.istore_n 3) 1 43 := ⟨by decide +kernel, rfl⟩
theorem aX8_feed_43 : At cX8_feed 43 (.iload_n 3) 1 44 := ⟨by decide +kernel, rfl⟩
theorem aX8_feed_44 : Br cX8_feed 44 (.ifCond .lt (26)) (26) 47 70 := ⟨by decide +kernel, rfl, by decide⟩
theorem aX8_feed_47 : At cX8_feed 47 (.aload_n 0) 1 48 := ⟨by decide +kernel, rfl⟩
theorem aX8_feed_48 : At cX8_feed 48 (.getfield 30) 3 51 := ⟨by decide +kernel, rfl⟩
theorem aX8_feed_51 : At cX8_feed 51 (.getfield 108) 3 54 := ⟨by decide +kernel, rfl⟩
theorem aX8_feed_54 : At cX8_feed 54 (.iload_n 1) 1 55 := ⟨by decide +kernel, rfl⟩
theorem aX8_feed_55 : At cX8_feed 55 (.bipush 8) 2 57 := ⟨by decide +kernel, rfl⟩
theorem aX8_feed_57 : At cX8_feed 57 (.iload_n 3) 1 58 := ⟨by decide +kernel, rfl⟩
theorem aX8_feed_58 : At cX8_feed 58 (.imul) 1 59 := ⟨by decide +kernel, rfl⟩
theorem aX8_feed_59 : At cX8_feed 59 (.iushr) 1 60 := ⟨by decide +kernel, rfl⟩
theorem aX8_feed_60 : At cX8_feed 60 (.i2b) 1 61 := ⟨by decide +kernel, rfl⟩
theorem aX8_feed_61 : At cX8_feed 61 (.invokevirtual 229) 3 64 := ⟨by decide +kernel, rfl⟩
theorem aX8_feed_64 : At cX8_feed 64 (.iinc 3 (-1)) 3 67 := ⟨by decide +kernel, rfl⟩
theorem aX8_feed_67 : Br cX8_feed 67 (.goto (-24)) (-24) 70 43 := ⟨by decide +kernel, rfl, by decide⟩
theorem aX8_feed_70 : At cX8_feed 70 (.aload_n 0) 1 71 := ⟨by decide +kernel, rfl⟩
theorem aX8_feed_71 : At cX8_feed 71 (.getfield 30) 3 74 := ⟨by decide +kernel, rfl⟩
theorem aX8_feed_74 : At cX8_feed 74 (.getfield 108) 3 77 := ⟨by decide +kernel, rfl⟩
theorem aX8_feed_77 : At cX8_feed 77 (.getfield 112) 3 80 := ⟨by decide +kernel, rfl⟩
theorem aX8_feed_80 : At cX8_feed 80 (.ireturn) 1 81 := ⟨by decide +kernel, rfl⟩
theorem aX8_wipe_0 : At cX8_wipe 0 (.aload_n 0) 1 1 := ⟨by decide +kernel, rfl⟩
theorem aX8_wipe_1 : At cX8_wipe 1 (.getfield 30) 3 4 := ⟨by decide +kernel, rfl⟩
theorem aX8_wipe_4 : At cX8_wipe 4 (.getfield 108) 3 7 := ⟨by decide +kernel, rfl⟩
theorem aX8_wipe_7 : At cX8_wipe 7 (.getfield 112) 3 10 := ⟨by decide +kernel, rfl⟩
theorem aX8_wipe_10 : At cX8_wipe 10 (.istore_n 1) 1 11 := ⟨by decide +kernel, rfl⟩
theorem aX8_wipe_11 : At cX8_wipe 11 (.aload_n 0) 1 12 := ⟨by decide +kernel, rfl⟩
theorem aX8_wipe_12 : At cX8_wipe 12 (.getfield 30) 3 15 := ⟨by decide +kernel, rfl⟩
theorem aX8_wipe_15 : At cX8_wipe 15 (.getfield 108) 3 18 := ⟨by decide +kernel, rfl⟩
theorem aX8_wipe_18 : At cX8_wipe 18 (.iconst 0) 1 19 := ⟨by decide +kernel, rfl⟩
theorem aX8_wipe_19 : At cX8_wipe 19 (.putfield 112) 3 22 := ⟨by decide +kernel, rfl⟩
theorem aX8_wipe_22 : At cX8_wipe 22 (.iload_n 1) 1 23 := ⟨by decide +kernel, rfl⟩
theorem aX8_wipe_23 : At cX8_wipe 23 (.ireturn) 1 24 := ⟨by decide +kernel, rfl⟩
theorem aX8_sheet_0 : At cX8_sheet 0 (.iload_n 1) 1 1 := ⟨by decide +kernel, rfl⟩
theorem aX8_sheet_1 : At cX8_sheet 1 (.iconst 4) 1 2 := ⟨by decide +kernel, rfl⟩
theorem aX8_sheet_2 : At cX8_sheet 2 (.invokestatic 58) 3 5 := ⟨by decide +kernel, rfl⟩
theorem aX8_sheet_5 : Br cX8_sheet 5 (.ifCond .ne (13)) (13) 8 18 := ⟨by decide +kernel, rfl, by decide⟩
theorem aX8_sheet_8 : At cX8_sheet 8 (.iload_n 2) 1 9 := ⟨by decide +kernel, rfl⟩
theorem aX8_sheet_9 : At cX8_sheet 9 (.iconst (-1)) 1 10 := ⟨by decide +kernel, rfl⟩
theorem aX8_sheet_10 : Br cX8_sheet 10 (.if_icmp .lt (8)) (8) 13 18 := ⟨by decide +kernel, rfl, by decide⟩
theorem aX8_sheet_13 : At cX8_sheet 13 (.iload_n 2) 1 14 := ⟨by decide +kernel, rfl⟩
theorem aX8_sheet_14 : At cX8_sheet 14 (.iconst 2) 1 15 := ⟨by decide +kernel, rfl⟩
theorem aX8_sheet_15 : Br cX8_sheet 15 (.if_icmp .le (9)) (9) 18 24 := ⟨by decide +kernel, rfl, by decide⟩
theorem aX8_sheet_18 : At cX8_sheet 18 (.aload_n 0) 1 19 := ⟨by decide +kernel, rfl⟩
theorem aX8_sheet_19 : At cX8_sheet 19 (.iconst 0) 1 20 := ⟨by decide +kernel, rfl⟩
theorem aX8_sheet_20 : At cX8_sheet 20 (.invokevirtual 62) 3 23 := ⟨by decide +kernel, rfl⟩
theorem aX8_sheet_23 : At cX8_sheet 23 (.ireturn) 1 24 := ⟨by decide +kernel, rfl⟩
theorem aX8_sheet_24 : At cX8_sheet 24 (.iload_n 2) 1 25 := ⟨by decide +kernel, rfl⟩
theorem aX8_sheet_25 : At cX8_sheet 25 (.iconst (-1)) 1 26 := ⟨by decide +kernel, rfl⟩
theorem aX8_sheet_26 : Br cX8_sheet 26 (.if_icmp .ne (16)) (16) 29 42 := ⟨by decide +kernel, rfl, by decide⟩
theorem aX8_sheet_29 : At cX8_sheet 29 (.aload_n 0) 1 30 := ⟨by decide +kernel, rfl⟩
theorem aX8_sheet_30 : At cX8_sheet 30 (.getfield 36) 3 33 := ⟨by decide +kernel, rfl⟩
theorem aX8_sheet_33 : At cX8_sheet 33 (.iload_n 1) 1 34 := ⟨by decide +kernel, rfl⟩
theorem aX8_sheet_34 : At cX8_sheet 34 (.aaload) 1 35 := ⟨by decide +kernel, rfl⟩
theorem aX8_sheet_35 : At cX8_sheet 35 (.iconst (-1)) 1 36 := ⟨by decide +kernel, rfl⟩
theorem aX8_sheet_36 : At cX8_sheet 36 (.iconst 0) 1 37 := ⟨by decide +kernel, rfl⟩
theorem aX8_sheet_37 : At cX8_sheet 37 (.invokevirtual 233) 3 40 := ⟨by decide +kernel, rfl⟩
theorem aX8_sheet_40 : At cX8_sheet 40 (.iconst 0) 1 41 := ⟨by decide +kernel, rfl⟩
theorem aX8_sheet_41 : At cX8_sheet 41 (.ireturn) 1 42 := ⟨by decide +kernel, rfl⟩
theorem aX8_sheet_42 : At cX8_sheet 42 (.iload_n 3) 1 43 := ⟨by decide +kernel, rfl⟩
theorem aX8_sheet_43 : Br cX8_sheet 43 (.ifCond .ge (10)) (10) 46 53 := ⟨by decide +kernel, rfl, by decide⟩
theorem aX8_sheet_46 : At cX8_sheet 46 (.aload_n 0) 1 47 := ⟨by decide +kernel, rfl⟩
theorem aX8_sheet_47 : At cX8_sheet 47 (.bipush 6) 2 49 := ⟨by decide +kernel, rfl⟩
theorem aX8_sheet_49 : At cX8_sheet 49 (.invokevirtual 62) 3 52 := ⟨by decide +kernel, rfl⟩
theorem aX8_sheet_52 : At cX8_sheet 52 (.ireturn) 1 53 := ⟨by decide +kernel, rfl⟩
theorem aX8_sheet_53 : At cX8_sheet 53 (.iload_n 3) 1 54 := ⟨by decide +kernel, rfl⟩
theorem aX8_sheet_54 : At cX8_sheet 54 (.bipush 40) 2 56 := ⟨by decide +kernel, rfl⟩
theorem aX8_sheet_56 : Br cX8_sheet 56 (.if_icmp .le (9)) (9) 59 65 := ⟨by decide +kernel, rfl, by decide⟩
theorem aX8_sheet_59 : At cX8_sheet 59 (.aload_n 0) 1 60 := ⟨by decide +kernel, rfl⟩
theorem aX8_sheet_60 : At cX8_sheet 60 (.iconst 0) 1 61 := ⟨by decide +kernel, rfl⟩
theorem aX8_sheet_61 : At cX8_sheet 61 (.invokevirtual 62) 3 64 := ⟨by decide +kernel, rfl⟩
theorem aX8_sheet_64 : At cX8_sheet 64 (.ireturn) 1 65 := ⟨by decide +kernel, rfl⟩
theorem aX8_sheet_65 : At cX8_sheet 65 (.aload_n 0) 1 66 := ⟨by decide +kernel, rfl⟩
theorem aX8_sheet_66 : At cX8_sheet 66 (.getfield 36) 3 69 := ⟨by decide +kernel, rfl⟩
theorem aX8_sheet_69 : At cX8_sheet 69 (.iload_n 1) 1 70 := ⟨by decide +kernel, rfl⟩
theorem aX8_sheet_70 : At cX8_sheet 70 (.aaload) 1 71 := ⟨by decide +kernel, rfl⟩
theorem aX8_sheet_71 : At cX8_sheet 71 (.iload_n 2) 1 72 := ⟨by decide +kernel, rfl⟩
theorem aX8_sheet_72 : At cX8_sheet 72 (.iload_n 3) 1 73 := ⟨by decide +kernel, rfl⟩
theorem aX8_sheet_73 : At cX8_sheet 73 (.invokevirtual 233) 3 76 := ⟨by decide +kernel, rfl⟩
theorem aX8_sheet_76 : At cX8_sheet 76 (.iload_n 3) 1 77 := ⟨by decide +kernel, rfl⟩
theorem aX8_sheet_77 : At cX8_sheet 77 (.ireturn) 1 78 := ⟨by decide +kernel, rfl⟩
theorem aX8_write_0 : At cX8_write 0 (.iload_n 1) 1 1 := ⟨by decide +kernel, rfl⟩
theorem aX8_write_1 : At cX8_write 1 (.iconst 4) 1 2 := ⟨by decide +kernel, rfl⟩
theorem aX8_write_2 : At cX8_write 2 (.invokestatic 58) 3 5 := ⟨by decide +kernel, rfl⟩
theorem aX8_write_5 : Br cX8_write 5 (.ifCond .eq (9)) (9) 8 14 := ⟨by decide +kernel, rfl, by decide⟩
theorem aX8_write_8 : At cX8_write 8 (.aload_n 0) 1 9 := ⟨by decide +kernel, rfl⟩
theorem aX8_write_9 : At cX8_write 9 (.iconst 0) 1 10 := ⟨by decide +kernel, rfl⟩
theorem aX8_write_10 : At cX8_write 10 (.invokevirtual 62) 3 13 := ⟨by decide +kernel, rfl⟩
theorem aX8_write_13 : At cX8_write 13 (.ireturn) 1 14 := ⟨by decide +kernel, rfl⟩
theorem aX8_write_14 : At cX8_write 14 (.aload_n 0) 1 15 := ⟨by decide +kernel, rfl⟩
theorem aX8_write_15 : At cX8_write 15 (.getfield 36) 3 18 := ⟨by decide +kernel, rfl⟩
theorem aX8_write_18 : At cX8_write 18 (.iload_n 1) 1 19 := ⟨by decide +kernel, rfl⟩
theorem aX8_write_19 : At cX8_write 19 (.aaload) 1 20 := ⟨by decide +kernel, rfl⟩
theorem aX8_write_20 : At cX8_write 20 (.astore 5) 2 22 := ⟨by decide +kernel, rfl⟩
theorem aX8_write_22 : At cX8_write 22 (.aload 5) 2 24 := ⟨by decide +kernel, rfl⟩
theorem aX8_write_24 : At cX8_write 24 (.invokevirtual 203) 3 27 := ⟨by decide +kernel, rfl⟩
theorem aX8_write_27 : Br cX8_write 27 (.ifCond .eq (9)) (9) 30 36 := ⟨by decide +kernel, rfl, by decide⟩
theorem aX8_write_30 : At cX8_write 30 (.aload_n 0) 1 31 := ⟨by decide +kernel, rfl⟩
theorem aX8_write_31 : At cX8_write 31 (.iconst 5) 1 32 := ⟨by decide +kernel, rfl⟩
theorem aX8_write_32 : At cX8_write 32 (.invokevirtual 62) 3 35 := ⟨by decide +kernel, rfl⟩
theorem aX8_write_35 : At cX8_write 35 (.ireturn) 1 36 := ⟨by decide +kernel, rfl⟩
theorem aX8_write_36 : At cX8_write 36 (.iload_n 2) 1 37 := ⟨by decide +kernel, rfl⟩
theorem aX8_write_37 : At cX8_write 37 (.aload 5) 2 39 := ⟨by decide +kernel, rfl⟩
theorem aX8_write_39 : At cX8_write 39 (.getfield 207) 3 42 := ⟨by decide +kernel, rfl⟩
theorem aX8_write_42 : At cX8_write 42 (.invokestatic 58) 3 45 := ⟨by decide +kernel, rfl⟩
theorem aX8_write_45 : Br cX8_write 45 (.ifCond .eq (9)) (9) 48 54 := ⟨by decide +kernel, rfl, by decide⟩
theorem aX8_write_48 : At cX8_write 48 (.aload_n 0) 1 49 := ⟨by decide +kernel, rfl⟩
theorem aX8_write_49 : At cX8_write 49 (.iconst 0) 1 50 := ⟨by decide +kernel, rfl⟩
theorem aX8_write_50 : At cX8_write 50 (.invokevirtual 62) 3 53 := ⟨by decide +kernel, rfl⟩
theorem aX8_write_53 : At cX8_write 53 (.ireturn) 1 54 := ⟨by decide +kernel, rfl⟩
theorem aX8_write_54 : At cX8_write 54 (.aload 5) 2 56 := ⟨by decide +kernel, rfl⟩
theorem aX8_write_56 : At cX8_write 56 (.iload_n 2) 1 57 := ⟨by decide +kernel, rfl⟩
theorem aX8_write_57 : At cX8_write 57 (.lload_n 3) 1 58 := ⟨by decide +kernel, rfl⟩
theorem aX8_write_58 : At cX8_write 58 (.invokevirtual 221) 3 61 := ⟨by decide +kernel, rfl⟩
theorem aX8_write_61 : At cX8_write 61 (.iconst 1) 1 62 := ⟨by decide +kernel, rfl⟩
theorem aX8_write_62 : At cX8_write 62 (.ireturn) 1 63 := ⟨by decide +kernel, rfl⟩
theorem aX8_item_0 : At cX8_item 0 (.iload_n 1) 1 1 := ⟨by decide +kernel, rfl⟩
theorem aX8_item_1 : At cX8_item 1 (.iconst 4) 1 2 := ⟨by decide +kernel, rfl⟩
theorem aX8_item_2 : At cX8_item 2 (.invokestatic 58) 3 5 := ⟨by decide +kernel, rfl⟩
theorem aX8_item_5 : Br cX8_item 5 (.ifCond .eq (9)) (9) 8 14 := ⟨by decide +kernel, rfl, by decide⟩
theorem aX8_item_8 : At cX8_item 8 (.aload_n 0) 1 9 := ⟨by decide +kernel, rfl⟩
theorem aX8_item_9 : At cX8_item 9 (.iconst 0) 1 10 := ⟨by decide +kernel, rfl⟩
theorem aX8_item_10 : At cX8_item 10 (.invokevirtual 190) 3 13 := ⟨by decide +kernel, rfl⟩
theorem aX8_item_13 : At cX8_item 13 (.lreturn) 1 14 := ⟨by decide +kernel, rfl⟩
theorem aX8_item_14 : At cX8_item 14 (.aload_n 0) 1 15 := ⟨by decide +kernel, rfl⟩
theorem aX8_item_15 : At cX8_item 15 (.getfield 36) 3 18 := ⟨by decide +kernel, rfl⟩
theorem aX8_item_18 : At cX8_item 18 (.iload_n 1) 1 19 := ⟨by decide +kernel, rfl⟩
theorem aX8_item_19 : At cX8_item 19 (.aaload) 1 20 := ⟨by decide +kernel, rfl⟩
theorem aX8_item_20 : At cX8_item 20 (.astore_n 3) 1 21 := ⟨by decide +kernel, rfl⟩
theorem aX8_item_21 : At cX8_item 21 (.aload_n 3) 1 22 := ⟨by decide +kernel, rfl⟩
theorem aX8_item_22 : At cX8_item 22 (.invokevirtual 203) 3 25 := ⟨by decide +kernel, rfl⟩
theorem aX8_item_25 : Br cX8_item 25 (.ifCond .eq (9)) (9) 28 34 := ⟨by decide +kernel, rfl, by decide⟩
theorem aX8_item_28 : At cX8_item 28 (.aload_n 0) 1 29 := ⟨by decide +kernel, rfl⟩
theorem aX8_item_29 : At cX8_item 29 (.iconst 5) 1 30 := ⟨by decide +kernel, rfl⟩
theorem aX8_item_30 : At cX8_item 30 (.invokevirtual 190) 3 33 := ⟨by decide +kernel, rfl⟩
theorem aX8_item_33 : At cX8_item 33 (.lreturn) 1 34 := ⟨by decide +kernel, rfl⟩
theorem aX8_item_34 : At cX8_item 34 (.iload_n 2) 1 35 := ⟨by decide +kernel, rfl⟩
theorem aX8_item_35 : At cX8_item 35 (.aload_n 3) 1 36 := ⟨by decide +kernel, rfl⟩
theorem aX8_item_36 : At cX8_item 36 (.getfield 207) 3 39 := ⟨by decide +kernel, rfl⟩
theorem aX8_item_39 : At cX8_item 39 (.invokestatic 58) 3 42 := ⟨by decide +kernel, rfl⟩
theorem aX8_item_42 : Br cX8_item 42 (.ifCond .eq (11)) (11) 45 53 := ⟨by decide +kernel, rfl, by decide⟩
theorem aX8_item_45 : At cX8_item 45 (.aload_n 0) 1 46 := ⟨by decide +kernel, rfl⟩
theorem aX8_item_46 : At cX8_item 46 (.iconst 0) 1 47 := ⟨by decide +kernel, rfl⟩
theorem aX8_item_47 : At cX8_item 47 (.invokevirtual 190) 3 50 := ⟨by decide +kernel, rfl⟩
theorem aX8_item_50 : Br cX8_item 50 (.goto (9)) (9) 53 59 := ⟨by decide +kernel, rfl, by decide⟩
theorem aX8_item_53 : At cX8_item 53 (.aload_n 3) 1 54 := ⟨by decide +kernel, rfl⟩
theorem aX8_item_54 : At cX8_item 54 (.getfield 225) 3 57 := ⟨by decide +kernel, rfl⟩
theorem aX8_item_57 : At cX8_item 57 (.iload_n 2) 1 58 := ⟨by decide +kernel, rfl⟩
theorem aX8_item_58 : At cX8_item 58 (.laload) 1 59 := ⟨by decide +kernel, rfl⟩
theorem aX8_item_59 : At cX8_item 59 (.lreturn) 1 60 := ⟨by decide +kernel, rfl⟩
theorem aX8_copy_0 : At cX8_copy 0 (.iload_n 1) 1 1 := ⟨by decide +kernel, rfl⟩
theorem aX8_copy_1 : At cX8_copy 1 (.iconst 4) 1 2 := ⟨by decide +kernel, rfl⟩
theorem aX8_copy_2 : At cX8_copy 2 (.invokestatic 58) 3 5 := ⟨by decide +kernel, rfl⟩
theorem aX8_copy_5 : Br cX8_copy 5 (.ifCond .ne (11)) (11) 8 16 := ⟨by decide +kernel, rfl, by decide⟩
theorem aX8_copy_8 : At cX8_copy 8 (.iload_n 3) 1 9 := ⟨by decide +kernel, rfl⟩
theorem aX8_copy_9 : At cX8_copy 9 (.iconst 4) 1 10 := ⟨by decide +kernel, rfl⟩
theorem aX8_copy_10 : At cX8_copy 10 (.invokestatic 58) 3 13 := ⟨by decide +kernel, rfl⟩
theorem aX8_copy_13 : Br cX8_copy 13 (.ifCond .eq (9)) (9) 16 22 := ⟨by decide +kernel, rfl, by decide⟩
theorem aX8_copy_16 : At cX8_copy 16 (.aload_n 0) 1 17 := ⟨by decide +kernel, rfl⟩
theorem aX8_copy_17 : At cX8_copy 17 (.iconst 0) 1 18 := ⟨by decide +kernel, rfl⟩
theorem aX8_copy_18 : At cX8_copy 18 (.invokevirtual 62) 3 21 := ⟨by decide +kernel, rfl⟩
theorem aX8_copy_21 : At cX8_copy 21 (.ireturn) 1 22 := ⟨by decide +kernel, rfl⟩
theorem aX8_copy_22 : At cX8_copy 22 (.aload_n 0) 1 23 := ⟨by decide +kernel, rfl⟩
theorem aX8_copy_23 : At cX8_copy 23 (.getfield 36) 3 26 := ⟨by decide +kernel, rfl⟩
theorem aX8_copy_26 : At cX8_copy 26 (.iload_n 1) 1 27 := ⟨by decide +kernel, rfl⟩
theorem aX8_copy_27 : At cX8_copy 27 (.aaload) 1 28 := ⟨by decide +kernel, rfl⟩
theorem aX8_copy_28 : At cX8_copy 28 (.astore 6) 2 30 := ⟨by decide +kernel, rfl⟩
theorem aX8_copy_30 : At cX8_copy 30 (.aload_n 0) 1 31 := ⟨by decide +kernel, rfl⟩
theorem aX8_copy_31 : At cX8_copy 31 (.getfield 36) 3 34 := ⟨by decide +kernel, rfl⟩
theorem aX8_copy_34 : At cX8_copy 34 (.iload_n 3) 1 35 := ⟨by decide +kernel, rfl⟩
theorem aX8_copy_35 : At cX8_copy 35 (.aaload) 1 36 := ⟨by decide +kernel, rfl⟩
theorem aX8_copy_36 : At cX8_copy 36 (.astore 7) 2 38 := ⟨by decide +kernel, rfl⟩
theorem aX8_copy_38 : At cX8_copy 38 (.aload 6) 2 40 := ⟨by decide +kernel, rfl⟩
theorem aX8_copy_40 : At cX8_copy 40 (.invokevirtual 203) 3 43 := ⟨by decide +kernel, rfl⟩
theorem aX8_copy_43 : Br cX8_copy 43 (.ifCond .ne (11)) (11) 46 54 := ⟨by decide +kernel, rfl, by decide⟩
theorem aX8_copy_46 : At cX8_copy 46 (.aload 7) 2 48 := ⟨by decide +kernel, rfl⟩
theorem aX8_copy_48 : At cX8_copy 48 (.invokevirtual 203) 3 51 := ⟨by decide +kernel, rfl⟩
theorem aX8_copy_51 : Br cX8_copy 51 (.ifCond .eq (9)) (9) 54 60 := ⟨by decide +kernel, rfl, by decide⟩
theorem aX8_copy_54 : At cX8_copy 54 (.aload_n 0) 1 55 := ⟨by decide +kernel, rfl⟩
theorem aX8_copy_55 : At cX8_copy 55 (.iconst 5) 1 56 := ⟨by decide +kernel, rfl⟩
theorem aX8_copy_56 : At cX8_copy 56 (.invokevirtual 62) 3 59 := ⟨by decide +kernel, rfl⟩
theorem aX8_copy_59 : At cX8_copy 59 (.ireturn) 1 60 := ⟨by decide +kernel, rfl⟩
theorem aX8_copy_60 : At cX8_copy 60 (.aload 6) 2 62 := ⟨by decide +kernel, rfl⟩
theorem aX8_copy_62 : At cX8_copy 62 (.getfield 236) 3 65 := ⟨by decide +kernel, rfl⟩
theorem aX8_copy_65 : At cX8_copy 65 (.aload 7) 2 67 := ⟨by decide +kernel, rfl⟩
theorem aX8_copy_67 : At cX8_copy 67 (.getfield 236) 3 70 := ⟨by decide +kernel, rfl⟩
theorem aX8_copy_70 : Br cX8_copy 70 (.if_icmp .eq (9)) (9) 73 79 := ⟨by decide +kernel, rfl, by decide⟩
theorem aX8_copy_73 : At cX8_copy 73 (.aload_n 0) 1 74 := ⟨by decide +kernel, rfl⟩
theorem aX8_copy_74 : At cX8_copy 74 (.iconst 2) 1 75 := ⟨by decide +kernel, rfl⟩
theorem aX8_copy_75 : At cX8_copy 75 (.invokevirtual 62) 3 78 := ⟨by decide +kernel, rfl⟩
theorem aX8_copy_78 : At cX8_copy 78 (.ireturn) 1 79 := ⟨by decide +kernel, rfl⟩
theorem aX8_copy_79 : At cX8_copy 79 (.aload 6) 2 81 := ⟨by decide +kernel, rfl⟩
theorem aX8_copy_81 : At cX8_copy 81 (.iload_n 2) 1 82 := ⟨by decide +kernel, rfl⟩
theorem aX8_copy_82 : At cX8_copy 82 (.iload 5) 2 84 := ⟨by decide +kernel, rfl⟩
theorem aX8_copy_84 : At cX8_copy 84 (.invokevirtual 239) 3 87 := ⟨by decide +kernel, rfl⟩
theorem aX8_copy_87 : Br cX8_copy 87 (.ifCond .eq (15)) (15) 90 102 := ⟨by decide +kernel, rfl, by decide⟩
theorem aX8_copy_90 : At cX8_copy 90 (.aload 7) 2 92 := ⟨by decide +kernel, rfl⟩
theorem aX8_copy_92 : At cX8_copy 92 (.iload 4) 2 94 := ⟨by decide +kernel, rfl⟩
theorem aX8_copy_94 : At cX8_copy 94 (.iload 5) 2 96 := ⟨by decide +kernel, rfl⟩
theorem aX8_copy_96 : At cX8_copy 96 (.invokevirtual 239) 3 99 := ⟨by decide +kernel, rfl⟩
theorem aX8_copy_99 : Br cX8_copy 99 (.ifCond .ne (9)) (9) 102 108 := ⟨by decide +kernel, rfl, by decide⟩
theorem aX8_copy_102 : At cX8_copy 102 (.aload_n 0) 1 103 := ⟨by decide +kernel, rfl⟩
theorem aX8_copy_103 : At cX8_copy 103 (.iconst 0) 1 104 := ⟨by decide +kernel, rfl⟩
theorem aX8_copy_104 : At cX8_copy 104 (.invokevirtual 62) 3 107 := ⟨by decide +kernel, rfl⟩
theorem aX8_copy_107 : At cX8_copy 107 (.ireturn) 1 108 := ⟨by decide +kernel, rfl⟩
theorem aX8_copy_108 : At cX8_copy 108 (.aload 6) 2 110 := ⟨by decide +kernel, rfl⟩
theorem aX8_copy_110 : At cX8_copy 110 (.getfield 225) 3 113 := ⟨by decide +kernel, rfl⟩
theorem aX8_copy_113 : At cX8_copy 113 (.iload_n 2) 1 114 := ⟨by decide +kernel, rfl⟩
theorem aX8_copy_114 : At cX8_copy 114 (.aload 7) 2 116 := ⟨by decide +kernel, rfl⟩
theorem aX8_copy_116 : At cX8_copy 116 (.getfield 225) 3 119 := ⟨by decide +kernel, rfl⟩
theorem aX8_copy_119 : At cX8_copy 119 (.iload 4) 2 121 := ⟨by decide +kernel, rfl⟩
theorem aX8_copy_121 : At cX8_copy 121 (.iload 5) 2 123 := ⟨by decide +kernel, rfl⟩
theorem aX8_copy_123 : At cX8_copy 123 (.invokestatic 242) 3 126 := ⟨by decide +kernel, rfl⟩
theorem aX8_copy_126 : At cX8_copy 126 (.iload 5) 2 128 := ⟨by decide +kernel, rfl⟩
theorem aX8_copy_128 : At cX8_copy 128 (.ireturn) 1 129 := ⟨by decide +kernel, rfl⟩
theorem aX8_hold_0 : At cX8_hold 0 (.aload_n 0) 1 1 := ⟨by decide +kernel, rfl⟩
theorem aX8_hold_1 : At cX8_hold 1 (.getfield 10) 3 4 := ⟨by decide +kernel, rfl⟩
theorem aX8_hold_4 : At cX8_hold 4 (.iload_n 2) 1 5 := ⟨by decide +kernel, rfl⟩
theorem aX8_hold_5 : At cX8_hold 5 (.invokevirtual 128) 3 8 := ⟨by decide +kernel, rfl⟩
theorem aX8_hold_8 : At cX8_hold 8 (.astore_n 3) 1 9 := ⟨by decide +kernel, rfl⟩
theorem aX8_hold_9 : At cX8_hold 9 (.iload_n 1) 1 10 := ⟨by decide +kernel, rfl⟩
theorem aX8_hold_10 : At cX8_hold 10 (.iconst 4) 1 11 := ⟨by decide +kernel, rfl⟩
theorem aX8_hold_11 : At cX8_hold 11 (.invokestatic 58) 3 14 := ⟨by decide +kernel, rfl⟩
theorem aX8_hold_14 : Br cX8_hold 14 (.ifCond .ne (7)) (7) 17 21 := ⟨by decide +kernel, rfl, by decide⟩
theorem aX8_hold_17 : At cX8_hold 17 (.aload_n 3) 1 18 := ⟨by decide +kernel, rfl⟩
theorem aX8_hold_18 : Br cX8_hold 18 (.ifnonnull (9)) (9) 21 27 := ⟨by decide +kernel, rfl, by decide⟩
theorem aX8_hold_21 : At cX8_hold 21 (.aload_n 0) 1 22 := ⟨by decide +kernel, rfl⟩
theorem aX8_hold_22 : At cX8_hold 22 (.iconst 0) 1 23 := ⟨by decide +kernel, rfl⟩
theorem aX8_hold_23 : At cX8_hold 23 (.invokevirtual 62) 3 26 := ⟨by decide +kernel, rfl⟩
theorem aX8_hold_26 : At cX8_hold 26 (.ireturn) 1 27 := ⟨by decide +kernel, rfl⟩
theorem aX8_hold_27 : At cX8_hold 27 (.aload_n 0) 1 28 := ⟨by decide +kernel, rfl⟩
theorem aX8_hold_28 : At cX8_hold 28 (.getfield 42) 3 31 := ⟨by decide +kernel, rfl⟩
theorem aX8_hold_31 : At cX8_hold 31 (.iload_n 1) 1 32 := ⟨by decide +kernel, rfl⟩
theorem aX8_hold_32 : At cX8_hold 32 (.aload_n 3) 1 33 := ⟨by decide +kernel, rfl⟩
theorem aX8_hold_33 : At cX8_hold 33 (.aastore) 1 34 := ⟨by decide +kernel, rfl⟩
theorem aX8_hold_34 : At cX8_hold 34 (.iconst 1) 1 35 := ⟨by decide +kernel, rfl⟩
theorem aX8_hold_35 : At cX8_hold 35 (.ireturn) 1 36 := ⟨by decide +kernel, rfl⟩
theorem aX8_taken_0 : At cX8_taken 0 (.iload_n 1) 1 1 := ⟨by decide +kernel, rfl⟩
theorem aX8_taken_1 : At cX8_taken 1 (.iconst 4) 1 2 := ⟨by decide +kernel, rfl⟩
theorem aX8_taken_2 : At cX8_taken 2 (.invokestatic 58) 3 5 := ⟨by decide +kernel, rfl⟩
theorem aX8_taken_5 : Br cX8_taken 5 (.ifCond .ne (12)) (12) 8 17 := ⟨by decide +kernel, rfl, by decide⟩
theorem aX8_taken_8 : At cX8_taken 8 (.iload_n 2) 1 9 := ⟨by decide +kernel, rfl⟩
theorem aX8_taken_9 : At cX8_taken 9 (.bipush 6) 2 11 := ⟨by decide +kernel, rfl⟩
theorem aX8_taken_11 : At cX8_taken 11 (.invokestatic 58) 3 14 := ⟨by decide +kernel, rfl⟩
theorem aX8_taken_14 : Br cX8_taken 14 (.ifCond .eq (9)) (9) 17 23 := ⟨by decide +kernel, rfl, by decide⟩
theorem aX8_taken_17 : At cX8_taken 17 (.aload_n 0) 1 18 := ⟨by decide +kernel, rfl⟩
theorem aX8_taken_18 : At cX8_taken 18 (.iconst 0) 1 19 := ⟨by decide +kernel, rfl⟩
theorem aX8_taken_19 : At cX8_taken 19 (.invokevirtual 62) 3 22 := ⟨by decide +kernel, rfl⟩
theorem aX8_taken_22 : At cX8_taken 22 (.ireturn) 1 23 := ⟨by decide +kernel, rfl⟩
theorem aX8_taken_23 : At cX8_taken 23 (.aload_n 0) 1 24 := ⟨by decide +kernel, rfl⟩
theorem aX8_taken_24 : At cX8_taken 24 (.getfield 42) 3 27 := ⟨by decide +kernel, rfl⟩
theorem aX8_taken_27 : At cX8_taken 27 (.iload_n 1) 1 28 := ⟨by decide +kernel, rfl⟩
theorem aX8_taken_28 : At cX8_taken 28 (.aaload) 1 29 := ⟨by decide +kernel, rfl⟩
theorem aX8_taken_29 : At cX8_taken 29 (.astore_n 3) 1 30 := ⟨by decide +kernel, rfl⟩
theorem aX8_taken_30 : At cX8_taken 30 (.aload_n 3) 1 31 := ⟨by decide +kernel, rfl⟩
theorem aX8_taken_31 : Br cX8_taken 31 (.ifnonnull (9)) (9) 34 40 := ⟨by decide +kernel, rfl, by decide⟩
theorem aX8_taken_34 : At cX8_taken 34 (.aload_n 0) 1 35 := ⟨by decide +kernel, rfl⟩
theorem aX8_taken_35 : At cX8_taken 35 (.iconst 5) 1 36 := ⟨by decide +kernel, rfl⟩
theorem aX8_taken_36 : At cX8_taken 36 (.invokevirtual 62) 3 39 := ⟨by decide +kernel, rfl⟩
theorem aX8_taken_39 : At cX8_taken 39 (.ireturn) 1 40 := ⟨by decide +kernel, rfl⟩
theorem aX8_taken_40 : At cX8_taken 40 (.aload_n 3) 1 41 := ⟨by decide +kernel, rfl⟩
theorem aX8_taken_41 : At cX8_taken 41 (.getfield 131) 3 44 := ⟨by decide +kernel, rfl⟩
theorem aX8_taken_44 : At cX8_taken 44 (.iload_n 2) 1 45 := ⟨by decide +kernel, rfl⟩
theorem aX8_taken_45 : At cX8_taken 45 (.invokestatic 248) 3 48 := ⟨by decide +kernel, rfl⟩
theorem aX8_taken_48 : Br cX8_taken 48 (.ifCond .eq (14)) (14) 51 62 := ⟨by decide +kernel, rfl, by decide⟩
theorem aX8_taken_51 : At cX8_taken 51 (.aload_n 0) 1 52 := ⟨by decide +kernel, rfl⟩
theorem aX8_taken_52 : At cX8_taken 52 (.getfield 10) 3 55 := ⟨by decide +kernel, rfl⟩
theorem aX8_taken_55 : At cX8_taken 55 (.aload_n 3) 1 56 := ⟨by decide +kernel, rfl⟩
theorem aX8_taken_56 : At cX8_taken 56 (.invokevirtual 251) 3 59 := ⟨by decide +kernel, rfl⟩
theorem aX8_taken_59 : Br cX8_taken 59 (.goto (8)) (8) 62 67 := ⟨by decide +kernel, rfl, by decide⟩
theorem aX8_taken_62 : At cX8_taken 62 (.aload_n 0) 1 63 := ⟨by decide +kernel, rfl⟩
theorem aX8_taken_63 : At cX8_taken 63 (.iconst 2) 1 64 := ⟨by decide +kernel, rfl⟩
theorem aX8_taken_64 : At cX8_taken 64 (.invokevirtual 62) 3 67 := ⟨by decide +kernel, rfl⟩
theorem aX8_taken_67 : At cX8_taken 67 (.ireturn) 1 68 := ⟨by decide +kernel, rfl⟩
theorem aX8_image_0 : At cX8_image 0 (.aload_n 0) 1 1 := ⟨by decide +kernel, rfl⟩
theorem aX8_image_1 : At cX8_image 1 (.getfield 254) 3 4 := ⟨by decide +kernel, rfl⟩
theorem aX8_image_4 : At cX8_image 4 (.bipush 6) 2 6 := ⟨by decide +kernel, rfl⟩
theorem aX8_image_6 : Br cX8_image 6 (.if_icmp .lt (9)) (9) 9 15 := ⟨by decide +kernel, rfl, by decide⟩
theorem aX8_image_9 : At cX8_image 9 (.aload_n 0) 1 10 := ⟨by decide +kernel, rfl⟩
theorem aX8_image_10 : At cX8_image 10 (.iconst 1) 1 11 := ⟨by decide +kernel, rfl⟩
theorem aX8_image_11 : At cX8_image 11 (.invokevirtual 62) 3 14 := ⟨by decide +kernel, rfl⟩
theorem aX8_image_14 : At cX8_image 14 (.ireturn) 1 15 := ⟨by decide +kernel, rfl⟩
theorem aX8_image_15 : At cX8_image 15 (.aload_n 0) 1 16 := ⟨by decide +kernel, rfl⟩
theorem aX8_image_16 : At cX8_image 16 (.getfield 16) 3 19 := ⟨by decide +kernel, rfl⟩
theorem aX8_image_19 : At cX8_image 19 (.aload_n 0) 1 20 := ⟨by decide +kernel, rfl⟩
theorem aX8_image_20 : At cX8_image 20 (.getfield 254) 3 23 := ⟨by decide +kernel, rfl⟩
theorem aX8_image_23 : At cX8_image 23 (.aaload) 1 24 := ⟨by decide +kernel, rfl⟩
theorem aX8_image_24 : At cX8_image 24 (.aload_n 0) 1 25 := ⟨by decide +kernel, rfl⟩
theorem aX8_image_25 : At cX8_image 25 (.getfield 10) 3 28 := ⟨by decide +kernel, rfl⟩
theorem aX8_image_28 : At cX8_image 28 (.invokevirtual 257) 3 31 := ⟨by decide +kernel, rfl⟩
theorem aX8_image_31 : At cX8_image 31 (.aload_n 0) 1 32 := ⟨by decide +kernel, rfl⟩
theorem aX8_image_32 : At cX8_image 32 (.dup) 1 33 := ⟨by decide +kernel, rfl⟩
theorem aX8_image_33 : At cX8_image 33 (.getfield 254) 3 36 := ⟨by decide +kernel, rfl⟩
theorem aX8_image_36 : At cX8_image 36 (.iconst 1) 1 37 := ⟨by decide +kernel, rfl⟩
theorem aX8_image_37 : At cX8_image 37 (.iadd) 1 38 := ⟨by decide +kernel, rfl⟩
theorem aX8_image_38 : At cX8_image 38 (.putfield 254) 3 41 := ⟨by decide +kernel, rfl⟩
theorem aX8_image_41 : At cX8_image 41 (.aload_n 0) 1 42 := ⟨by decide +kernel, rfl⟩
theorem aX8_image_42 : At cX8_image 42 (.getfield 254) 3 45 := ⟨by decide +kernel, rfl⟩
theorem aX8_image_45 : At cX8_image 45 (.ireturn) 1 46 := ⟨by decide +kernel, rfl⟩
theorem aX8_back_0 : At cX8_back 0 (.aload_n 0) 1 1 := ⟨by decide +kernel, rfl⟩
theorem aX8_back_1 : At cX8_back 1 (.getfield 254) 3 4 := ⟨by decide +kernel, rfl⟩
theorem aX8_back_4 : Br cX8_back 4 (.ifCond .gt (9)) (9) 7 13 := ⟨by decide +kernel, rfl, by decide⟩
theorem aX8_back_7 : At cX8_back 7 (.aload_n 0) 1 8 := ⟨by decide +kernel, rfl⟩
theorem aX8_back_8 : At cX8_back 8 (.iconst 3) 1 9 := ⟨by decide +kernel, rfl⟩
theorem aX8_back_9 : At cX8_back 9 (.invokevirtual 62) 3 12 := ⟨by decide +kernel, rfl⟩
theorem aX8_back_12 : At cX8_back 12 (.ireturn) 1 13 := ⟨by decide +kernel, rfl⟩
theorem aX8_back_13 : At cX8_back 13 (.aload_n 0) 1 14 := ⟨by decide +kernel, rfl⟩
theorem aX8_back_14 : At cX8_back 14 (.dup) 1 15 := ⟨by decide +kernel, rfl⟩
theorem aX8_back_15 : At cX8_back 15 (.getfield 254) 3 18 := ⟨by decide +kernel, rfl⟩
theorem aX8_back_18 : At cX8_back 18 (.iconst 1) 1 19 := ⟨by decide +kernel, rfl⟩
theorem aX8_back_19 : At cX8_back 19 (.isub) 1 20 := ⟨by decide +kernel, rfl⟩
theorem aX8_back_20 : At cX8_back 20 (.putfield 254) 3 23 := ⟨by decide +kernel, rfl⟩
theorem aX8_back_23 : At cX8_back 23 (.aload_n 0) 1 24 := ⟨by decide +kernel, rfl⟩
theorem aX8_back_24 : At cX8_back 24 (.getfield 10) 3 27 := ⟨by decide +kernel, rfl⟩
theorem aX8_back_27 : At cX8_back 27 (.aload_n 0) 1 28 := ⟨by decide +kernel, rfl⟩
theorem aX8_back_28 : At cX8_back 28 (.getfield 16) 3 31 := ⟨by decide +kernel, rfl⟩
theorem aX8_back_31 : At cX8_back 31 (.aload_n 0) 1 32 := ⟨by decide +kernel, rfl⟩
theorem aX8_back_32 : At cX8_back 32 (.getfield 254) 3 35 := ⟨by decide +kernel, rfl⟩
theorem aX8_back_35 : At cX8_back 35 (.aaload) 1 36 := ⟨by decide +kernel, rfl⟩
theorem aX8_back_36 : At cX8_back 36 (.invokevirtual 257) 3 39 := ⟨by decide +kernel, rfl⟩
theorem aX8_back_39 : At cX8_back 39 (.aload_n 0) 1 40 := ⟨by decide +kernel, rfl⟩
theorem aX8_back_40 : At cX8_back 40 (.invokevirtual 125) 3 43 := ⟨by decide +kernel, rfl⟩
theorem aX8_back_43 : At cX8_back 43 (.aload_n 0) 1 44 := ⟨by decide +kernel, rfl⟩
theorem aX8_back_44 : At cX8_back 44 (.getfield 10) 3 47 := ⟨by decide +kernel, rfl⟩
theorem aX8_back_47 : At cX8_back 47 (.getfield 101) 3 50 := ⟨by decide +kernel, rfl⟩
theorem aX8_back_50 : At cX8_back 50 (.ireturn) 1 51 := ⟨by decide +kernel, rfl⟩
theorem aX8_seed_0 : At cX8_seed 0 (.aload_n 0) 1 1 := ⟨by decide +kernel, rfl⟩
theorem aX8_seed_1 : At cX8_seed 1 (.getfield 10) 3 4 := ⟨by decide +kernel, rfl⟩
theorem aX8_seed_4 : At cX8_seed 4 (.getfield 80) 3 7 := ⟨by decide +kernel, rfl⟩
theorem aX8_seed_7 : At cX8_seed 7 (.istore_n 2) 1 8 := ⟨by decide +kernel, rfl⟩
theorem aX8_seed_8 : At cX8_seed 8 (.aload_n 0) 1 9 := ⟨by decide +kernel, rfl⟩
theorem aX8_seed_9 : At cX8_seed 9 (.getfield 10) 3 12 := ⟨by decide +kernel, rfl⟩
theorem aX8_seed_12 : At cX8_seed 12 (.iload_n 1) 1 13 := ⟨by decide +kernel, rfl⟩
theorem aX8_seed_13 : At cX8_seed 13 (.putfield 80) 3 16 := ⟨by decide +kernel, rfl⟩
theorem aX8_seed_16 : At cX8_seed 16 (.iload_n 2) 1 17 := ⟨by decide +kernel, rfl⟩
theorem aX8_seed_17 : At cX8_seed 17 (.ireturn) 1 18 := ⟨by decide +kernel, rfl⟩
theorem aX8_count_0 : At cX8_count 0 (.iload_n 1) 1 1 := ⟨by decide +kernel, rfl⟩
theorem aX8_count_1 : At cX8_count 1 (.tableswitch 96 0 6 #[43, 51, 59, 67, 72, 80, 91]) 43 44 := ⟨by decide +kernel, rfl⟩
theorem aX8_count_44 : At cX8_count 44 (.aload_n 0) 1 45 := ⟨by decide +kernel, rfl⟩
theorem aX8_count_45 : At cX8_count 45 (.getfield 10) 3 48 := ⟨by decide +kernel, rfl⟩
theorem aX8_count_48 : At cX8_count 48 (.getfield 101) 3 51 := ⟨by decide +kernel, rfl⟩
theorem aX8_count_51 : At cX8_count 51 (.ireturn) 1 52 := ⟨by decide +kernel, rfl⟩
theorem aX8_count_52 : At cX8_count 52 (.aload_n 0) 1 53 := ⟨by decide +kernel, rfl⟩
theorem aX8_count_53 : At cX8_count 53 (.getfield 10) 3 56 := ⟨by decide +kernel, rfl⟩
theorem aX8_count_56 : At cX8_count 56 (.getfield 73) 3 59 := ⟨by decide +kernel, rfl⟩
theorem aX8_count_59 : At cX8_count 59 (.ireturn) 1 60 := ⟨by decide +kernel, rfl⟩
theorem aX8_count_60 : At cX8_count 60 (.aload_n 0) 1 61 := ⟨by decide +kernel, rfl⟩
theorem aX8_count_61 : At cX8_count 61 (.getfield 10) 3 64 := ⟨by decide +kernel, rfl⟩
theorem aX8_count_64 : At cX8_count 64 (.invokevirtual 88) 3 67 := ⟨by decide +kernel, rfl⟩
theorem aX8_count_67 : At cX8_count 67 (.ireturn) 1 68 := ⟨by decide +kernel, rfl⟩
theorem aX8_count_68 : At cX8_count 68 (.aload_n 0) 1 69 := ⟨by decide +kernel, rfl⟩
theorem aX8_count_69 : At cX8_count 69 (.getfield 254) 3 72 := ⟨by decide +kernel, rfl⟩
theorem aX8_count_72 : At cX8_count 72 (.ireturn) 1 73 := ⟨by decide +kernel, rfl⟩
theorem aX8_count_73 : At cX8_count 73 (.aload_n 0) 1 74 := ⟨by decide +kernel, rfl⟩
theorem aX8_count_74 : At cX8_count 74 (.getfield 10) 3 77 := ⟨by decide +kernel, rfl⟩
theorem aX8_count_77 : At cX8_count 77 (.getfield 80) 3 80 := ⟨by decide +kernel, rfl⟩
theorem aX8_count_80 : At cX8_count 80 (.ireturn) 1 81 := ⟨by decide +kernel, rfl⟩
theorem aX8_count_81 : At cX8_count 81 (.aload_n 0) 1 82 := ⟨by decide +kernel, rfl⟩
theorem aX8_count_82 : At cX8_count 82 (.getfield 30) 3 85 := ⟨by decide +kernel, rfl⟩
theorem aX8_count_85 : At cX8_count 85 (.getfield 108) 3 88 := ⟨by decide +kernel, rfl⟩
theorem aX8_count_88 : At cX8_count 88 (.getfield 112) 3 91 := ⟨by decide +kernel, rfl⟩
theorem aX8_count_91 : At cX8_count 91 (.ireturn) 1 92 := ⟨by decide +kernel, rfl⟩
theorem aX8_count_92 : At cX8_count 92 (.aload_n 0) 1 93 := ⟨by decide +kernel, rfl⟩
theorem aX8_count_93 : At cX8_count 93 (.invokevirtual 260) 3 96 := ⟨by decide +kernel, rfl⟩
theorem aX8_count_96 : At cX8_count 96 (.ireturn) 1 97 := ⟨by decide +kernel, rfl⟩
theorem aX8_count_97 : At cX8_count 97 (.aload_n 0) 1 98 := ⟨by decide +kernel, rfl⟩
theorem aX8_count_98 : At cX8_count 98 (.iconst 0) 1 99 := ⟨by decide +kernel, rfl⟩
theorem aX8_count_99 : At cX8_count 99 (.invokevirtual 62) 3 102 := ⟨by decide +kernel, rfl⟩
theorem aX8_count_102 : At cX8_count 102 (.ireturn) 1 103 := ⟨by decide +kernel, rfl⟩
theorem aX8_status_0 : At cX8_status 0 (.iload_n 1) 1 1 := ⟨by decide +kernel, rfl⟩
theorem aX8_status_1 : At cX8_status 1 (.iconst (-1)) 1 2 := ⟨by decide +kernel, rfl⟩
theorem aX8_status_2 : Br cX8_status 2 (.if_icmp .ne (30)) (30) 5 32 := ⟨by decide +kernel, rfl, by decide⟩
theorem aX8_status_5 : At cX8_status 5 (.iconst 0) 1 6 := ⟨by decide +kernel, rfl⟩
theorem aX8_status_6 : At cX8_status 6 (.istore_n 2) 1 7 := ⟨by decide +kernel, rfl⟩
theorem aX8_status_7 : At cX8_status 7 (.iconst 0) 1 8 := ⟨by decide +kernel, rfl⟩
theorem aX8_status_8 : At cX8_status 8 (.istore_n 3) 1 9 := ⟨by decide +kernel, rfl⟩
theorem aX8_status_9 : At cX8_status 9 (.iload_n 3) 1 10 := ⟨by decide +kernel, rfl⟩
theorem aX8_status_10 : At cX8_status 10 (.bipush 8) 2 12 := ⟨by decide +kernel, rfl⟩
theorem aX8_status_12 : Br cX8_status 12 (.if_icmp .ge (18)) (18) 15 30 := ⟨by decide +kernel, rfl, by decide⟩
theorem aX8_status_15 : At cX8_status 15 (.iload_n 2) 1 16 := ⟨by decide +kernel, rfl⟩
theorem aX8_status_16 : At cX8_status 16 (.aload_n 0) 1 17 := ⟨by decide +kernel, rfl⟩
theorem aX8_status_17 : At cX8_status 17 (.getfield 50) 3 20 := ⟨by decide +kernel, rfl⟩
theorem aX8_status_20 : At cX8_status 20 (.iload_n 3) 1 21 := ⟨by decide +kernel, rfl⟩
theorem aX8_status_21 : At cX8_status 21 (.iaload) 1 22 := ⟨by decide +kernel, rfl⟩
theorem aX8_status_22 : At cX8_status 22 (.iadd) 1 23 := ⟨by decide +kernel, rfl⟩
theorem aX8_status_23 : At cX8_status 23 (.istore_n 2) 1 24 := ⟨by decide +kernel, rfl⟩
theorem aX8_status_24 : At cX8_status 24 (.iinc 3 1) 3 27 := ⟨by decide +kernel, rfl⟩
theorem aX8_status_27 : Br cX8_status 27 (.goto (-18)) (-18) 30 9 := ⟨by decide +kernel, rfl, by decide⟩
theorem aX8_status_30 : At cX8_status 30 (.iload_n 2) 1 31 := ⟨by decide +kernel, rfl⟩
theorem aX8_status_31 : At cX8_status 31 (.ireturn) 1 32 := ⟨by decide +kernel, rfl⟩
theorem aX8_status_32 : At cX8_status 32 (.iload_n 1) 1 33 := ⟨by decide +kernel, rfl⟩
theorem aX8_status_33 : At cX8_status 33 (.bipush 8) 2 35 := ⟨by decide +kernel, rfl⟩
theorem aX8_status_35 : At cX8_status 35 (.invokestatic 58) 3 38 := ⟨by decide +kernel, rfl⟩
theorem aX8_status_38 : Br cX8_status 38 (.ifCond .eq (11)) (11) 41 49 := ⟨by decide +kernel, rfl, by decide⟩
theorem aX8_status_41 : At cX8_status 41 (.aload_n 0) 1 42 := ⟨by decide +kernel, rfl⟩
theorem aX8_status_42 : At cX8_status 42 (.iconst 0) 1 43 := ⟨by decide +kernel, rfl⟩
theorem aX8_status_43 : At cX8_status 43 (.invokevirtual 62) 3 46 := ⟨by decide +kernel, rfl⟩
theorem aX8_status_46 : Br cX8_status 46 (.goto (9)) (9) 49 55 := ⟨by decide +kernel, rfl, by decide⟩
theorem aX8_status_49 : At cX8_status 49 (.aload_n 0) 1 50 := ⟨by decide +kernel, rfl⟩
theorem aX8_status_50 : At cX8_status 50 (.getfield 50) 3 53 := ⟨by decide +kernel, rfl⟩
theorem aX8_status_53 : At cX8_status 53 (.iload_n 1) 1 54 := ⟨by decide +kernel, rfl⟩
theorem aX8_status_54 : At cX8_status 54 (.iaload) 1 55 := ⟨by decide +kernel, rfl⟩
theorem aX8_status_55 : At cX8_status 55 (.ireturn) 1 56 := ⟨by decide +kernel, rfl⟩
theorem aX8_isOutside_0 : At cX8_isOutside 0 (.iload_n 0) 1 1 := ⟨by decide +kernel, rfl⟩
theorem aX8_isOutside_1 : Br cX8_isOutside 1 (.ifCond .lt (8)) (8) 4 9 := ⟨by decide +kernel, rfl, by decide⟩
theorem aX8_isOutside_4 : At cX8_isOutside 4 (.iload_n 0) 1 5 := ⟨by decide +kernel, rfl⟩
theorem aX8_isOutside_5 : At cX8_isOutside 5 (.iload_n 1) 1 6 := ⟨by decide +kernel, rfl⟩
theorem aX8_isOutside_6 : Br cX8_isOutside 6 (.if_icmp .lt (7)) (7) 9 13 := ⟨by decide +kernel, rfl, by decide⟩
theorem aX8_isOutside_9 : At cX8_isOutside 9 (.iconst 1) 1 10 := ⟨by decide +kernel, rfl⟩
theorem aX8_isOutside_10 : Br cX8_isOutside 10 (.goto (4)) (4) 13 14 := ⟨by decide +kernel, rfl, by decide⟩
theorem aX8_isOutside_13 : At cX8_isOutside 13 (.iconst 0) 1 14 := ⟨by decide +kernel, rfl⟩
theorem aX8_isOutside_14 : At cX8_isOutside 14 (.ireturn) 1 15 := ⟨by decide +kernel, rfl⟩
theorem aX8_areNoPair_0 : At cX8_areNoPair 0 (.iload_n 0) 1 1 := ⟨by decide +kernel, rfl⟩
theorem aX8_areNoPair_1 : At cX8_areNoPair 1 (.iconst 3) 1 2 := ⟨by decide +kernel, rfl⟩
theorem aX8_areNoPair_2 : At cX8_areNoPair 2 (.invokestatic 58) 3 5 := ⟨by decide +kernel, rfl⟩
theorem aX8_areNoPair_5 : Br cX8_areNoPair 5 (.ifCond .ne (16)) (16) 8 21 := ⟨by decide +kernel, rfl, by decide⟩
theorem aX8_areNoPair_8 : At cX8_areNoPair 8 (.iload_n 1) 1 9 := ⟨by decide +kernel, rfl⟩
theorem aX8_areNoPair_9 : At cX8_areNoPair 9 (.iconst 3) 1 10 := ⟨by decide +kernel, rfl⟩
theorem aX8_areNoPair_10 : At cX8_areNoPair 10 (.invokestatic 58) 3 13 := ⟨by decide +kernel, rfl⟩
theorem aX8_areNoPair_13 : Br cX8_areNoPair 13 (.ifCond .ne (8)) (8) 16 21 := ⟨by decide +kernel, rfl, by decide⟩
theorem aX8_areNoPair_16 : At cX8_areNoPair 16 (.iload_n 0) 1 17 := ⟨by decide +kernel, rfl⟩
theorem aX8_areNoPair_17 : At cX8_areNoPair 17 (.iload_n 1) 1 18 := ⟨by decide +kernel, rfl⟩
theorem aX8_areNoPair_18 : Br cX8_areNoPair 18 (.if_icmp .ne (7)) (7) 21 25 := ⟨by decide +kernel, rfl, by decide⟩
theorem aX8_areNoPair_21 : At cX8_areNoPair 21 (.iconst 1) 1 22 := ⟨by decide +kernel, rfl⟩
theorem aX8_areNoPair_22 : Br cX8_areNoPair 22 (.goto (4)) (4) 25 26 := ⟨by decide +kernel, rfl, by decide⟩
theorem aX8_areNoPair_25 : At cX8_areNoPair 25 (.iconst 0) 1 26 := ⟨by decide +kernel, rfl⟩
theorem aX8_areNoPair_26 : At cX8_areNoPair 26 (.ireturn) 1 27 := ⟨by decide +kernel, rfl⟩
theorem aX8_placeUnder_0 : At cX8_placeUnder 0 (.iload_n 0) 1 1 := ⟨by decide +kernel, rfl⟩
theorem aX8_placeUnder_1 : At cX8_placeUnder 1 (.getstatic 198) 3 4 := ⟨by decide +kernel, rfl⟩
theorem aX8_placeUnder_4 : At cX8_placeUnder 4 (.iload_n 1) 1 5 := ⟨by decide +kernel, rfl⟩
theorem aX8_placeUnder_5 : At cX8_placeUnder 5 (.iconst 3) 1 6 := ⟨by decide +kernel, rfl⟩
theorem aX8_placeUnder_6 : At cX8_placeUnder 6 (.idiv) 1 7 := ⟨by decide +kernel, rfl⟩
theorem aX8_placeUnder_7 : At cX8_placeUnder 7 (.iaload) 1 8 := ⟨by decide +kernel, rfl⟩
theorem aX8_placeUnder_8 : At cX8_placeUnder 8 (.idiv) 1 9 := ⟨by decide +kernel, rfl⟩
theorem aX8_placeUnder_9 : At cX8_placeUnder 9 (.bipush 6) 2 11 := ⟨by decide +kernel, rfl⟩
theorem aX8_placeUnder_11 : At cX8_placeUnder 11 (.irem) 1 12 := ⟨by decide +kernel, rfl⟩
theorem aX8_placeUnder_12 : At cX8_placeUnder 12 (.istore_n 2) 1 13 := ⟨by decide +kernel, rfl⟩
theorem aX8_placeUnder_13 : At cX8_placeUnder 13 (.getstatic 263) 3 16 := ⟨by decide +kernel, rfl⟩
theorem aX8_placeUnder_16 : At cX8_placeUnder 16 (.iload_n 2) 1 17 := ⟨by decide +kernel, rfl⟩
theorem aX8_placeUnder_17 : At cX8_placeUnder 17 (.iconst 3) 1 18 := ⟨by decide +kernel, rfl⟩
theorem aX8_placeUnder_18 : At cX8_placeUnder 18 (.imul) 1 19 := ⟨by decide +kernel, rfl⟩
theorem aX8_placeUnder_19 : At cX8_placeUnder 19 (.iload_n 1) 1 20 := ⟨by decide +kernel, rfl⟩
theorem aX8_placeUnder_20 : At cX8_placeUnder 20 (.iconst 3) 1 21 := ⟨by decide +kernel, rfl⟩
theorem aX8_placeUnder_21 : At cX8_placeUnder 21 (.irem) 1 22 := ⟨by decide +kernel, rfl⟩
theorem aX8_placeUnder_22 : At cX8_placeUnder 22 (.iadd) 1 23 := ⟨by decide +kernel, rfl⟩
theorem aX8_placeUnder_23 : At cX8_placeUnder 23 (.iaload) 1 24 := ⟨by decide +kernel, rfl⟩
theorem aX8_placeUnder_24 : At cX8_placeUnder 24 (.ireturn) 1 25 := ⟨by decide +kernel, rfl⟩
theorem aX8_isUnder_0 : At cX8_isUnder 0 (.iload_n 0) 1 1 := ⟨by decide +kernel, rfl⟩
theorem aX8_isUnder_1 : At cX8_isUnder 1 (.istore_n 2) 1 2 := ⟨by decide +kernel, rfl⟩
theorem aX8_isUnder_2 : At cX8_isUnder 2 (.iconst 0) 1 3 := ⟨by decide +kernel, rfl⟩
theorem aX8_isUnder_3 : At cX8_isUnder 3 (.istore_n 3) 1 4 := ⟨by decide +kernel, rfl⟩
theorem aX8_isUnder_4 : At cX8_isUnder 4 (.iload_n 3) 1 5 := ⟨by decide +kernel, rfl⟩
theorem aX8_isUnder_5 : At cX8_isUnder 5 (.bipush 6) 2 7 := ⟨by decide +kernel, rfl⟩
theorem aX8_isUnder_7 : Br cX8_isUnder 7 (.if_icmp .ge (24)) (24) 10 31 := ⟨by decide +kernel, rfl, by decide⟩
theorem aX8_isUnder_10 : At cX8_isUnder 10 (.iload_n 2) 1 11 := ⟨by decide +kernel, rfl⟩
theorem aX8_isUnder_11 : Br cX8_isUnder 11 (.ifCond .lt (20)) (20) 14 31 := ⟨by decide +kernel, rfl, by decide⟩
theorem aX8_isUnder_14 : At cX8_isUnder 14 (.iload_n 2) 1 15 := ⟨by decide +kernel, rfl⟩
theorem aX8_isUnder_15 : At cX8_isUnder 15 (.iload_n 1) 1 16 := ⟨by decide +kernel, rfl⟩
theorem aX8_isUnder_16 : Br cX8_isUnder 16 (.if_icmp .eq (15)) (15) 19 31 := ⟨by decide +kernel, rfl, by decide⟩
theorem aX8_isUnder_19 : At cX8_isUnder 19 (.getstatic 266) 3 22 := ⟨by decide +kernel, rfl⟩
theorem aX8_isUnder_22 : At cX8_isUnder 22 (.iload_n 2) 1 23 := ⟨by decide +kernel, rfl⟩
theorem aX8_isUnder_23 : At cX8_isUnder 23 (.iaload) 1 24 := ⟨by decide +kernel, rfl⟩
theorem aX8_isUnder_24 : At cX8_isUnder 24 (.istore_n 2) 1 25 := ⟨by decide +kernel, rfl⟩
theorem aX8_isUnder_25 : At cX8_isUnder 25 (.iinc 3 1) 3 28 := ⟨by decide +kernel, rfl⟩
theorem aX8_isUnder_28 : Br cX8_isUnder 28 (.goto (-24)) (-24) 31 4 := ⟨by decide +kernel, rfl, by decide⟩
theorem aX8_isUnder_31 : At cX8_isUnder 31 (.iload_n 2) 1 32 := ⟨by decide +kernel, rfl⟩
theorem aX8_isUnder_32 : At cX8_isUnder 32 (.iload_n 1) 1 33 := ⟨by decide +kernel, rfl⟩
theorem aX8_isUnder_33 : Br cX8_isUnder 33 (.if_icmp .ne (7)) (7) 36 40 := ⟨by decide +kernel, rfl, by decide⟩
theorem aX8_isUnder_36 : At cX8_isUnder 36 (.iconst 1) 1 37 := ⟨by decide +kernel, rfl⟩
theorem aX8_isUnder_37 : Br cX8_isUnder 37 (.goto (4)) (4) 40 41 := ⟨by decide +kernel, rfl, by decide⟩
theorem aX8_isUnder_40 : At cX8_isUnder 40 (.iconst 0) 1 41 := ⟨by decide +kernel, rfl⟩
theorem aX8_isUnder_41 : At cX8_isUnder 41 (.ireturn) 1 42 := ⟨by decide +kernel, rfl⟩
theorem aX8_finding_0 : At cX8_finding 0 (.aload_n 0) 1 1 := ⟨by decide +kernel, rfl⟩
theorem aX8_finding_1 : At cX8_finding 1 (.getfield 50) 3 4 := ⟨by decide +kernel, rfl⟩
theorem aX8_finding_4 : At cX8_finding 4 (.iload_n 1) 1 5 := ⟨by decide +kernel, rfl⟩
theorem aX8_finding_5 : At cX8_finding 5 (.dup2) 1 6 := ⟨by decide +kernel, rfl⟩
theorem aX8_finding_6 : At cX8_finding 6 (.iaload) 1 7 := ⟨by decide +kernel, rfl⟩
theorem aX8_finding_7 : At cX8_finding 7 (.iconst 1) 1 8 := ⟨by decide +kernel, rfl⟩
theorem aX8_finding_8 : At cX8_finding 8 (.iadd) 1 9 := ⟨by decide +kernel, rfl⟩
theorem aX8_finding_9 : At cX8_finding 9 (.iastore) 1 10 := ⟨by decide +kernel, rfl⟩
theorem aX8_finding_10 : At cX8_finding 10 (.ldc_w 269) 3 13 := ⟨by decide +kernel, rfl⟩
theorem aX8_finding_13 : At cX8_finding 13 (.iload_n 1) 1 14 := ⟨by decide +kernel, rfl⟩
theorem aX8_finding_14 : At cX8_finding 14 (.isub) 1 15 := ⟨by decide +kernel, rfl⟩
theorem aX8_finding_15 : At cX8_finding 15 (.ireturn) 1 16 := ⟨by decide +kernel, rfl⟩
theorem aX8_longFinding_0 : At cX8_longFinding 0 (.aload_n 0) 1 1 := ⟨by decide +kernel, rfl⟩
theorem aX8_longFinding_1 : At cX8_longFinding 1 (.getfield 50) 3 4 := ⟨by decide +kernel, rfl⟩
theorem aX8_longFinding_4 : At cX8_longFinding 4 (.iload_n 1) 1 5 := ⟨by decide +kernel, rfl⟩
theorem aX8_longFinding_5 : At cX8_longFinding 5 (.dup2) 1 6 := ⟨by decide +kernel, rfl⟩
theorem aX8_longFinding_6 : At cX8_longFinding 6 (.iaload) 1 7 := ⟨by decide +kernel, rfl⟩
theorem aX8_longFinding_7 : At cX8_longFinding 7 (.iconst 1) 1 8 := ⟨by decide +kernel, rfl⟩
theorem aX8_longFinding_8 : At cX8_longFinding 8 (.iadd) 1 9 := ⟨by decide +kernel, rfl⟩
theorem aX8_longFinding_9 : At cX8_longFinding 9 (.iastore) 1 10 := ⟨by decide +kernel, rfl⟩
theorem aX8_longFinding_10 : At cX8_longFinding 10 (.ldc2_w 270) 3 13 := ⟨by decide +kernel, rfl⟩
theorem aX8_longFinding_13 : At cX8_longFinding 13 (.iload_n 1) 1 14 := ⟨by decide +kernel, rfl⟩
theorem aX8_longFinding_14 : At cX8_longFinding 14 (.i2l) 1 15 := ⟨by decide +kernel, rfl⟩
theorem aX8_longFinding_15 : At cX8_longFinding 15 (.lsub) 1 16 := ⟨by decide +kernel, rfl⟩
theorem aX8_longFinding_16 : At cX8_longFinding 16 (.lreturn) 1 17 := ⟨by decide +kernel, rfl⟩
theorem aX8_enter_0 : At cX8_enter 0 (.aload_n 1) 1 1 := ⟨by decide +kernel, rfl⟩
theorem aX8_enter_1 : At cX8_enter 1 (.getfield 140) 3 4 := ⟨by decide +kernel, rfl⟩
theorem aX8_enter_4 : At cX8_enter 4 (.iconst 3) 1 5 := ⟨by decide +kernel, rfl⟩
theorem aX8_enter_5 : At cX8_enter 5 (.idiv) 1 6 := ⟨by decide +kernel, rfl⟩
theorem aX8_enter_6 : At cX8_enter 6 (.aload_n 0) 1 7 := ⟨by decide +kernel, rfl⟩
theorem aX8_enter_7 : At cX8_enter 7 (.getfield 10) 3 10 := ⟨by decide +kernel, rfl⟩
theorem aX8_enter_10 : At cX8_enter 10 (.getfield 73) 3 13 := ⟨by decide +kernel, rfl⟩
theorem aX8_enter_13 : Br cX8_enter 13 (.if_icmp .ge (9)) (9) 16 22 := ⟨by decide +kernel, rfl, by decide⟩
theorem aX8_enter_16 : At cX8_enter 16 (.aload_n 0) 1 17 := ⟨by decide +kernel, rfl⟩
theorem aX8_enter_17 : At cX8_enter 17 (.iconst 3) 1 18 := ⟨by decide +kernel, rfl⟩
theorem aX8_enter_18 : At cX8_enter 18 (.invokevirtual 62) 3 21 := ⟨by decide +kernel, rfl⟩
theorem aX8_enter_21 : At cX8_enter 21 (.ireturn) 1 22 := ⟨by decide +kernel, rfl⟩
theorem aX8_enter_22 : At cX8_enter 22 (.aload_n 0) 1 23 := ⟨by decide +kernel, rfl⟩
theorem aX8_enter_23 : At cX8_enter 23 (.getfield 10) 3 26 := ⟨by decide +kernel, rfl⟩
theorem aX8_enter_26 : At cX8_enter 26 (.getfield 101) 3 29 := ⟨by decide +kernel, rfl⟩
theorem aX8_enter_29 : At cX8_enter 29 (.bipush 12) 2 31 := ⟨by decide +kernel, rfl⟩
theorem aX8_enter_31 : Br cX8_enter 31 (.if_icmp .lt (9)) (9) 34 40 := ⟨by decide +kernel, rfl, by decide⟩
theorem aX8_enter_34 : At cX8_enter 34 (.aload_n 0) 1 35 := ⟨by decide +kernel, rfl⟩
theorem aX8_enter_35 : At cX8_enter 35 (.iconst 1) 1 36 := ⟨by decide +kernel, rfl⟩
theorem aX8_enter_36 : At cX8_enter 36 (.invokevirtual 62) 3 39 := ⟨by decide +kernel, rfl⟩
theorem aX8_enter_39 : At cX8_enter 39 (.ireturn) 1 40 := ⟨by decide +kernel, rfl⟩
theorem aX8_enter_40 : At cX8_enter 40 (.aload_n 0) 1 41 := ⟨by decide +kernel, rfl⟩
theorem aX8_enter_41 : At cX8_enter 41 (.aload_n 1) 1 42 := ⟨by decide +kernel, rfl⟩
theorem aX8_enter_42 : At cX8_enter 42 (.invokevirtual 121) 3 45 := ⟨by decide +kernel, rfl⟩
theorem aX8_enter_45 : Br cX8_enter 45 (.ifCond .eq (15)) (15) 48 60 := ⟨by decide +kernel, rfl, by decide⟩
theorem aX8_enter_48 : At cX8_enter 48 (.aload_n 0) 1 49 := ⟨by decide +kernel, rfl⟩
theorem aX8_enter_49 : At cX8_enter 49 (.getfield 10) 3 52 := ⟨by decide +kernel, rfl⟩
theorem aX8_enter_52 : At cX8_enter 52 (.getfield 101) 3 55 := ⟨by decide +kernel, rfl⟩
theorem aX8_enter_55 : At cX8_enter 55 (.iconst 1) 1 56 := ⟨by decide +kernel, rfl⟩
theorem aX8_enter_56 : At cX8_enter 56 (.isub) 1 57 := ⟨by decide +kernel, rfl⟩
theorem aX8_enter_57 : Br cX8_enter 57 (.goto (8)) (8) 60 65 := ⟨by decide +kernel, rfl, by decide⟩
theorem aX8_enter_60 : At cX8_enter 60 (.aload_n 0) 1 61 := ⟨by decide +kernel, rfl⟩
theorem aX8_enter_61 : At cX8_enter 61 (.iconst 4) 1 62 := ⟨by decide +kernel, rfl⟩
theorem aX8_enter_62 : At cX8_enter 62 (.invokevirtual 62) 3 65 := ⟨by decide +kernel, rfl⟩
theorem aX8_enter_65 : At cX8_enter 65 (.ireturn) 1 66 := ⟨by decide +kernel, rfl⟩
theorem aX8_takes_0 : At cX8_takes 0 (.aload_n 1) 1 1 := ⟨by decide +kernel, rfl⟩
theorem aX8_takes_1 : Br cX8_takes 1 (.ifnull (15)) (15) 4 16 := ⟨by decide +kernel, rfl, by decide⟩
theorem aX8_takes_4 : At cX8_takes 4 (.aload_n 0) 1 5 := ⟨by decide +kernel, rfl⟩
theorem aX8_takes_5 : At cX8_takes 5 (.getfield 10) 3 8 := ⟨by decide +kernel, rfl⟩
theorem aX8_takes_8 : At cX8_takes 8 (.getfield 101) 3 11 := ⟨by decide +kernel, rfl⟩
theorem aX8_takes_11 : At cX8_takes 11 (.bipush 12) 2 13 := ⟨by decide +kernel, rfl⟩
theorem aX8_takes_13 : Br cX8_takes 13 (.if_icmp .lt (5)) (5) 16 18 := ⟨by decide +kernel, rfl, by decide⟩
theorem aX8_takes_16 : At cX8_takes 16 (.iconst 0) 1 17 := ⟨by decide +kernel, rfl⟩
theorem aX8_takes_17 : At cX8_takes 17 (.ireturn) 1 18 := ⟨by decide +kernel, rfl⟩
theorem aX8_takes_18 : At cX8_takes 18 (.aload_n 0) 1 19 := ⟨by decide +kernel, rfl⟩
theorem aX8_takes_19 : At cX8_takes 19 (.getfield 10) 3 22 := ⟨by decide +kernel, rfl⟩
theorem aX8_takes_22 : At cX8_takes 22 (.invokevirtual 84) 3 25 := ⟨by decide +kernel, rfl⟩
theorem aX8_takes_25 : At cX8_takes 25 (.istore_n 2) 1 26 := ⟨by decide +kernel, rfl⟩
theorem aX8_takes_26 : At cX8_takes 26 (.aload_n 0) 1 27 := ⟨by decide +kernel, rfl⟩
theorem aX8_takes_27 : At cX8_takes 27 (.getfield 10) 3 30 := ⟨by decide +kernel, rfl⟩
theorem aX8_takes_30 : At cX8_takes 30 (.invokevirtual 181) 3 33 := ⟨by decide +kernel, rfl⟩
theorem aX8_takes_33 : At cX8_takes 33 (.istore_n 3) 1 34 := ⟨by decide +kernel, rfl⟩
theorem aX8_takes_34 : At cX8_takes 34 (.iload_n 2) 1 35 := ⟨by decide +kernel, rfl⟩
theorem aX8_takes_35 : At cX8_takes 35 (.istore 4) 2 37 := ⟨by decide +kernel, rfl⟩
theorem aX8_takes_37 : At cX8_takes 37 (.iload 4) 2 39 := ⟨by decide +kernel, rfl⟩
theorem aX8_takes_39 : At cX8_takes 39 (.iload_n 3) 1 40 := ⟨by decide +kernel, rfl⟩
theorem aX8_takes_40 : Br cX8_takes 40 (.if_icmp .ge (21)) (21) 43 61 := ⟨by decide +kernel, rfl, by decide⟩
theorem aX8_takes_43 : At cX8_takes 43 (.aload_n 0) 1 44 := ⟨by decide +kernel, rfl⟩
theorem aX8_takes_44 : At cX8_takes 44 (.iload 4) 2 46 := ⟨by decide +kernel, rfl⟩
theorem aX8_takes_46 : At cX8_takes 46 (.aload_n 1) 1 47 := ⟨by decide +kernel, rfl⟩
theorem aX8_takes_47 : At cX8_takes 47 (.invokevirtual 272) 3 50 := ⟨by decide +kernel, rfl⟩
theorem aX8_takes_50 : Br cX8_takes 50 (.ifCond .eq (5)) (5) 53 55 := ⟨by decide +kernel, rfl, by decide⟩
theorem aX8_takes_53 : At cX8_takes 53 (.iconst 0) 1 54 := ⟨by decide +kernel, rfl⟩
theorem aX8_takes_54 : At cX8_takes 54 (.ireturn) 1 55 := ⟨by decide +kernel, rfl⟩
theorem aX8_takes_55 : At cX8_takes 55 (.iinc 4 1) 3 58 := ⟨by decide +kernel, rfl⟩
theorem aX8_takes_58 : Br cX8_takes 58 (.goto (-21)) (-21) 61 37 := ⟨by decide +kernel, rfl, by decide⟩
theorem aX8_takes_61 : At cX8_takes 61 (.aload_n 0) 1 62 := ⟨by decide +kernel, rfl⟩
theorem aX8_takes_62 : At cX8_takes 62 (.getfield 10) 3 65 := ⟨by decide +kernel, rfl⟩
theorem aX8_takes_65 : At cX8_takes 65 (.getfield 166) 3 68 := ⟨by decide +kernel, rfl⟩
theorem aX8_takes_68 : At cX8_takes 68 (.aload_n 0) 1 69 := ⟨by decide +kernel, rfl⟩
theorem aX8_takes_69 : At cX8_takes 69 (.getfield 10) 3 72 := ⟨by decide +kernel, rfl⟩
theorem aX8_takes_72 : At cX8_takes 72 (.getfield 101) 3 75 := ⟨by decide +kernel, rfl⟩
theorem aX8_takes_75 : At cX8_takes 75 (.aload_n 1) 1 76 := ⟨by decide +kernel, rfl⟩
theorem aX8_takes_76 : At cX8_takes 76 (.aastore) 1 77 := ⟨by decide +kernel, rfl⟩
theorem aX8_takes_77 : At cX8_takes 77 (.aload_n 0) 1 78 := ⟨by decide +kernel, rfl⟩
theorem aX8_takes_78 : At cX8_takes 78 (.getfield 10) 3 81 := ⟨by decide +kernel, rfl⟩
theorem aX8_takes_81 : At cX8_takes 81 (.dup) 1 82 := ⟨by decide +kernel, rfl⟩
theorem aX8_takes_82 : At cX8_takes 82 (.getfield 101) 3 85 := ⟨by decide +kernel, rfl⟩
theorem aX8_takes_85 : At cX8_takes 85 (.iconst 1) 1 86 := ⟨by decide +kernel, rfl⟩
theorem aX8_takes_86 : At cX8_takes 86 (.iadd) 1 87 := ⟨by decide +kernel, rfl⟩
theorem aX8_takes_87 : At cX8_takes 87 (.putfield 101) 3 90 := ⟨by decide +kernel, rfl⟩
theorem aX8_takes_90 : At cX8_takes 90 (.aload_n 0) 1 91 := ⟨by decide +kernel, rfl⟩
theorem aX8_takes_91 : At cX8_takes 91 (.getfield 23) 3 94 := ⟨by decide +kernel, rfl⟩
theorem aX8_takes_94 : At cX8_takes 94 (.aload_n 1) 1 95 := ⟨by decide +kernel, rfl⟩
theorem aX8_takes_95 : At cX8_takes 95 (.iload_n 2) 1 96 := ⟨by decide +kernel, rfl⟩
theorem aX8_takes_96 : At cX8_takes 96 (.iload_n 3) 1 97 := ⟨by decide +kernel, rfl⟩
theorem aX8_takes_97 : At cX8_takes 97 (.invokevirtual 276) 3 100 := ⟨by decide +kernel, rfl⟩
theorem aX8_takes_100 : At cX8_takes 100 (.iconst 1) 1 101 := ⟨by decide +kernel, rfl⟩
theorem aX8_takes_101 : At cX8_takes 101 (.ireturn) 1 102 := ⟨by decide +kernel, rfl⟩
theorem aX8_clashesUnder_0 : At cX8_clashesUnder 0 (.aload_n 2) 1 1 := ⟨by decide +kernel, rfl⟩
theorem aX8_clashesUnder_1 : At cX8_clashesUnder 1 (.iload_n 1) 1 2 := ⟨by decide +kernel, rfl⟩
theorem aX8_clashesUnder_2 : At cX8_clashesUnder 2 (.invokevirtual 160) 3 5 := ⟨by decide +kernel, rfl⟩
theorem aX8_clashesUnder_5 : At cX8_clashesUnder 5 (.istore_n 3) 1 6 := ⟨by decide +kernel, rfl⟩
theorem aX8_clashesUnder_6 : At cX8_clashesUnder 6 (.iload_n 3) 1 7 := ⟨by decide +kernel, rfl⟩
theorem aX8_clashesUnder_7 : Br cX8_clashesUnder 7 (.ifCond .ge (5)) (5) 10 12 := ⟨by decide +kernel, rfl, by decide⟩
theorem aX8_clashesUnder_10 : At cX8_clashesUnder 10 (.iconst 0) 1 11 := ⟨by decide +kernel, rfl⟩
theorem aX8_clashesUnder_11 : At cX8_clashesUnder 11 (.ireturn) 1 12 := ⟨by decide +kernel, rfl⟩
theorem aX8_clashesUnder_12 : At cX8_clashesUnder 12 (.aload_n 2) 1 13 := ⟨by decide +kernel, rfl⟩
theorem aX8_clashesUnder_13 : At cX8_clashesUnder 13 (.iload_n 1) 1 14 := ⟨by decide +kernel, rfl⟩
theorem aX8_clashesUnder_14 : At cX8_clashesUnder 14 (.invokevirtual 163) 3 17 := ⟨by decide +kernel, rfl⟩
theorem aX8_clashesUnder_17 : At cX8_clashesUnder 17 (.istore 4) 2 19 := ⟨by decide +kernel, rfl⟩
theorem aX8_clashesUnder_19 : At cX8_clashesUnder 19 (.aload_n 0) 1 20 := ⟨by decide +kernel, rfl⟩
theorem aX8_clashesUnder_20 : At cX8_clashesUnder 20 (.getfield 10) 3 23 := ⟨by decide +kernel, rfl⟩
theorem aX8_clashesUnder_23 : At cX8_clashesUnder 23 (.iload_n 1) 1 24 := ⟨by decide +kernel, rfl⟩
theorem aX8_clashesUnder_24 : At cX8_clashesUnder 24 (.iload_n 3) 1 25 := ⟨by decide +kernel, rfl⟩
theorem aX8_clashesUnder_25 : At cX8_clashesUnder 25 (.aload_n 2) 1 26 := ⟨by decide +kernel, rfl⟩
theorem aX8_clashesUnder_26 : At cX8_clashesUnder 26 (.getfield 134) 3 29 := ⟨by decide +kernel, rfl⟩
theorem aX8_clashesUnder_29 : At cX8_clashesUnder 29 (.aload_n 2) 1 30 := ⟨by decide +kernel, rfl⟩
theorem aX8_clashesUnder_30 : At cX8_clashesUnder 30 (.getfield 137) 3 33 := ⟨by decide +kernel, rfl⟩
theorem aX8_clashesUnder_33 : At cX8_clashesUnder 33 (.invokevirtual 280) 3 36 := ⟨by decide +kernel, rfl⟩
theorem aX8_clashesUnder_36 : At cX8_clashesUnder 36 (.istore 5) 2 38 := ⟨by decide +kernel, rfl⟩
theorem aX8_clashesUnder_38 : At cX8_clashesUnder 38 (.iload 4) 2 40 := ⟨by decide +kernel, rfl⟩
theorem aX8_clashesUnder_40 : Br cX8_clashesUnder 40 (.ifCond .ge (7)) (7) 43 47 := ⟨by decide +kernel, rfl, by decide⟩
theorem aX8_clashesUnder_43 : At cX8_clashesUnder 43 (.iconst (-1)) 1 44 := ⟨by decide +kernel, rfl⟩
theorem aX8_clashesUnder_44 : Br cX8_clashesUnder 44 (.goto (21)) (21) 47 65 := ⟨by decide +kernel, rfl, by decide⟩
theorem aX8_clashesUnder_47 : At cX8_clashesUnder 47 (.aload_n 0) 1 48 := ⟨by decide +kernel, rfl⟩
theorem aX8_clashesUnder_48 : At cX8_clashesUnder 48 (.getfield 10) 3 51 := ⟨by decide +kernel, rfl⟩
theorem aX8_clashesUnder_51 : At cX8_clashesUnder 51 (.iload_n 1) 1 52 := ⟨by decide +kernel, rfl⟩
theorem aX8_clashesUnder_52 : At cX8_clashesUnder 52 (.iload 4) 2 54 := ⟨by decide +kernel, rfl⟩
theorem aX8_clashesUnder_54 : At cX8_clashesUnder 54 (.aload_n 2) 1 55 := ⟨by decide +kernel, rfl⟩
theorem aX8_clashesUnder_55 : At cX8_clashesUnder 55 (.getfield 137) 3 58 := ⟨by decide +kernel, rfl⟩
theorem aX8_clashesUnder_58 : At cX8_clashesUnder 58 (.aload_n 2) 1 59 := ⟨by decide +kernel, rfl⟩
theorem aX8_clashesUnder_59 : At cX8_clashesUnder 59 (.getfield 134) 3 62 := ⟨by decide +kernel, rfl⟩
theorem aX8_clashesUnder_62 : At cX8_clashesUnder 62 (.invokevirtual 280) 3 65 := ⟨by decide +kernel, rfl⟩
theorem aX8_clashesUnder_65 : At cX8_clashesUnder 65 (.istore 6) 2 67 := ⟨by decide +kernel, rfl⟩
theorem aX8_clashesUnder_67 : At cX8_clashesUnder 67 (.iload 5) 2 69 := ⟨by decide +kernel, rfl⟩
theorem aX8_clashesUnder_69 : Br cX8_clashesUnder 69 (.ifCond .ge (10)) (10) 72 79 := ⟨by decide +kernel, rfl, by decide⟩
theorem aX8_clashesUnder_72 : At cX8_clashesUnder 72 (.iload 6) 2 74 := ⟨by decide +kernel, rfl⟩
theorem aX8_clashesUnder_74 : Br cX8_clashesUnder 74 (.ifCond .ge (5)) (5) 77 79 := ⟨by decide +kernel, rfl, by decide⟩
theorem aX8_clashesUnder_77 : At cX8_clashesUnder 77 (.iconst 0) 1 78 := ⟨by decide +kernel, rfl⟩
theorem aX8_clashesUnder_78 : At cX8_clashesUnder 78 (.ireturn) 1 79 := ⟨by decide +kernel, rfl⟩
theorem aX8_clashesUnder_79 : At cX8_clashesUnder 79 (.iload 5) 2 81 := ⟨by decide +kernel, rfl⟩
theorem aX8_clashesUnder_81 : Br cX8_clashesUnder 81 (.ifCond .lt (18)) (18) 84 99 := ⟨by decide +kernel, rfl, by decide⟩
theorem aX8_clashesUnder_84 : At cX8_clashesUnder 84 (.iload 6) 2 86 := ⟨by decide +kernel, rfl⟩
theorem aX8_clashesUnder_86 : Br cX8_clashesUnder 86 (.ifCond .lt (9)) (9) 89 95 := ⟨by decide +kernel, rfl, by decide⟩
theorem aX8_clashesUnder_89 : At cX8_clashesUnder 89 (.iload_n 3) 1 90 := ⟨by decide +kernel, rfl⟩
theorem aX8_clashesUnder_90 : At cX8_clashesUnder 90 (.iload 4) 2 92 := ⟨by decide +kernel, rfl⟩
theorem aX8_clashesUnder_92 : Br cX8_clashesUnder 92 (.if_icmp .ge (7)) (7) 95 99 := ⟨by decide +kernel, rfl, by decide⟩
theorem aX8_clashesUnder_95 : At cX8_clashesUnder 95 (.iconst 1) 1 96 := ⟨by decide +kernel, rfl⟩
theorem aX8_clashesUnder_96 : Br cX8_clashesUnder 96 (.goto (4)) (4) 99 100 := ⟨by decide +kernel, rfl, by decide⟩
theorem aX8_clashesUnder_99 : At cX8_clashesUnder 99 (.iconst 0) 1 100 := ⟨by decide +kernel, rfl⟩
theorem aX8_clashesUnder_100 : At cX8_clashesUnder 100 (.istore 7) 2 102 := ⟨by decide +kernel, rfl⟩
theorem aX8_clashesUnder_102 : At cX8_clashesUnder 102 (.aload_n 0) 1 103 := ⟨by decide +kernel, rfl⟩
theorem aX8_clashesUnder_103 : At cX8_clashesUnder 103 (.getfield 46) 3 106 := ⟨by decide +kernel, rfl⟩
theorem aX8_clashesUnder_106 : At cX8_clashesUnder 106 (.iconst 0) 1 107 := ⟨by decide +kernel, rfl⟩
theorem aX8_clashesUnder_107 : At cX8_clashesUnder 107 (.iload_n 1) 1 108 := ⟨by decide +kernel, rfl⟩
theorem aX8_clashesUnder_108 : At cX8_clashesUnder 108 (.iastore) 1 109 := ⟨by decide +kernel, rfl⟩
theorem aX8_clashesUnder_109 : At cX8_clashesUnder 109 (.aload_n 0) 1 110 := ⟨by decide +kernel, rfl⟩
theorem aX8_clashesUnder_110 : At cX8_clashesUnder 110 (.getfield 46) 3 113 := ⟨by decide +kernel, rfl⟩
theorem aX8_clashesUnder_113 : At cX8_clashesUnder 113 (.iconst 1) 1 114 := ⟨by decide +kernel, rfl⟩
theorem aX8_clashesUnder_114 : At cX8_clashesUnder 114 (.iload 7) 2 116 := ⟨by decide +kernel, rfl⟩
theorem aX8_clashesUnder_116 : Br cX8_clashesUnder 116 (.ifCond .eq (7)) (7) 119 123 := ⟨by decide +kernel, rfl, by decide⟩
theorem aX8_clashesUnder_119 : At cX8_clashesUnder 119 (.iload_n 3) 1 120 := ⟨by decide +kernel, rfl⟩
theorem aX8_clashesUnder_120 : Br cX8_clashesUnder 120 (.goto (5)) (5) 123 125 := ⟨by decide +kernel, rfl, by decide⟩
theorem aX8_clashesUnder_123 : At cX8_clashesUnder 123 (.iload 4) 2 125 := ⟨by decide +kernel, rfl⟩
theorem aX8_clashesUnder_125 : At cX8_clashesUnder 125 (.iastore) 1 126 := ⟨by decide +kernel, rfl⟩
theorem aX8_clashesUnder_126 : At cX8_clashesUnder 126 (.aload_n 0) 1 127 := ⟨by decide +kernel, rfl⟩
theorem aX8_clashesUnder_127 : At cX8_clashesUnder 127 (.getfield 46) 3 130 := ⟨by decide +kernel, rfl⟩
theorem aX8_clashesUnder_130 : At cX8_clashesUnder 130 (.iconst 2) 1 131 := ⟨by decide +kernel, rfl⟩
theorem aX8_clashesUnder_131 : At cX8_clashesUnder 131 (.iload 7) 2 133 := ⟨by decide +kernel, rfl⟩
theorem aX8_clashesUnder_133 : Br cX8_clashesUnder 133 (.ifCond .eq (8)) (8) 136 141 := ⟨by decide +kernel, rfl, by decide⟩
theorem aX8_clashesUnder_136 : At cX8_clashesUnder 136 (.iload 5) 2 138 := ⟨by decide +kernel, rfl⟩
theorem aX8_clashesUnder_138 : Br cX8_clashesUnder 138 (.goto (5)) (5) 141 143 := ⟨by decide +kernel, rfl, by decide⟩
theorem aX8_clashesUnder_141 : At cX8_clashesUnder 141 (.iload 6) 2 143 := ⟨by decide +kernel, rfl⟩
theorem aX8_clashesUnder_143 : At cX8_clashesUnder 143 (.iastore) 1 144 := ⟨by decide +kernel, rfl⟩
theorem aX8_clashesUnder_144 : At cX8_clashesUnder 144 (.iconst 1) 1 145 := ⟨by decide +kernel, rfl⟩
theorem aX8_clashesUnder_145 : At cX8_clashesUnder 145 (.ireturn) 1 146 := ⟨by decide +kernel, rfl⟩
theorem aX8_settleAll_0 : At cX8_settleAll 0 (.aload_n 0) 1 1 := ⟨by decide +kernel, rfl⟩
theorem aX8_settleAll_1 : At cX8_settleAll 1 (.getfield 10) 3 4 := ⟨by decide +kernel, rfl⟩
theorem aX8_settleAll_4 : At cX8_settleAll 4 (.invokevirtual 84) 3 7 := ⟨by decide +kernel, rfl⟩
theorem aX8_settleAll_7 : At cX8_settleAll 7 (.istore_n 1) 1 8 := ⟨by decide +kernel, rfl⟩
theorem aX8_settleAll_8 : At cX8_settleAll 8 (.aload_n 0) 1 9 := ⟨by decide +kernel, rfl⟩
theorem aX8_settleAll_9 : At cX8_settleAll 9 (.getfield 10) 3 12 := ⟨by decide +kernel, rfl⟩
theorem aX8_settleAll_12 : At cX8_settleAll 12 (.invokevirtual 181) 3 15 := ⟨by decide +kernel, rfl⟩
theorem aX8_settleAll_15 : At cX8_settleAll 15 (.istore_n 2) 1 16 := ⟨by decide +kernel, rfl⟩
theorem aX8_settleAll_16 : At cX8_settleAll 16 (.aload_n 0) 1 17 := ⟨by decide +kernel, rfl⟩
theorem aX8_settleAll_17 : At cX8_settleAll 17 (.getfield 23) 3 20 := ⟨by decide +kernel, rfl⟩
theorem aX8_settleAll_20 : At cX8_settleAll 20 (.iload_n 1) 1 21 := ⟨by decide +kernel, rfl⟩
theorem aX8_settleAll_21 : At cX8_settleAll 21 (.iload_n 2) 1 22 := ⟨by decide +kernel, rfl⟩
theorem aX8_settleAll_22 : At cX8_settleAll 22 (.invokevirtual 54) 3 25 := ⟨by decide +kernel, rfl⟩
theorem aX8_settleAll_25 : At cX8_settleAll 25 (.iconst 0) 1 26 := ⟨by decide +kernel, rfl⟩
theorem aX8_settleAll_26 : At cX8_settleAll 26 (.istore_n 3) 1 27 := ⟨by decide +kernel, rfl⟩
theorem aX8_settleAll_27 : At cX8_settleAll 27 (.iload_n 3) 1 28 := ⟨by decide +kernel, rfl⟩
theorem aX8_settleAll_28 : At cX8_settleAll 28 (.aload_n 0) 1 29 := ⟨by decide +kernel, rfl⟩
theorem aX8_settleAll_29 : At cX8_settleAll 29 (.getfield 10) 3 32 := ⟨by decide +kernel, rfl⟩
theorem aX8_settleAll_32 : At cX8_settleAll 32 (.getfield 101) 3 35 := ⟨by decide +kernel, rfl⟩
theorem aX8_settleAll_35 : Br cX8_settleAll 35 (.if_icmp .ge (26)) (26) 38 61 := ⟨by decide +kernel, rfl, by decide⟩
theorem aX8_settleAll_38 : At cX8_settleAll 38 (.aload_n 0) 1 39 := ⟨by decide +kernel, rfl⟩
theorem aX8_settleAll_39 : At cX8_settleAll 39 (.getfield 23) 3 42 := ⟨by decide +kernel, rfl⟩
theorem aX8_settleAll_42 : At cX8_settleAll 42 (.aload_n 0) 1 43 := ⟨by decide +kernel, rfl⟩
theorem aX8_settleAll_43 : At cX8_settleAll 43 (.getfield 10) 3 46 := ⟨by decide +kernel, rfl⟩
theorem aX8_settleAll_46 : At cX8_settleAll 46 (.iload_n 3) 1 47 := ⟨by decide +kernel, rfl⟩
theorem aX8_settleAll_47 : At cX8_settleAll 47 (.invokevirtual 128) 3 50 := ⟨by decide +kernel, rfl⟩
theorem aX8_settleAll_50 : At cX8_settleAll 50 (.iload_n 1) 1 51 := ⟨by decide +kernel, rfl⟩
theorem aX8_settleAll_51 : At cX8_settleAll 51 (.iload_n 2) 1 52 := ⟨by decide +kernel, rfl⟩
theorem aX8_settleAll_52 : At cX8_settleAll 52 (.invokevirtual 276) 3 55 := ⟨by decide +kernel, rfl⟩
theorem aX8_settleAll_55 : At cX8_settleAll 55 (.iinc 3 1) 3 58 := ⟨by decide +kernel, rfl⟩
theorem aX8_settleAll_58 : Br cX8_settleAll 58 (.goto (-31)) (-31) 61 27 := ⟨by decide +kernel, rfl, by decide⟩
theorem aX8_settleAll_61 : At cX8_settleAll 61 (.return_) 1 62 := ⟨by decide +kernel, rfl⟩
theorem aX8_countConveying_0 : At cX8_countConveying 0 (.iconst 0) 1 1 := ⟨by decide +kernel, rfl⟩
theorem aX8_countConveying_1 : At cX8_countConveying 1 (.istore_n 2) 1 2 := ⟨by decide +kernel, rfl⟩
theorem aX8_countConveying_2 : At cX8_countConveying 2 (.aload_n 0) 1 3 := ⟨by decide +kernel, rfl⟩
theorem aX8_countConveying_3 : At cX8_countConveying 3 (.getfield 10) 3 6 := ⟨by decide +kernel, rfl⟩
theorem aX8_countConveying_6 : At cX8_countConveying 6 (.invokevirtual 181) 3 9 := ⟨by decide +kernel, rfl⟩
theorem aX8_countConveying_9 : At cX8_countConveying 9 (.istore_n 3) 1 10 := ⟨by decide +kernel, rfl⟩
theorem aX8_countConveying_10 : At cX8_countConveying 10 (.aload_n 0) 1 11 := ⟨by decide +kernel, rfl⟩
theorem aX8_countConveying_11 : At cX8_countConveying 11 (.getfield 10) 3 14 := ⟨by decide +kernel, rfl⟩
theorem aX8_countConveying_14 : At cX8_countConveying 14 (.invokevirtual 84) 3 17 := ⟨by decide +kernel, rfl⟩
theorem aX8_countConveying_17 : At cX8_countConveying 17 (.istore 4) 2 19 := ⟨by decide +kernel, rfl⟩
theorem aX8_countConveying_19 : At cX8_countConveying 19 (.iload 4) 2 21 := ⟨by decide +kernel, rfl⟩
theorem aX8_countConveying_21 : At cX8_countConveying 21 (.iload_n 3) 1 22 := ⟨by decide +kernel, rfl⟩
theorem aX8_countConveying_22 : Br cX8_countConveying 22 (.if_icmp .ge (21)) (21) 25 43 := ⟨by decide +kernel, rfl, by decide⟩
theorem aX8_countConveying_25 : At cX8_countConveying 25 (.aload_n 1) 1 26 := ⟨by decide +kernel, rfl⟩
theorem aX8_countConveying_26 : At cX8_countConveying 26 (.iload 4) 2 28 := ⟨by decide +kernel, rfl⟩
theorem aX8_countConveying_28 : At cX8_countConveying 28 (.invokevirtual 160) 3 31 := ⟨by decide +kernel, rfl⟩
theorem aX8_countConveying_31 : Br cX8_countConveying 31 (.ifCond .lt (6)) (6) 34 37 := ⟨by decide +kernel, rfl, by decide⟩
theorem aX8_countConveying_34 : At cX8_countConveying 34 (.iinc 2 1) 3 37 := ⟨by decide +kernel, rfl⟩
theorem aX8_countConveying_37 : At cX8_countConveying 37 (.iinc 4 1) 3 40 := ⟨by decide +kernel, rfl⟩
theorem aX8_countConveying_40 : Br cX8_countConveying 40 (.goto (-21)) (-21) 43 19 := ⟨by decide +kernel, rfl, by decide⟩
theorem aX8_countConveying_43 : At cX8_countConveying 43 (.iload_n 2) 1 44 := ⟨by decide +kernel, rfl⟩
theorem aX8_countConveying_44 : At cX8_countConveying 44 (.ireturn) 1 45 := ⟨by decide +kernel, rfl⟩
theorem aX8_everOwners_0 : At cX8_everOwners 0 (.iconst 0) 1 1 := ⟨by decide +kernel, rfl⟩
theorem aX8_everOwners_1 : At cX8_everOwners 1 (.istore_n 2) 1 2 := ⟨by decide +kernel, rfl⟩
theorem aX8_everOwners_2 : At cX8_everOwners 2 (.aload_n 0) 1 3 := ⟨by decide +kernel, rfl⟩
theorem aX8_everOwners_3 : At cX8_everOwners 3 (.getfield 10) 3 6 := ⟨by decide +kernel, rfl⟩
theorem aX8_everOwners_6 : At cX8_everOwners 6 (.invokevirtual 181) 3 9 := ⟨by decide +kernel, rfl⟩
theorem aX8_everOwners_9 : At cX8_everOwners 9 (.istore_n 3) 1 10 := ⟨by decide +kernel, rfl⟩
theorem aX8_everOwners_10 : At cX8_everOwners 10 (.aload_n 0) 1 11 := ⟨by decide +kernel, rfl⟩
theorem aX8_everOwners_11 : At cX8_everOwners 11 (.getfield 10) 3 14 := ⟨by decide +kernel, rfl⟩
theorem aX8_everOwners_14 : At cX8_everOwners 14 (.invokevirtual 84) 3 17 := ⟨by decide +kernel, rfl⟩
theorem aX8_everOwners_17 : At cX8_everOwners 17 (.istore 4) 2 19 := ⟨by decide +kernel, rfl⟩
theorem aX8_everOwners_19 : At cX8_everOwners 19 (.iload 4) 2 21 := ⟨by decide +kernel, rfl⟩
theorem aX8_everOwners_21 : At cX8_everOwners 21 (.iload_n 3) 1 22 := ⟨by decide +kernel, rfl⟩
theorem aX8_everOwners_22 : Br cX8_everOwners 22 (.if_icmp .ge (24)) (24) 25 46 := ⟨by decide +kernel, rfl, by decide⟩
theorem aX8_everOwners_25 : At cX8_everOwners 25 (.iload_n 2) 1 26 := ⟨by decide +kernel, rfl⟩
theorem aX8_everOwners_26 : At cX8_everOwners 26 (.iconst 1) 1 27 := ⟨by decide +kernel, rfl⟩
theorem aX8_everOwners_27 : At cX8_everOwners 27 (.aload_n 0) 1 28 := ⟨by decide +kernel, rfl⟩
theorem aX8_everOwners_28 : At cX8_everOwners 28 (.getfield 23) 3 31 := ⟨by decide +kernel, rfl⟩
theorem aX8_everOwners_31 : At cX8_everOwners 31 (.iload 4) 2 33 := ⟨by decide +kernel, rfl⟩
theorem aX8_everOwners_33 : At cX8_everOwners 33 (.iload_n 1) 1 34 := ⟨by decide +kernel, rfl⟩
theorem aX8_everOwners_34 : At cX8_everOwners 34 (.invokevirtual 172) 3 37 := ⟨by decide +kernel, rfl⟩
theorem aX8_everOwners_37 : At cX8_everOwners 37 (.ishl) 1 38 := ⟨by decide +kernel, rfl⟩
theorem aX8_everOwners_38 : At cX8_everOwners 38 (.ior) 1 39 := ⟨by decide +kernel, rfl⟩
theorem aX8_everOwners_39 : At cX8_everOwners 39 (.istore_n 2) 1 40 := ⟨by decide +kernel, rfl⟩
theorem aX8_everOwners_40 : At cX8_everOwners 40 (.iinc 4 1) 3 43 := ⟨by decide +kernel, rfl⟩
theorem aX8_everOwners_43 : Br cX8_everOwners 43 (.goto (-24)) (-24) 46 19 := ⟨by decide +kernel, rfl, by decide⟩
theorem aX8_everOwners_46 : At cX8_everOwners 46 (.iload_n 2) 1 47 := ⟨by decide +kernel, rfl⟩
theorem aX8_everOwners_47 : At cX8_everOwners 47 (.ireturn) 1 48 := ⟨by decide +kernel, rfl⟩
theorem aX8_worthUnder_0 : At cX8_worthUnder 0 (.iconst 0) 1 1 := ⟨by decide +kernel, rfl⟩
theorem aX8_worthUnder_1 : At cX8_worthUnder 1 (.istore_n 3) 1 2 := ⟨by decide +kernel, rfl⟩
theorem aX8_worthUnder_2 : At cX8_worthUnder 2 (.iconst 0) 1 3 := ⟨by decide +kernel, rfl⟩
theorem aX8_worthUnder_3 : At cX8_worthUnder 3 (.istore 4) 2 5 := ⟨by decide +kernel, rfl⟩
theorem aX8_worthUnder_5 : At cX8_worthUnder 5 (.iload 4) 2 7 := ⟨by decide +kernel, rfl⟩
theorem aX8_worthUnder_7 : At cX8_worthUnder 7 (.bipush 12) 2 9 := ⟨by decide +kernel, rfl⟩
theorem aX8_worthUnder_9 : Br cX8_worthUnder 9 (.if_icmp .ge (40)) (40) 12 49 := ⟨by decide +kernel, rfl, by decide⟩
theorem aX8_worthUnder_12 : At cX8_worthUnder 12 (.aload_n 0) 1 13 := ⟨by decide +kernel, rfl⟩
theorem aX8_worthUnder_13 : At cX8_worthUnder 13 (.getfield 23) 3 16 := ⟨by decide +kernel, rfl⟩
theorem aX8_worthUnder_16 : At cX8_worthUnder 16 (.iload_n 1) 1 17 := ⟨by decide +kernel, rfl⟩
theorem aX8_worthUnder_17 : At cX8_worthUnder 17 (.iload 4) 2 19 := ⟨by decide +kernel, rfl⟩
theorem aX8_worthUnder_19 : At cX8_worthUnder 19 (.invokevirtual 172) 3 22 := ⟨by decide +kernel, rfl⟩
theorem aX8_worthUnder_22 : At cX8_worthUnder 22 (.iload_n 2) 1 23 := ⟨by decide +kernel, rfl⟩
theorem aX8_worthUnder_23 : Br cX8_worthUnder 23 (.if_icmp .ne (20)) (20) 26 43 := ⟨by decide +kernel, rfl, by decide⟩
theorem aX8_worthUnder_26 : At cX8_worthUnder 26 (.iload_n 3) 1 27 := ⟨by decide +kernel, rfl⟩
theorem aX8_worthUnder_27 : At cX8_worthUnder 27 (.aload_n 0) 1 28 := ⟨by decide +kernel, rfl⟩
theorem aX8_worthUnder_28 : At cX8_worthUnder 28 (.getfield 10) 3 31 := ⟨by decide +kernel, rfl⟩
theorem aX8_worthUnder_31 : At cX8_worthUnder 31 (.getfield 184) 3 34 := ⟨by decide +kernel, rfl⟩
theorem aX8_worthUnder_34 : At cX8_worthUnder 34 (.iload_n 1) 1 35 := ⟨by decide +kernel, rfl⟩
theorem aX8_worthUnder_35 : At cX8_worthUnder 35 (.iload 4) 2 37 := ⟨by decide +kernel, rfl⟩
theorem aX8_worthUnder_37 : At cX8_worthUnder 37 (.invokestatic 69) 3 40 := ⟨by decide +kernel, rfl⟩
theorem aX8_worthUnder_40 : At cX8_worthUnder 40 (.iaload) 1 41 := ⟨by decide +kernel, rfl⟩
theorem aX8_worthUnder_41 : At cX8_worthUnder 41 (.iadd) 1 42 := ⟨by decide +kernel, rfl⟩
theorem aX8_worthUnder_42 : At cX8_worthUnder 42 (.istore_n 3) 1 43 := ⟨by decide +kernel, rfl⟩
theorem aX8_worthUnder_43 : At cX8_worthUnder 43 (.iinc 4 1) 3 46 := ⟨by decide +kernel, rfl⟩
theorem aX8_worthUnder_46 : Br cX8_worthUnder 46 (.goto (-41)) (-41) 49 5 := ⟨by decide +kernel, rfl, by decide⟩
theorem aX8_worthUnder_49 : At cX8_worthUnder 49 (.iload_n 3) 1 50 := ⟨by decide +kernel, rfl⟩
theorem aX8_worthUnder_50 : At cX8_worthUnder 50 (.ireturn) 1 51 := ⟨by decide +kernel, rfl⟩
theorem aX8_worthOver_0 : At cX8_worthOver 0 (.lconst 0) 1 1 := ⟨by decide +kernel, rfl⟩
theorem aX8_worthOver_1 : At cX8_worthOver 1 (.lstore 4) 2 3 := ⟨by decide +kernel, rfl⟩
theorem aX8_worthOver_3 : At cX8_worthOver 3 (.iload_n 1) 1 4 := ⟨by decide +kernel, rfl⟩
theorem aX8_worthOver_4 : At cX8_worthOver 4 (.istore 6) 2 6 := ⟨by decide +kernel, rfl⟩
theorem aX8_worthOver_6 : At cX8_worthOver 6 (.iload 6) 2 8 := ⟨by decide +kernel, rfl⟩
theorem aX8_worthOver_8 : At cX8_worthOver 8 (.iload_n 2) 1 9 := ⟨by decide +kernel, rfl⟩
theorem aX8_worthOver_9 : Br cX8_worthOver 9 (.if_icmp .ge (22)) (22) 12 31 := ⟨by decide +kernel, rfl, by decide⟩
theorem aX8_worthOver_12 : At cX8_worthOver 12 (.lload 4) 2 14 := ⟨by decide +kernel, rfl⟩
theorem aX8_worthOver_14 : At cX8_worthOver 14 (.aload_n 0) 1 15 := ⟨by decide +kernel, rfl⟩
theorem aX8_worthOver_15 : At cX8_worthOver 15 (.iload 6) 2 17 := ⟨by decide +kernel, rfl⟩
theorem aX8_worthOver_17 : At cX8_worthOver 17 (.iload_n 3) 1 18 := ⟨by decide +kernel, rfl⟩
theorem aX8_worthOver_18 : At cX8_worthOver 18 (.invokevirtual 187) 3 21 := ⟨by decide +kernel, rfl⟩
theorem aX8_worthOver_21 : At cX8_worthOver 21 (.i2l) 1 22 := ⟨by decide +kernel, rfl⟩
theorem aX8_worthOver_22 : At cX8_worthOver 22 (.ladd) 1 23 := ⟨by decide +kernel, rfl⟩
theorem aX8_worthOver_23 : At cX8_worthOver 23 (.lstore 4) 2 25 := ⟨by decide +kernel, rfl⟩
theorem aX8_worthOver_25 : At cX8_worthOver 25 (.iinc 6 1) 3 28 := ⟨by decide +kernel, rfl⟩
theorem aX8_worthOver_28 : Br cX8_worthOver 28 (.goto (-22)) (-22) 31 6 := ⟨by decide +kernel, rfl, by decide⟩
theorem aX8_worthOver_31 : At cX8_worthOver 31 (.lload 4) 2 33 := ⟨by decide +kernel, rfl⟩
theorem aX8_worthOver_33 : At cX8_worthOver 33 (.lreturn) 1 34 := ⟨by decide +kernel, rfl⟩
theorem aX8_tellsEachDeal_0 : At cX8_tellsEachDeal 0 (.iconst 0) 1 1 := ⟨by decide +kernel, rfl⟩
theorem aX8_tellsEachDeal_1 : At cX8_tellsEachDeal 1 (.istore_n 2) 1 2 := ⟨by decide +kernel, rfl⟩
theorem aX8_tellsEachDeal_2 : At cX8_tellsEachDeal 2 (.iconst 0) 1 3 := ⟨by decide +kernel, rfl⟩
theorem aX8_tellsEachDeal_3 : At cX8_tellsEachDeal 3 (.istore_n 3) 1 4 := ⟨by decide +kernel, rfl⟩
theorem aX8_tellsEachDeal_4 : At cX8_tellsEachDeal 4 (.iload_n 3) 1 5 := ⟨by decide +kernel, rfl⟩
theorem aX8_tellsEachDeal_5 : At cX8_tellsEachDeal 5 (.aload_n 1) 1 6 := ⟨by decide +kernel, rfl⟩
theorem aX8_tellsEachDeal_6 : At cX8_tellsEachDeal 6 (.getfield 207) 3 9 := ⟨by decide +kernel, rfl⟩
theorem aX8_tellsEachDeal_9 : Br cX8_tellsEachDeal 9 (.if_icmp .ge (58)) (58) 12 67 := ⟨by decide +kernel, rfl, by decide⟩
theorem aX8_tellsEachDeal_12 : At cX8_tellsEachDeal 12 (.aload_n 1) 1 13 := ⟨by decide +kernel, rfl⟩
theorem aX8_tellsEachDeal_13 : At cX8_tellsEachDeal 13 (.getfield 225) 3 16 := ⟨by decide +kernel, rfl⟩
theorem aX8_tellsEachDeal_16 : At cX8_tellsEachDeal 16 (.iload_n 3) 1 17 := ⟨by decide +kernel, rfl⟩
theorem aX8_tellsEachDeal_17 : At cX8_tellsEachDeal 17 (.laload) 1 18 := ⟨by decide +kernel, rfl⟩
theorem aX8_tellsEachDeal_18 : At cX8_tellsEachDeal 18 (.lstore 4) 2 20 := ⟨by decide +kernel, rfl⟩
theorem aX8_tellsEachDeal_20 : At cX8_tellsEachDeal 20 (.lload 4) 2 22 := ⟨by decide +kernel, rfl⟩
theorem aX8_tellsEachDeal_22 : At cX8_tellsEachDeal 22 (.lconst 0) 1 23 := ⟨by decide +kernel, rfl⟩
theorem aX8_tellsEachDeal_23 : At cX8_tellsEachDeal 23 (.lcmp) 1 24 := ⟨by decide +kernel, rfl⟩
theorem aX8_tellsEachDeal_24 : Br cX8_tellsEachDeal 24 (.ifCond .lt (27)) (27) 27 51 := ⟨by decide +kernel, rfl, by decide⟩
theorem aX8_tellsEachDeal_27 : At cX8_tellsEachDeal 27 (.lload 4) 2 29 := ⟨by decide +kernel, rfl⟩
theorem aX8_tellsEachDeal_29 : At cX8_tellsEachDeal 29 (.aload_n 0) 1 30 := ⟨by decide +kernel, rfl⟩
theorem aX8_tellsEachDeal_30 : At cX8_tellsEachDeal 30 (.getfield 10) 3 33 := ⟨by decide +kernel, rfl⟩
theorem aX8_tellsEachDeal_33 : At cX8_tellsEachDeal 33 (.getfield 101) 3 36 := ⟨by decide +kernel, rfl⟩
theorem aX8_tellsEachDeal_36 : At cX8_tellsEachDeal 36 (.i2l) 1 37 := ⟨by decide +kernel, rfl⟩
theorem aX8_tellsEachDeal_37 : At cX8_tellsEachDeal 37 (.lcmp) 1 38 := ⟨by decide +kernel, rfl⟩
theorem aX8_tellsEachDeal_38 : Br cX8_tellsEachDeal 38 (.ifCond .ge (13)) (13) 41 51 := ⟨by decide +kernel, rfl, by decide⟩
theorem aX8_tellsEachDeal_41 : At cX8_tellsEachDeal 41 (.iload_n 2) 1 42 := ⟨by decide +kernel, rfl⟩
theorem aX8_tellsEachDeal_42 : At cX8_tellsEachDeal 42 (.lload 4) 2 44 := ⟨by decide +kernel, rfl⟩
theorem aX8_tellsEachDeal_44 : At cX8_tellsEachDeal 44 (.l2i) 1 45 := ⟨by decide +kernel, rfl⟩
theorem aX8_tellsEachDeal_45 : At cX8_tellsEachDeal 45 (.ishr) 1 46 := ⟨by decide +kernel, rfl⟩
theorem aX8_tellsEachDeal_46 : At cX8_tellsEachDeal 46 (.iconst 1) 1 47 := ⟨by decide +kernel, rfl⟩
theorem aX8_tellsEachDeal_47 : At cX8_tellsEachDeal 47 (.iand) 1 48 := ⟨by decide +kernel, rfl⟩
theorem aX8_tellsEachDeal_48 : Br cX8_tellsEachDeal 48 (.ifCond .eq (5)) (5) 51 53 := ⟨by decide +kernel, rfl, by decide⟩
theorem aX8_tellsEachDeal_51 : At cX8_tellsEachDeal 51 (.iconst 0) 1 52 := ⟨by decide +kernel, rfl⟩
theorem aX8_tellsEachDeal_52 : At cX8_tellsEachDeal 52 (.ireturn) 1 53 := ⟨by decide +kernel, rfl⟩
theorem aX8_tellsEachDeal_53 : At cX8_tellsEachDeal 53 (.iload_n 2) 1 54 := ⟨by decide +kernel, rfl⟩
theorem aX8_tellsEachDeal_54 : At cX8_tellsEachDeal 54 (.iconst 1) 1 55 := ⟨by decide +kernel, rfl⟩
theorem aX8_tellsEachDeal_55 : At cX8_tellsEachDeal 55 (.lload 4) 2 57 := ⟨by decide +kernel, rfl⟩
theorem aX8_tellsEachDeal_57 : At cX8_tellsEachDeal 57 (.l2i) 1 58 := ⟨by decide +kernel, rfl⟩
theorem aX8_tellsEachDeal_58 : At cX8_tellsEachDeal 58 (.ishl) 1 59 := ⟨by decide +kernel, rfl⟩
theorem aX8_tellsEachDeal_59 : At cX8_tellsEachDeal 59 (.ior) 1 60 := ⟨by decide +kernel, rfl⟩
theorem aX8_tellsEachDeal_60 : At cX8_tellsEachDeal 60 (.istore_n 2) 1 61 := ⟨by decide +kernel, rfl⟩
theorem aX8_tellsEachDeal_61 : At cX8_tellsEachDeal 61 (.iinc 3 1) 3 64 := ⟨by decide +kernel, rfl⟩
theorem aX8_tellsEachDeal_64 : Br cX8_tellsEachDeal 64 (.goto (-60)) (-60) 67 4 := ⟨by decide +kernel, rfl, by decide⟩
theorem aX8_tellsEachDeal_67 : At cX8_tellsEachDeal 67 (.iconst 1) 1 68 := ⟨by decide +kernel, rfl⟩
theorem aX8_tellsEachDeal_68 : At cX8_tellsEachDeal 68 (.ireturn) 1 69 := ⟨by decide +kernel, rfl⟩
theorem aX8_countRounds_0 : At cX8_countRounds 0 (.new 284) 3 3 := ⟨by decide +kernel, rfl⟩
theorem aX8_countRounds_3 : At cX8_countRounds 3 (.dup) 1 4 := ⟨by decide +kernel, rfl⟩
theorem aX8_countRounds_4 : At cX8_countRounds 4 (.iload_n 2) 1 5 := ⟨by decide +kernel, rfl⟩
theorem aX8_countRounds_5 : At cX8_countRounds 5 (.invokespecial 286) 3 8 := ⟨by decide +kernel, rfl⟩
theorem aX8_countRounds_8 : At cX8_countRounds 8 (.astore_n 3) 1 9 := ⟨by decide +kernel, rfl⟩
theorem aX8_countRounds_9 : At cX8_countRounds 9 (.iconst 1) 1 10 := ⟨by decide +kernel, rfl⟩
theorem aX8_countRounds_10 : At cX8_countRounds 10 (.istore 4) 2 12 := ⟨by decide +kernel, rfl⟩
theorem aX8_countRounds_12 : At cX8_countRounds 12 (.iload 4) 2 14 := ⟨by decide +kernel, rfl⟩
theorem aX8_countRounds_14 : At cX8_countRounds 14 (.bipush 24) 2 16 := ⟨by decide +kernel, rfl⟩
theorem aX8_countRounds_16 : Br cX8_countRounds 16 (.if_icmp .gt (18)) (18) 19 34 := ⟨by decide +kernel, rfl, by decide⟩
theorem aX8_countRounds_19 : At cX8_countRounds 19 (.aload_n 0) 1 20 := ⟨by decide +kernel, rfl⟩
theorem aX8_countRounds_20 : At cX8_countRounds 20 (.aload_n 1) 1 21 := ⟨by decide +kernel, rfl⟩
theorem aX8_countRounds_21 : At cX8_countRounds 21 (.aload_n 3) 1 22 := ⟨by decide +kernel, rfl⟩
theorem aX8_countRounds_22 : At cX8_countRounds 22 (.invokevirtual 289) 3 25 := ⟨by decide +kernel, rfl⟩
theorem aX8_countRounds_25 : Br cX8_countRounds 25 (.ifCond .eq (9)) (9) 28 34 := ⟨by decide +kernel, rfl, by decide⟩
theorem aX8_countRounds_28 : At cX8_countRounds 28 (.iinc 4 1) 3 31 := ⟨by decide +kernel, rfl⟩
theorem aX8_countRounds_31 : Br cX8_countRounds 31 (.goto (-19)) (-19) 34 12 := ⟨by decide +kernel, rfl, by decide⟩
theorem aX8_countRounds_34 : At cX8_countRounds 34 (.iload 4) 2 36 := ⟨by decide +kernel, rfl⟩
theorem aX8_countRounds_36 : At cX8_countRounds 36 (.ireturn) 1 37 := ⟨by decide +kernel, rfl⟩
theorem aX8_goesOver_0 : At cX8_goesOver 0 (.iconst 0) 1 1 := ⟨by decide +kernel, rfl⟩
theorem aX8_goesOver_1 : At cX8_goesOver 1 (.istore_n 3) 1 2 := ⟨by decide +kernel, rfl⟩
theorem aX8_goesOver_2 : At cX8_goesOver 2 (.iconst 0) 1 3 := ⟨by decide +kernel, rfl⟩
theorem aX8_goesOver_3 : At cX8_goesOver 3 (.istore 4) 2 5 := ⟨by decide +kernel, rfl⟩
theorem aX8_goesOver_5 : At cX8_goesOver 5 (.iload 4) 2 7 := ⟨by decide +kernel, rfl⟩
theorem aX8_goesOver_7 : At cX8_goesOver 7 (.aload_n 1) 1 8 := ⟨by decide +kernel, rfl⟩
theorem aX8_goesOver_8 : At cX8_goesOver 8 (.getfield 207) 3 11 := ⟨by decide +kernel, rfl⟩
theorem aX8_goesOver_11 : Br cX8_goesOver 11 (.if_icmp .ge (48)) (48) 14 59 := ⟨by decide +kernel, rfl, by decide⟩
theorem aX8_goesOver_14 : At cX8_goesOver 14 (.aload_n 1) 1 15 := ⟨by decide +kernel, rfl⟩
theorem aX8_goesOver_15 : At cX8_goesOver 15 (.getfield 225) 3 18 := ⟨by decide +kernel, rfl⟩
theorem aX8_goesOver_18 : At cX8_goesOver 18 (.iload 4) 2 20 := ⟨by decide +kernel, rfl⟩
theorem aX8_goesOver_20 : At cX8_goesOver 20 (.laload) 1 21 := ⟨by decide +kernel, rfl⟩
theorem aX8_goesOver_21 : At cX8_goesOver 21 (.l2i) 1 22 := ⟨by decide +kernel, rfl⟩
theorem aX8_goesOver_22 : At cX8_goesOver 22 (.istore 5) 2 24 := ⟨by decide +kernel, rfl⟩
theorem aX8_goesOver_24 : At cX8_goesOver 24 (.aload_n 0) 1 25 := ⟨by decide +kernel, rfl⟩
theorem aX8_goesOver_25 : At cX8_goesOver 25 (.getfield 10) 3 28 := ⟨by decide +kernel, rfl⟩
theorem aX8_goesOver_28 : At cX8_goesOver 28 (.iload 5) 2 30 := ⟨by decide +kernel, rfl⟩
theorem aX8_goesOver_30 : At cX8_goesOver 30 (.invokevirtual 128) 3 33 := ⟨by decide +kernel, rfl⟩
theorem aX8_goesOver_33 : At cX8_goesOver 33 (.astore 6) 2 35 := ⟨by decide +kernel, rfl⟩
theorem aX8_goesOver_35 : At cX8_goesOver 35 (.aload 6) 2 37 := ⟨by decide +kernel, rfl⟩
theorem aX8_goesOver_37 : Br cX8_goesOver 37 (.ifnull (16)) (16) 40 53 := ⟨by decide +kernel, rfl, by decide⟩
theorem aX8_goesOver_40 : At cX8_goesOver 40 (.aload_n 2) 1 41 := ⟨by decide +kernel, rfl⟩
theorem aX8_goesOver_41 : At cX8_goesOver 41 (.aload 6) 2 43 := ⟨by decide +kernel, rfl⟩
theorem aX8_goesOver_43 : At cX8_goesOver 43 (.iload 5) 2 45 := ⟨by decide +kernel, rfl⟩
theorem aX8_goesOver_45 : At cX8_goesOver 45 (.invokevirtual 293) 3 48 := ⟨by decide +kernel, rfl⟩
theorem aX8_goesOver_48 : Br cX8_goesOver 48 (.ifCond .eq (5)) (5) 51 53 := ⟨by decide +kernel, rfl, by decide⟩
theorem aX8_goesOver_51 : At cX8_goesOver 51 (.iconst 1) 1 52 := ⟨by decide +kernel, rfl⟩
theorem aX8_goesOver_52 : At cX8_goesOver 52 (.istore_n 3) 1 53 := ⟨by decide +kernel, rfl⟩
theorem aX8_goesOver_53 : At cX8_goesOver 53 (.iinc 4 1) 3 56 := ⟨by decide +kernel, rfl⟩
theorem aX8_goesOver_56 : Br cX8_goesOver 56 (.goto (-51)) (-51) 59 5 := ⟨by decide +kernel, rfl, by decide⟩
theorem aX8_goesOver_59 : At cX8_goesOver 59 (.iload_n 3) 1 60 := ⟨by decide +kernel, rfl⟩
theorem aX8_goesOver_60 : At cX8_goesOver 60 (.ireturn) 1 61 := ⟨by decide +kernel, rfl⟩
theorem aX8_countHeld_0 : At cX8_countHeld 0 (.iconst 0) 1 1 := ⟨by decide +kernel, rfl⟩
theorem aX8_countHeld_1 : At cX8_countHeld 1 (.istore_n 1) 1 2 := ⟨by decide +kernel, rfl⟩
theorem aX8_countHeld_2 : At cX8_countHeld 2 (.iconst 0) 1 3 := ⟨by decide +kernel, rfl⟩
theorem aX8_countHeld_3 : At cX8_countHeld 3 (.istore_n 2) 1 4 := ⟨by decide +kernel, rfl⟩
theorem aX8_countHeld_4 : At cX8_countHeld 4 (.iload_n 2) 1 5 := ⟨by decide +kernel, rfl⟩
theorem aX8_countHeld_5 : At cX8_countHeld 5 (.iconst 4) 1 6 := ⟨by decide +kernel, rfl⟩
theorem aX8_countHeld_6 : Br cX8_countHeld 6 (.if_icmp .ge (21)) (21) 9 27 := ⟨by decide +kernel, rfl, by decide⟩
theorem aX8_countHeld_9 : At cX8_countHeld 9 (.aload_n 0) 1 10 := ⟨by decide +kernel, rfl⟩
theorem aX8_countHeld_10 : At cX8_countHeld 10 (.getfield 42) 3 13 := ⟨by decide +kernel, rfl⟩
theorem aX8_countHeld_13 : At cX8_countHeld 13 (.iload_n 2) 1 14 := ⟨by decide +kernel, rfl⟩
theorem aX8_countHeld_14 : At cX8_countHeld 14 (.aaload) 1 15 := ⟨by decide +kernel, rfl⟩
theorem aX8_countHeld_15 : Br cX8_countHeld 15 (.ifnull (6)) (6) 18 21 := ⟨by decide +kernel, rfl, by decide⟩
theorem aX8_countHeld_18 : At cX8_countHeld 18 (.iinc 1 1) 3 21 := ⟨by decide +kernel, rfl⟩
theorem aX8_countHeld_21 : At cX8_countHeld 21 (.iinc 2 1) 3 24 := ⟨by decide +kernel, rfl⟩
theorem aX8_countHeld_24 : Br cX8_countHeld 24 (.goto (-20)) (-20) 27 4 := ⟨by decide +kernel, rfl, by decide⟩
theorem aX8_countHeld_27 : At cX8_countHeld 27 (.iload_n 1) 1 28 := ⟨by decide +kernel, rfl⟩
theorem aX8_countHeld_28 : At cX8_countHeld 28 (.ireturn) 1 29 := ⟨by decide +kernel, rfl⟩
end
section
/-! words by their places; links (written by wip/whole/gen10.py) -/
theorem tb0 {w : Cond} (h : w ∈ k2_sels lw_privs) : w ∈ lw_tbl := List.mem_append_left _ h
theorem tb1 {w : Cond} (h : w ∈ tables_1_1) : w ∈ lw_tbl := List.mem_append_right _ (by unfold tables_1; exact List.mem_append_left _ h)
theorem tb2 {w : Cond} (h : w ∈ tables_1_2) : w ∈ lw_tbl := List.mem_append_right _ (by unfold tables_1; exact List.mem_append_right _ (List.mem_append_left _ h))
theorem tb3 {w : Cond} (h : w ∈ tables_1_3) : w ∈ lw_tbl := List.mem_append_right _ (by unfold tables_1; exact List.mem_append_right _ (List.mem_append_right _ (List.mem_append_left _ h)))
theorem tb4 {w : Cond} (h : w ∈ tables_1_4) : w ∈ lw_tbl := List.mem_append_right _ (by unfold tables_1; exact List.mem_append_right _ (List.mem_append_right _ (List.mem_append_right _ (List.mem_append_left _ h))))
theorem tb5 {w : Cond} (h : w ∈ tables_1_5) : w ∈ lw_tbl := List.mem_append_right _ (by unfold tables_1; exact List.mem_append_right _ (List.mem_append_right _ (List.mem_append_right _ (List.mem_append_right _ (List.mem_append_left _ h)))))
theorem tb6 {w : Cond} (h : w ∈ tables_1_6) : w ∈ lw_tbl := List.mem_append_right _ (by unfold tables_1; exact List.mem_append_right _ (List.mem_append_right _ (List.mem_append_right _ (List.mem_append_right _ (List.mem_append_right _ (h))))))
theorem tq0 {w : Cond} (i : Nat) (h : (k2_sels lw_privs)[i]? = some w) (g : goodWord w = true) : w ∈ TT := List.mem_filter.mpr ⟨tb0 (List.mem_of_getElem? h), g⟩
theorem tq1 {w : Cond} (i : Nat) (h : tables_1_1[i]? = some w) (g : goodWord w = true) : w ∈ TT := List.mem_filter.mpr ⟨tb1 (List.mem_of_getElem? h), g⟩
theorem tq2 {w : Cond} (i : Nat) (h : tables_1_2[i]? = some w) (g : goodWord w = true) : w ∈ TT := List.mem_filter.mpr ⟨tb2 (List.mem_of_getElem? h), g⟩
theorem tq3 {w : Cond} (i : Nat) (h : tables_1_3[i]? = some w) (g : goodWord w = true) : w ∈ TT := List.mem_filter.mpr ⟨tb3 (List.mem_of_getElem? h), g⟩
theorem tq4 {w : Cond} (i : Nat) (h : tables_1_4[i]? = some w) (g : goodWord w = true) : w ∈ TT := List.mem_filter.mpr ⟨tb4 (List.mem_of_getElem? h), g⟩
theorem tq5 {w : Cond} (i : Nat) (h : tables_1_5[i]? = some w) (g : goodWord w = true) : w ∈ TT := List.mem_filter.mpr ⟨tb5 (List.mem_of_getElem? h), g⟩
theorem tq6 {w : Cond} (i : Nat) (h : tables_1_6[i]? = some w) (g : goodWord w = true) : w ∈ TT := List.mem_filter.mpr ⟨tb6 (List.mem_of_getElem? h), g⟩
-- methods: code, initialised
set_option maxRecDepth 20000 in
theorem okX0_init : MdOk mX0_init := ⟨tq1 29 rfl rfl, ⟨by decide, by decide⟩, tq1 2 rfl rfl⟩
theorem npX0_init : npar mX0_init 0 := by unfold npar; decide +kernel
set_option maxRecDepth 20000 in
theorem okX0_become : MdOk mX0_become := ⟨tq4 26 rfl rfl, ⟨by decide, by decide⟩, tq1 2 rfl rfl⟩
theorem npX0_become : npar mX0_become 1 := by unfold npar; decide +kernel
set_option maxRecDepth 20000 in
theorem okX0_firstOpen : MdOk mX0_firstOpen := ⟨tq1 221 rfl rfl, ⟨by decide, by decide⟩, tq1 2 rfl rfl⟩
theorem npX0_firstOpen : npar mX0_firstOpen 0 := by unfold npar; decide +kernel
set_option maxRecDepth 20000 in
theorem okX0_openCount : MdOk mX0_openCount := ⟨tq1 226 rfl rfl, ⟨by decide, by decide⟩, tq1 2 rfl rfl⟩
theorem npX0_openCount : npar mX0_openCount 0 := by unfold npar; decide +kernel
set_option maxRecDepth 20000 in
theorem okX0_endOpen : MdOk mX0_endOpen := ⟨tq2 46 rfl rfl, ⟨by decide, by decide⟩, tq1 2 rfl rfl⟩
theorem npX0_endOpen : npar mX0_endOpen 0 := by unfold npar; decide +kernel
set_option maxRecDepth 20000 in
theorem okX0_isOpen : MdOk mX0_isOpen := ⟨tq3 76 rfl rfl, ⟨by decide, by decide⟩, tq1 2 rfl rfl⟩
theorem npX0_isOpen : npar mX0_isOpen 1 := by unfold npar; decide +kernel
set_option maxRecDepth 20000 in
theorem okX0_dealAt : MdOk mX0_dealAt := ⟨tq2 74 rfl rfl, ⟨by decide, by decide⟩, tq1 2 rfl rfl⟩
theorem npX0_dealAt : npar mX0_dealAt 1 := by unfold npar; decide +kernel
set_option maxRecDepth 20000 in
theorem okX0_numberOf : MdOk mX0_numberOf := ⟨tq4 18 rfl rfl, ⟨by decide, by decide⟩, tq1 2 rfl rfl⟩
theorem npX0_numberOf : npar mX0_numberOf 1 := by unfold npar; decide +kernel
set_option maxRecDepth 20000 in
theorem okX0_clashOf : MdOk mX0_clashOf := ⟨tq2 70 rfl rfl, ⟨by decide, by decide⟩, tq1 2 rfl rfl⟩
theorem npX0_clashOf : npar mX0_clashOf 4 := by unfold npar; decide +kernel
set_option maxRecDepth 20000 in
theorem okX1_init : MdOk mX1_init := ⟨tq1 239 rfl rfl, ⟨by decide, by decide⟩, tq1 9 rfl rfl⟩
theorem npX1_init : npar mX1_init 7 := by unfold npar; decide +kernel
set_option maxRecDepth 20000 in
theorem okX1_isMet : MdOk mX1_isMet := ⟨tq3 52 rfl rfl, ⟨by decide, by decide⟩, tq1 9 rfl rfl⟩
theorem npX1_isMet : npar mX1_isMet 1 := by unfold npar; decide +kernel
set_option maxRecDepth 20000 in
theorem okX1_gives : MdOk mX1_gives := ⟨tq2 56 rfl rfl, ⟨by decide, by decide⟩, tq1 9 rfl rfl⟩
theorem npX1_gives : npar mX1_gives 1 := by unfold npar; decide +kernel
set_option maxRecDepth 20000 in
theorem okX1_getsBack : MdOk mX1_getsBack := ⟨tq2 65 rfl rfl, ⟨by decide, by decide⟩, tq1 9 rfl rfl⟩
theorem npX1_getsBack : npar mX1_getsBack 1 := by unfold npar; decide +kernel
set_option maxRecDepth 20000 in
theorem okX1_takerOf : MdOk mX1_takerOf := ⟨tq2 79 rfl rfl, ⟨by decide, by decide⟩, tq1 9 rfl rfl⟩
theorem npX1_takerOf : npar mX1_takerOf 2 := by unfold npar; decide +kernel
set_option maxRecDepth 20000 in
theorem okX1_mayGive : MdOk mX1_mayGive := ⟨tq2 83 rfl rfl, ⟨by decide, by decide⟩, tq1 9 rfl rfl⟩
theorem npX1_mayGive : npar mX1_mayGive 1 := by unfold npar; decide +kernel
set_option maxRecDepth 20000 in
theorem okX2_init : MdOk mX2_init := ⟨tq1 66 rfl rfl, ⟨by decide, by decide⟩, tq1 3 rfl rfl⟩
theorem npX2_init : npar mX2_init 0 := by unfold npar; decide +kernel
set_option maxRecDepth 20000 in
theorem okX2_at : MdOk mX2_at := ⟨tq3 81 rfl rfl, ⟨by decide, by decide⟩, tq1 3 rfl rfl⟩
theorem npX2_at : npar mX2_at 2 := by unfold npar; decide +kernel
set_option maxRecDepth 20000 in
theorem okX2_startAll : MdOk mX2_startAll := ⟨tq1 150 rfl rfl, ⟨by decide, by decide⟩, tq1 3 rfl rfl⟩
theorem npX2_startAll : npar mX2_startAll 2 := by unfold npar; decide +kernel
set_option maxRecDepth 20000 in
theorem okX2_settle : MdOk mX2_settle := ⟨tq2 87 rfl rfl, ⟨by decide, by decide⟩, tq1 3 rfl rfl⟩
theorem npX2_settle : npar mX2_settle 3 := by unfold npar; decide +kernel
set_option maxRecDepth 20000 in
theorem okX2_give : MdOk mX2_give := ⟨tq2 92 rfl rfl, ⟨by decide, by decide⟩, tq1 3 rfl rfl⟩
theorem npX2_give : npar mX2_give 3 := by unfold npar; decide +kernel
set_option maxRecDepth 20000 in
theorem okX3_init : MdOk mX3_init := ⟨tq1 76 rfl rfl, ⟨by decide, by decide⟩, tq1 4 rfl rfl⟩
theorem npX3_init : npar mX3_init 0 := by unfold npar; decide +kernel
set_option maxRecDepth 20000 in
theorem okX3_cameAt : MdOk mX3_cameAt := ⟨tq2 232 rfl rfl, ⟨by decide, by decide⟩, tq1 4 rfl rfl⟩
theorem npX3_cameAt : npar mX3_cameAt 1 := by unfold npar; decide +kernel
set_option maxRecDepth 20000 in
theorem okX3_readText : MdOk mX3_readText := ⟨tq2 104 rfl rfl, ⟨by decide, by decide⟩, tq1 4 rfl rfl⟩
theorem npX3_readText : npar mX3_readText 1 := by unfold npar; decide +kernel
set_option maxRecDepth 20000 in
theorem okX3_readItem : MdOk mX3_readItem := ⟨tq2 122 rfl rfl, ⟨by decide, by decide⟩, tq1 4 rfl rfl⟩
theorem npX3_readItem : npar mX3_readItem 1 := by unfold npar; decide +kernel
set_option maxRecDepth 20000 in
theorem okX3_readKind : MdOk mX3_readKind := ⟨tq2 196 rfl rfl, ⟨by decide, by decide⟩, tq1 4 rfl rfl⟩
theorem npX3_readKind : npar mX3_readKind 0 := by unfold npar; decide +kernel
set_option maxRecDepth 20000 in
theorem okX3_readAny : MdOk mX3_readAny := ⟨tq2 206 rfl rfl, ⟨by decide, by decide⟩, tq1 4 rfl rfl⟩
theorem npX3_readAny : npar mX3_readAny 3 := by unfold npar; decide +kernel
set_option maxRecDepth 20000 in
theorem okX3_readOne : MdOk mX3_readOne := ⟨tq2 214 rfl rfl, ⟨by decide, by decide⟩, tq1 4 rfl rfl⟩
theorem npX3_readOne : npar mX3_readOne 3 := by unfold npar; decide +kernel
set_option maxRecDepth 20000 in
theorem okX3_dealByThen : MdOk mX3_dealByThen := ⟨tq2 227 rfl rfl, ⟨by decide, by decide⟩, tq1 4 rfl rfl⟩
theorem npX3_dealByThen : npar mX3_dealByThen 2 := by unfold npar; decide +kernel
set_option maxRecDepth 20000 in
theorem okX4_init : MdOk mX4_init := ⟨tq3 165 rfl rfl, ⟨by decide, by decide⟩, tq1 15 rfl rfl⟩
theorem npX4_init : npar mX4_init 1 := by unfold npar; decide +kernel
set_option maxRecDepth 20000 in
theorem okX4_move : MdOk mX4_move := ⟨tq3 187 rfl rfl, ⟨by decide, by decide⟩, tq1 15 rfl rfl⟩
theorem npX4_move : npar mX4_move 2 := by unfold npar; decide +kernel
set_option maxRecDepth 20000 in
theorem okX5_init : MdOk mX5_init := ⟨tq1 132 rfl rfl, ⟨by decide, by decide⟩, tq1 7 rfl rfl⟩
theorem npX5_init : npar mX5_init 0 := by unfold npar; decide +kernel
set_option maxRecDepth 20000 in
theorem okX5_isMissing : MdOk mX5_isMissing := ⟨tq3 152 rfl rfl, ⟨by decide, by decide⟩, tq1 7 rfl rfl⟩
theorem npX5_isMissing : npar mX5_isMissing 0 := by unfold npar; decide +kernel
set_option maxRecDepth 20000 in
theorem okX5_become : MdOk mX5_become := ⟨tq3 222 rfl rfl, ⟨by decide, by decide⟩, tq1 7 rfl rfl⟩
theorem npX5_become : npar mX5_become 2 := by unfold npar; decide +kernel
set_option maxRecDepth 20000 in
theorem okX5_put : MdOk mX5_put := ⟨tq3 198 rfl rfl, ⟨by decide, by decide⟩, tq1 7 rfl rfl⟩
theorem npX5_put : npar mX5_put 2 := by unfold npar; decide +kernel
set_option maxRecDepth 20000 in
theorem okX5_hasRun : MdOk mX5_hasRun := ⟨tq3 238 rfl rfl, ⟨by decide, by decide⟩, tq1 7 rfl rfl⟩
theorem npX5_hasRun : npar mX5_hasRun 2 := by unfold npar; decide +kernel
set_option maxRecDepth 20000 in
theorem okX6_init : MdOk mX6_init := ⟨tq1 105 rfl rfl, ⟨by decide, by decide⟩, tq1 6 rfl rfl⟩
theorem npX6_init : npar mX6_init 0 := by unfold npar; decide +kernel
set_option maxRecDepth 20000 in
theorem okX6_has : MdOk mX6_has := ⟨tq2 60 rfl rfl, ⟨by decide, by decide⟩, tq1 6 rfl rfl⟩
theorem npX6_has : npar mX6_has 1 := by unfold npar; decide +kernel
set_option maxRecDepth 20000 in
theorem okX6_becomeAhead : MdOk mX6_becomeAhead := ⟨tq3 8 rfl rfl, ⟨by decide, by decide⟩, tq1 6 rfl rfl⟩
theorem npX6_becomeAhead : npar mX6_becomeAhead 2 := by unfold npar; decide +kernel
set_option maxRecDepth 20000 in
theorem okX6_becomeAt : MdOk mX6_becomeAt := ⟨tq3 13 rfl rfl, ⟨by decide, by decide⟩, tq1 6 rfl rfl⟩
theorem npX6_becomeAt : npar mX6_becomeAt 2 := by unfold npar; decide +kernel
set_option maxRecDepth 20000 in
theorem okX6_becomeLapsed : MdOk mX6_becomeLapsed := ⟨tq2 237 rfl rfl, ⟨by decide, by decide⟩, tq1 6 rfl rfl⟩
theorem npX6_becomeLapsed : npar mX6_becomeLapsed 1 := by unfold npar; decide +kernel
set_option maxRecDepth 20000 in
theorem okX6_clear : MdOk mX6_clear := ⟨tq2 210 rfl rfl, ⟨by decide, by decide⟩, tq1 6 rfl rfl⟩
theorem npX6_clear : npar mX6_clear 0 := by unfold npar; decide +kernel
set_option maxRecDepth 20000 in
theorem okX6_turn : MdOk mX6_turn := ⟨tq2 219 rfl rfl, ⟨by decide, by decide⟩, tq1 6 rfl rfl⟩
theorem npX6_turn : npar mX6_turn 0 := by unfold npar; decide +kernel
set_option maxRecDepth 20000 in
theorem okX6_join : MdOk mX6_join := ⟨tq3 22 rfl rfl, ⟨by decide, by decide⟩, tq1 6 rfl rfl⟩
theorem npX6_join : npar mX6_join 1 := by unfold npar; decide +kernel
set_option maxRecDepth 20000 in
theorem okX6_meet : MdOk mX6_meet := ⟨tq3 18 rfl rfl, ⟨by decide, by decide⟩, tq1 6 rfl rfl⟩
theorem npX6_meet : npar mX6_meet 1 := by unfold npar; decide +kernel
set_option maxRecDepth 20000 in
theorem okX6_set : MdOk mX6_set := ⟨tq3 2 rfl rfl, ⟨by decide, by decide⟩, tq1 6 rfl rfl⟩
theorem npX6_set : npar mX6_set 2 := by unfold npar; decide +kernel
set_option maxRecDepth 20000 in
theorem okX7_init : MdOk mX7_init := ⟨tq1 82 rfl rfl, ⟨by decide, by decide⟩, tq1 5 rfl rfl⟩
theorem npX7_init : npar mX7_init 0 := by unfold npar; decide +kernel
set_option maxRecDepth 20000 in
theorem okX7_add : MdOk mX7_add := ⟨tq3 210 rfl rfl, ⟨by decide, by decide⟩, tq1 5 rfl rfl⟩
theorem npX7_add : npar mX7_add 1 := by unfold npar; decide +kernel
set_option maxRecDepth 20000 in
theorem okX7_start : MdOk mX7_start := ⟨tq2 108 rfl rfl, ⟨by decide, by decide⟩, tq1 5 rfl rfl⟩
theorem npX7_start : npar mX7_start 0 := by unfold npar; decide +kernel
set_option maxRecDepth 20000 in
theorem okX7_tokenPlace : MdOk mX7_tokenPlace := ⟨tq3 28 rfl rfl, ⟨by decide, by decide⟩, tq1 5 rfl rfl⟩
theorem npX7_tokenPlace : npar mX7_tokenPlace 0 := by unfold npar; decide +kernel
set_option maxRecDepth 20000 in
theorem okX7_isAtEnd : MdOk mX7_isAtEnd := ⟨tq2 183 rfl rfl, ⟨by decide, by decide⟩, tq1 5 rfl rfl⟩
theorem npX7_isAtEnd : npar mX7_isAtEnd 0 := by unfold npar; decide +kernel
set_option maxRecDepth 20000 in
theorem okX7_takes : MdOk mX7_takes := ⟨tq2 127 rfl rfl, ⟨by decide, by decide⟩, tq1 5 rfl rfl⟩
theorem npX7_takes : npar mX7_takes 1 := by unfold npar; decide +kernel
set_option maxRecDepth 20000 in
theorem okX7_takeNumber : MdOk mX7_takeNumber := ⟨tq2 179 rfl rfl, ⟨by decide, by decide⟩, tq1 5 rfl rfl⟩
theorem npX7_takeNumber : npar mX7_takeNumber 3 := by unfold npar; decide +kernel
set_option maxRecDepth 20000 in
theorem okX7_tokenNumber : MdOk mX7_tokenNumber := ⟨tq2 187 rfl rfl, ⟨by decide, by decide⟩, tq1 5 rfl rfl⟩
theorem npX7_tokenNumber : npar mX7_tokenNumber 0 := by unfold npar; decide +kernel
set_option maxRecDepth 20000 in
theorem okX7_step : MdOk mX7_step := ⟨tq2 112 rfl rfl, ⟨by decide, by decide⟩, tq1 5 rfl rfl⟩
theorem npX7_step : npar mX7_step 0 := by unfold npar; decide +kernel
set_option maxRecDepth 20000 in
theorem okX7_isLetter : MdOk mX7_isLetter := ⟨tq2 115 rfl rfl, ⟨by decide, by decide⟩, tq1 5 rfl rfl⟩
theorem npX7_isLetter : npar mX7_isLetter 1 := by unfold npar; decide +kernel
set_option maxRecDepth 20000 in
theorem okX7_isDigit : MdOk mX7_isDigit := ⟨tq2 118 rfl rfl, ⟨by decide, by decide⟩, tq1 5 rfl rfl⟩
theorem npX7_isDigit : npar mX7_isDigit 1 := by unfold npar; decide +kernel
set_option maxRecDepth 20000 in
theorem okX8_init : MdOk mX8_init := ⟨tq1 21 rfl rfl, ⟨by decide, by decide⟩, tq1 1 rfl rfl⟩
theorem npX8_init : npar mX8_init 0 := by unfold npar; decide +kernel
set_option maxRecDepth 20000 in
theorem okX8_order : MdOk mX8_order := ⟨tq1 183 rfl rfl, ⟨by decide, by decide⟩, tq1 1 rfl rfl⟩
theorem npX8_order : npar mX8_order 2 := by unfold npar; decide +kernel
set_option maxRecDepth 20000 in
theorem okX8_place : MdOk mX8_place := ⟨tq1 197 rfl rfl, ⟨by decide, by decide⟩, tq1 1 rfl rfl⟩
theorem npX8_place : npar mX8_place 2 := by unfold npar; decide +kernel
set_option maxRecDepth 20000 in
theorem okX8_fall : MdOk mX8_fall := ⟨tq1 208 rfl rfl, ⟨by decide, by decide⟩, tq1 1 rfl rfl⟩
theorem npX8_fall : npar mX8_fall 1 := by unfold npar; decide +kernel
set_option maxRecDepth 20000 in
theorem okX8_fallen : MdOk mX8_fallen := ⟨tq1 212 rfl rfl, ⟨by decide, by decide⟩, tq1 1 rfl rfl⟩
theorem npX8_fallen : npar mX8_fallen 1 := by unfold npar; decide +kernel
set_option maxRecDepth 20000 in
theorem okX8_draw : MdOk mX8_draw := ⟨tq1 216 rfl rfl, ⟨by decide, by decide⟩, tq1 1 rfl rfl⟩
theorem npX8_draw : npar mX8_draw 0 := by unfold npar; decide +kernel
set_option maxRecDepth 20000 in
theorem okX8_sale : MdOk mX8_sale := ⟨tq1 232 rfl rfl, ⟨by decide, by decide⟩, tq1 1 rfl rfl⟩
theorem npX8_sale : npar mX8_sale 5 := by unfold npar; decide +kernel
set_option maxRecDepth 20000 in
theorem okX8_swap : MdOk mX8_swap := ⟨tq2 96 rfl rfl, ⟨by decide, by decide⟩, tq1 1 rfl rfl⟩
theorem npX8_swap : npar mX8_swap 5 := by unfold npar; decide +kernel
set_option maxRecDepth 20000 in
theorem okX8_text : MdOk mX8_text := ⟨tq2 100 rfl rfl, ⟨by decide, by decide⟩, tq1 1 rfl rfl⟩
theorem npX8_text : npar mX8_text 0 := by unfold npar; decide +kernel
set_option maxRecDepth 20000 in
theorem okX8_of : MdOk mX8_of := ⟨tq3 40 rfl rfl, ⟨by decide, by decide⟩, tq1 1 rfl rfl⟩
theorem npX8_of : npar mX8_of 2 := by unfold npar; decide +kernel
set_option maxRecDepth 20000 in
theorem okX8_holds : MdOk mX8_holds := ⟨tq3 48 rfl rfl, ⟨by decide, by decide⟩, tq1 1 rfl rfl⟩
theorem npX8_holds : npar mX8_holds 2 := by unfold npar; decide +kernel
set_option maxRecDepth 20000 in
theorem okX8_conveys : MdOk mX8_conveys := ⟨tq3 56 rfl rfl, ⟨by decide, by decide⟩, tq1 1 rfl rfl⟩
theorem npX8_conveys : npar mX8_conveys 3 := by unfold npar; decide +kernel
set_option maxRecDepth 20000 in
theorem okX8_drop : MdOk mX8_drop := ⟨tq3 60 rfl rfl, ⟨by decide, by decide⟩, tq1 1 rfl rfl⟩
theorem npX8_drop : npar mX8_drop 0 := by unfold npar; decide +kernel
set_option maxRecDepth 20000 in
theorem okX8_prune : MdOk mX8_prune := ⟨tq3 64 rfl rfl, ⟨by decide, by decide⟩, tq1 1 rfl rfl⟩
theorem npX8_prune : npar mX8_prune 0 := by unfold npar; decide +kernel
set_option maxRecDepth 20000 in
theorem okX8_clash : MdOk mX8_clash := ⟨tq3 68 rfl rfl, ⟨by decide, by decide⟩, tq1 1 rfl rfl⟩
theorem npX8_clash : npar mX8_clash 1 := by unfold npar; decide +kernel
set_option maxRecDepth 20000 in
theorem okX8_owner : MdOk mX8_owner := ⟨tq3 72 rfl rfl, ⟨by decide, by decide⟩, tq1 1 rfl rfl⟩
theorem npX8_owner : npar mX8_owner 2 := by unfold npar; decide +kernel
set_option maxRecDepth 20000 in
theorem okX8_chain : MdOk mX8_chain := ⟨tq3 85 rfl rfl, ⟨by decide, by decide⟩, tq1 1 rfl rfl⟩
theorem npX8_chain : npar mX8_chain 3 := by unfold npar; decide +kernel
set_option maxRecDepth 20000 in
theorem okX8_hand : MdOk mX8_hand := ⟨tq3 90 rfl rfl, ⟨by decide, by decide⟩, tq1 1 rfl rfl⟩
theorem npX8_hand : npar mX8_hand 2 := by unfold npar; decide +kernel
set_option maxRecDepth 20000 in
theorem okX8_owners : MdOk mX8_owners := ⟨tq3 94 rfl rfl, ⟨by decide, by decide⟩, tq1 1 rfl rfl⟩
theorem npX8_owners : npar mX8_owners 1 := by unfold npar; decide +kernel
set_option maxRecDepth 20000 in
theorem okX8_sure : MdOk mX8_sure := ⟨tq3 102 rfl rfl, ⟨by decide, by decide⟩, tq1 1 rfl rfl⟩
theorem npX8_sure : npar mX8_sure 1 := by unfold npar; decide +kernel
set_option maxRecDepth 20000 in
theorem okX8_chance : MdOk mX8_chance := ⟨tq3 106 rfl rfl, ⟨by decide, by decide⟩, tq1 1 rfl rfl⟩
theorem npX8_chance : npar mX8_chance 2 := by unfold npar; decide +kernel
set_option maxRecDepth 20000 in
theorem okX8_least : MdOk mX8_least := ⟨tq3 110 rfl rfl, ⟨by decide, by decide⟩, tq1 1 rfl rfl⟩
theorem npX8_least : npar mX8_least 2 := by unfold npar; decide +kernel
set_option maxRecDepth 20000 in
theorem okX8_price : MdOk mX8_price := ⟨tq3 114 rfl rfl, ⟨by decide, by decide⟩, tq1 1 rfl rfl⟩
theorem npX8_price : npar mX8_price 2 := by unfold npar; decide +kernel
set_option maxRecDepth 20000 in
theorem okX8_worth : MdOk mX8_worth := ⟨tq3 118 rfl rfl, ⟨by decide, by decide⟩, tq1 1 rfl rfl⟩
theorem npX8_worth : npar mX8_worth 2 := by unfold npar; decide +kernel
set_option maxRecDepth 20000 in
theorem okX8_value : MdOk mX8_value := ⟨tq3 126 rfl rfl, ⟨by decide, by decide⟩, tq1 1 rfl rfl⟩
theorem npX8_value : npar mX8_value 1 := by unfold npar; decide +kernel
set_option maxRecDepth 20000 in
theorem okX8_best : MdOk mX8_best := ⟨tq3 139 rfl rfl, ⟨by decide, by decide⟩, tq1 1 rfl rfl⟩
theorem npX8_best : npar mX8_best 2 := by unfold npar; decide +kernel
set_option maxRecDepth 20000 in
theorem okX8_hope : MdOk mX8_hope := ⟨tq3 143 rfl rfl, ⟨by decide, by decide⟩, tq1 1 rfl rfl⟩
theorem npX8_hope : npar mX8_hope 1 := by unfold npar; decide +kernel
set_option maxRecDepth 20000 in
theorem okX8_rounds : MdOk mX8_rounds := ⟨tq3 148 rfl rfl, ⟨by decide, by decide⟩, tq1 1 rfl rfl⟩
theorem npX8_rounds : npar mX8_rounds 2 := by unfold npar; decide +kernel
set_option maxRecDepth 20000 in
theorem okX8_lays : MdOk mX8_lays := ⟨tq3 193 rfl rfl, ⟨by decide, by decide⟩, tq1 1 rfl rfl⟩
theorem npX8_lays : npar mX8_lays 2 := by unfold npar; decide +kernel
set_option maxRecDepth 20000 in
theorem okX8_judge : MdOk mX8_judge := ⟨tq3 202 rfl rfl, ⟨by decide, by decide⟩, tq1 1 rfl rfl⟩
theorem npX8_judge : npar mX8_judge 2 := by unfold npar; decide +kernel
set_option maxRecDepth 20000 in
theorem okX8_feed : MdOk mX8_feed := ⟨tq3 206 rfl rfl, ⟨by decide, by decide⟩, tq1 1 rfl rfl⟩
theorem npX8_feed : npar mX8_feed 2 := by unfold npar; decide +kernel
set_option maxRecDepth 20000 in
theorem okX8_wipe : MdOk mX8_wipe := ⟨tq3 214 rfl rfl, ⟨by decide, by decide⟩, tq1 1 rfl rfl⟩
theorem npX8_wipe : npar mX8_wipe 0 := by unfold npar; decide +kernel
set_option maxRecDepth 20000 in
theorem okX8_sheet : MdOk mX8_sheet := ⟨tq3 218 rfl rfl, ⟨by decide, by decide⟩, tq1 1 rfl rfl⟩
theorem npX8_sheet : npar mX8_sheet 3 := by unfold npar; decide +kernel
set_option maxRecDepth 20000 in
theorem okX8_write : MdOk mX8_write := ⟨tq3 226 rfl rfl, ⟨by decide, by decide⟩, tq1 1 rfl rfl⟩
theorem npX8_write : npar mX8_write 3 := by unfold npar; decide +kernel
set_option maxRecDepth 20000 in
theorem okX8_item : MdOk mX8_item := ⟨tq3 230 rfl rfl, ⟨by decide, by decide⟩, tq1 1 rfl rfl⟩
theorem npX8_item : npar mX8_item 2 := by unfold npar; decide +kernel
set_option maxRecDepth 20000 in
theorem okX8_copy : MdOk mX8_copy := ⟨tq3 234 rfl rfl, ⟨by decide, by decide⟩, tq1 1 rfl rfl⟩
theorem npX8_copy : npar mX8_copy 5 := by unfold npar; decide +kernel
set_option maxRecDepth 20000 in
theorem okX8_hold : MdOk mX8_hold := ⟨tq4 5 rfl rfl, ⟨by decide, by decide⟩, tq1 1 rfl rfl⟩
theorem npX8_hold : npar mX8_hold 2 := by unfold npar; decide +kernel
set_option maxRecDepth 20000 in
theorem okX8_taken : MdOk mX8_taken := ⟨tq4 9 rfl rfl, ⟨by decide, by decide⟩, tq1 1 rfl rfl⟩
theorem npX8_taken : npar mX8_taken 2 := by unfold npar; decide +kernel
set_option maxRecDepth 20000 in
theorem okX8_image : MdOk mX8_image := ⟨tq4 22 rfl rfl, ⟨by decide, by decide⟩, tq1 1 rfl rfl⟩
theorem npX8_image : npar mX8_image 0 := by unfold npar; decide +kernel
set_option maxRecDepth 20000 in
theorem okX8_back : MdOk mX8_back := ⟨tq4 31 rfl rfl, ⟨by decide, by decide⟩, tq1 1 rfl rfl⟩
theorem npX8_back : npar mX8_back 0 := by unfold npar; decide +kernel
set_option maxRecDepth 20000 in
theorem okX8_seed : MdOk mX8_seed := ⟨tq4 35 rfl rfl, ⟨by decide, by decide⟩, tq1 1 rfl rfl⟩
theorem npX8_seed : npar mX8_seed 1 := by unfold npar; decide +kernel
set_option maxRecDepth 20000 in
theorem okX8_count : MdOk mX8_count := ⟨tq4 39 rfl rfl, ⟨by decide, by decide⟩, tq1 1 rfl rfl⟩
theorem npX8_count : npar mX8_count 1 := by unfold npar; decide +kernel
set_option maxRecDepth 20000 in
theorem okX8_status : MdOk mX8_status := ⟨tq4 47 rfl rfl, ⟨by decide, by decide⟩, tq1 1 rfl rfl⟩
theorem npX8_status : npar mX8_status 1 := by unfold npar; decide +kernel
set_option maxRecDepth 20000 in
theorem okX8_isOutside : MdOk mX8_isOutside := ⟨tq1 186 rfl rfl, ⟨by decide, by decide⟩, tq1 1 rfl rfl⟩
theorem npX8_isOutside : npar mX8_isOutside 2 := by unfold npar; decide +kernel
set_option maxRecDepth 20000 in
theorem okX8_areNoPair : MdOk mX8_areNoPair := ⟨tq1 235 rfl rfl, ⟨by decide, by decide⟩, tq1 1 rfl rfl⟩
theorem npX8_areNoPair : npar mX8_areNoPair 2 := by unfold npar; decide +kernel
set_option maxRecDepth 20000 in
theorem okX8_placeUnder : MdOk mX8_placeUnder := ⟨tq1 200 rfl rfl, ⟨by decide, by decide⟩, tq1 1 rfl rfl⟩
theorem npX8_placeUnder : npar mX8_placeUnder 2 := by unfold npar; decide +kernel
set_option maxRecDepth 20000 in
theorem okX8_isUnder : MdOk mX8_isUnder := ⟨tq4 12 rfl rfl, ⟨by decide, by decide⟩, tq1 1 rfl rfl⟩
theorem npX8_isUnder : npar mX8_isUnder 2 := by unfold npar; decide +kernel
set_option maxRecDepth 20000 in
theorem okX8_finding : MdOk mX8_finding := ⟨tq1 190 rfl rfl, ⟨by decide, by decide⟩, tq1 1 rfl rfl⟩
theorem npX8_finding : npar mX8_finding 1 := by unfold npar; decide +kernel
set_option maxRecDepth 20000 in
theorem okX8_longFinding : MdOk mX8_longFinding := ⟨tq3 130 rfl rfl, ⟨by decide, by decide⟩, tq1 1 rfl rfl⟩
theorem npX8_longFinding : npar mX8_longFinding 1 := by unfold npar; decide +kernel
set_option maxRecDepth 20000 in
theorem okX8_enter : MdOk mX8_enter := ⟨tq2 38 rfl rfl, ⟨by decide, by decide⟩, tq1 1 rfl rfl⟩
theorem npX8_enter : npar mX8_enter 1 := by unfold npar; decide +kernel
set_option maxRecDepth 20000 in
theorem okX8_takes : MdOk mX8_takes := ⟨tq2 42 rfl rfl, ⟨by decide, by decide⟩, tq1 1 rfl rfl⟩
theorem npX8_takes : npar mX8_takes 1 := by unfold npar; decide +kernel
set_option maxRecDepth 20000 in
theorem okX8_clashesUnder : MdOk mX8_clashesUnder := ⟨tq2 52 rfl rfl, ⟨by decide, by decide⟩, tq1 1 rfl rfl⟩
theorem npX8_clashesUnder : npar mX8_clashesUnder 2 := by unfold npar; decide +kernel
set_option maxRecDepth 20000 in
theorem okX8_settleAll : MdOk mX8_settleAll := ⟨tq3 35 rfl rfl, ⟨by decide, by decide⟩, tq1 1 rfl rfl⟩
theorem npX8_settleAll : npar mX8_settleAll 0 := by unfold npar; decide +kernel
set_option maxRecDepth 20000 in
theorem okX8_countConveying : MdOk mX8_countConveying := ⟨tq3 44 rfl rfl, ⟨by decide, by decide⟩, tq1 1 rfl rfl⟩
theorem npX8_countConveying : npar mX8_countConveying 1 := by unfold npar; decide +kernel
set_option maxRecDepth 20000 in
theorem okX8_everOwners : MdOk mX8_everOwners := ⟨tq3 98 rfl rfl, ⟨by decide, by decide⟩, tq1 1 rfl rfl⟩
theorem npX8_everOwners : npar mX8_everOwners 1 := by unfold npar; decide +kernel
set_option maxRecDepth 20000 in
theorem okX8_worthUnder : MdOk mX8_worthUnder := ⟨tq3 122 rfl rfl, ⟨by decide, by decide⟩, tq1 1 rfl rfl⟩
theorem npX8_worthUnder : npar mX8_worthUnder 2 := by unfold npar; decide +kernel
set_option maxRecDepth 20000 in
theorem okX8_worthOver : MdOk mX8_worthOver := ⟨tq3 135 rfl rfl, ⟨by decide, by decide⟩, tq1 1 rfl rfl⟩
theorem npX8_worthOver : npar mX8_worthOver 3 := by unfold npar; decide +kernel
set_option maxRecDepth 20000 in
theorem okX8_tellsEachDeal : MdOk mX8_tellsEachDeal := ⟨tq3 156 rfl rfl, ⟨by decide, by decide⟩, tq1 1 rfl rfl⟩
theorem npX8_tellsEachDeal : npar mX8_tellsEachDeal 1 := by unfold npar; decide +kernel
set_option maxRecDepth 20000 in
theorem okX8_countRounds : MdOk mX8_countRounds := ⟨tq3 160 rfl rfl, ⟨by decide, by decide⟩, tq1 1 rfl rfl⟩
theorem npX8_countRounds : npar mX8_countRounds 2 := by unfold npar; decide +kernel
set_option maxRecDepth 20000 in
theorem okX8_goesOver : MdOk mX8_goesOver := ⟨tq3 183 rfl rfl, ⟨by decide, by decide⟩, tq1 1 rfl rfl⟩
theorem npX8_goesOver : npar mX8_goesOver 2 := by unfold npar; decide +kernel
set_option maxRecDepth 20000 in
theorem okX8_countHeld : MdOk mX8_countHeld := ⟨tq4 43 rfl rfl, ⟨by decide, by decide⟩, tq1 1 rfl rfl⟩
theorem npX8_countHeld : npar mX8_countHeld 0 := by unfold npar; decide +kernel
set_option maxRecDepth 20000 in
theorem okX9_init : MdOk mX9_init := ⟨tq4 52 rfl rfl, ⟨by decide, by decide⟩, tq1 8 rfl rfl⟩
theorem npX9_init : npar mX9_init 0 := by unfold npar; decide +kernel
set_option maxRecDepth 20000 in
theorem okX9_in : MdOk mX9_in := ⟨tq4 180 rfl rfl, ⟨by decide, by decide⟩, tq1 8 rfl rfl⟩
theorem npX9_in : npar mX9_in 3 := by unfold npar; decide +kernel
set_option maxRecDepth 20000 in
theorem okX9_finds : MdOk mX9_finds := ⟨tq4 188 rfl rfl, ⟨by decide, by decide⟩, tq1 8 rfl rfl⟩
theorem npX9_finds : npar mX9_finds 1 := by unfold npar; decide +kernel
set_option maxRecDepth 20000 in
theorem okX9_findsFar : MdOk mX9_findsFar := ⟨tq5 170 rfl rfl, ⟨by decide, by decide⟩, tq1 8 rfl rfl⟩
theorem npX9_findsFar : npar mX9_findsFar 1 := by unfold npar; decide +kernel
set_option maxRecDepth 20000 in
theorem okX9_clubAt : MdOk mX9_clubAt := ⟨tq4 184 rfl rfl, ⟨by decide, by decide⟩, tq1 8 rfl rfl⟩
theorem npX9_clubAt : npar mX9_clubAt 2 := by unfold npar; decide +kernel
set_option maxRecDepth 20000 in
theorem okX9_orderIn : MdOk mX9_orderIn := ⟨tq4 210 rfl rfl, ⟨by decide, by decide⟩, tq1 8 rfl rfl⟩
theorem npX9_orderIn : npar mX9_orderIn 2 := by unfold npar; decide +kernel
set_option maxRecDepth 20000 in
theorem okX9_placeIn : MdOk mX9_placeIn := ⟨tq4 207 rfl rfl, ⟨by decide, by decide⟩, tq1 8 rfl rfl⟩
theorem npX9_placeIn : npar mX9_placeIn 3 := by unfold npar; decide +kernel
set_option maxRecDepth 20000 in
theorem okX9_placeOf : MdOk mX9_placeOf := ⟨tq4 204 rfl rfl, ⟨by decide, by decide⟩, tq1 8 rfl rfl⟩
theorem npX9_placeOf : npar mX9_placeOf 2 := by unfold npar; decide +kernel
set_option maxRecDepth 20000 in
theorem okX9_isStanding : MdOk mX9_isStanding := ⟨tq4 196 rfl rfl, ⟨by decide, by decide⟩, tq1 8 rfl rfl⟩
theorem npX9_isStanding : npar mX9_isStanding 1 := by unfold npar; decide +kernel
set_option maxRecDepth 20000 in
theorem okX9_isPick : MdOk mX9_isPick := ⟨tq4 200 rfl rfl, ⟨by decide, by decide⟩, tq1 8 rfl rfl⟩
theorem npX9_isPick : npar mX9_isPick 1 := by unfold npar; decide +kernel
set_option maxRecDepth 20000 in
theorem okX9_isClub : MdOk mX9_isClub := ⟨tq5 2 rfl rfl, ⟨by decide, by decide⟩, tq1 8 rfl rfl⟩
theorem npX9_isClub : npar mX9_isClub 1 := by unfold npar; decide +kernel
set_option maxRecDepth 20000 in
theorem okX9_openFrom : MdOk mX9_openFrom := ⟨tq4 228 rfl rfl, ⟨by decide, by decide⟩, tq1 8 rfl rfl⟩
theorem npX9_openFrom : npar mX9_openFrom 0 := by unfold npar; decide +kernel
set_option maxRecDepth 20000 in
theorem okX9_openMany : MdOk mX9_openMany := ⟨tq4 232 rfl rfl, ⟨by decide, by decide⟩, tq1 8 rfl rfl⟩
theorem npX9_openMany : npar mX9_openMany 0 := by unfold npar; decide +kernel
set_option maxRecDepth 20000 in
theorem okX9_isOpen : MdOk mX9_isOpen := ⟨tq5 109 rfl rfl, ⟨by decide, by decide⟩, tq1 8 rfl rfl⟩
theorem npX9_isOpen : npar mX9_isOpen 1 := by unfold npar; decide +kernel
set_option maxRecDepth 20000 in
theorem okX9_order : MdOk mX9_order := ⟨tq4 176 rfl rfl, ⟨by decide, by decide⟩, tq1 8 rfl rfl⟩
theorem npX9_order : npar mX9_order 2 := by unfold npar; decide +kernel
set_option maxRecDepth 20000 in
theorem okX9_place : MdOk mX9_place := ⟨tq4 193 rfl rfl, ⟨by decide, by decide⟩, tq1 8 rfl rfl⟩
theorem npX9_place : npar mX9_place 2 := by unfold npar; decide +kernel
set_option maxRecDepth 20000 in
theorem okX9_fall : MdOk mX9_fall := ⟨tq4 214 rfl rfl, ⟨by decide, by decide⟩, tq1 8 rfl rfl⟩
theorem npX9_fall : npar mX9_fall 1 := by unfold npar; decide +kernel
set_option maxRecDepth 20000 in
theorem okX9_fallen : MdOk mX9_fallen := ⟨tq4 218 rfl rfl, ⟨by decide, by decide⟩, tq1 8 rfl rfl⟩
theorem npX9_fallen : npar mX9_fallen 1 := by unfold npar; decide +kernel
set_option maxRecDepth 20000 in
theorem okX9_draw : MdOk mX9_draw := ⟨tq4 223 rfl rfl, ⟨by decide, by decide⟩, tq1 8 rfl rfl⟩
theorem npX9_draw : npar mX9_draw 0 := by unfold npar; decide +kernel
set_option maxRecDepth 20000 in
theorem okX9_its : MdOk mX9_its := ⟨tq5 38 rfl rfl, ⟨by decide, by decide⟩, tq1 8 rfl rfl⟩
theorem npX9_its : npar mX9_its 2 := by unfold npar; decide +kernel
set_option maxRecDepth 20000 in
theorem okX9_isHolding : MdOk mX9_isHolding := ⟨tq5 30 rfl rfl, ⟨by decide, by decide⟩, tq1 8 rfl rfl⟩
theorem npX9_isHolding : npar mX9_isHolding 2 := by unfold npar; decide +kernel
set_option maxRecDepth 20000 in
theorem okX9_goesOn : MdOk mX9_goesOn := ⟨tq5 34 rfl rfl, ⟨by decide, by decide⟩, tq1 8 rfl rfl⟩
theorem npX9_goesOn : npar mX9_goesOn 2 := by unfold npar; decide +kernel
set_option maxRecDepth 20000 in
theorem okX9_rolled : MdOk mX9_rolled := ⟨tq5 41 rfl rfl, ⟨by decide, by decide⟩, tq1 8 rfl rfl⟩
theorem npX9_rolled : npar mX9_rolled 3 := by unfold npar; decide +kernel
set_option maxRecDepth 20000 in
theorem okX9_conveyed : MdOk mX9_conveyed := ⟨tq5 26 rfl rfl, ⟨by decide, by decide⟩, tq1 8 rfl rfl⟩
theorem npX9_conveyed : npar mX9_conveyed 3 := by unfold npar; decide +kernel
set_option maxRecDepth 20000 in
theorem okX9_isLapsing : MdOk mX9_isLapsing := ⟨tq5 77 rfl rfl, ⟨by decide, by decide⟩, tq1 8 rfl rfl⟩
theorem npX9_isLapsing : npar mX9_isLapsing 2 := by unfold npar; decide +kernel
set_option maxRecDepth 20000 in
theorem okX9_laysOut : MdOk mX9_laysOut := ⟨tq5 22 rfl rfl, ⟨by decide, by decide⟩, tq1 8 rfl rfl⟩
theorem npX9_laysOut : npar mX9_laysOut 1 := by unfold npar; decide +kernel
set_option maxRecDepth 20000 in
theorem okX9_goesTo : MdOk mX9_goesTo := ⟨tq5 49 rfl rfl, ⟨by decide, by decide⟩, tq1 8 rfl rfl⟩
theorem npX9_goesTo : npar mX9_goesTo 2 := by unfold npar; decide +kernel
set_option maxRecDepth 20000 in
theorem okX9_chains : MdOk mX9_chains := ⟨tq5 53 rfl rfl, ⟨by decide, by decide⟩, tq1 8 rfl rfl⟩
theorem npX9_chains : npar mX9_chains 1 := by unfold npar; decide +kernel
set_option maxRecDepth 20000 in
theorem okX9_clashOf : MdOk mX9_clashOf := ⟨tq5 45 rfl rfl, ⟨by decide, by decide⟩, tq1 8 rfl rfl⟩
theorem npX9_clashOf : npar mX9_clashOf 1 := by unfold npar; decide +kernel
set_option maxRecDepth 20000 in
theorem okX9_isClashing : MdOk mX9_isClashing := ⟨tq5 18 rfl rfl, ⟨by decide, by decide⟩, tq1 8 rfl rfl⟩
theorem npX9_isClashing : npar mX9_isClashing 0 := by unfold npar; decide +kernel
set_option maxRecDepth 20000 in
theorem okX9_lays : MdOk mX9_lays := ⟨tq5 14 rfl rfl, ⟨by decide, by decide⟩, tq1 8 rfl rfl⟩
theorem npX9_lays : npar mX9_lays 7 := by unfold npar; decide +kernel
set_option maxRecDepth 20000 in
theorem okX9_holdsAlways : MdOk mX9_holdsAlways := ⟨tq5 10 rfl rfl, ⟨by decide, by decide⟩, tq1 8 rfl rfl⟩
theorem npX9_holdsAlways : npar mX9_holdsAlways 0 := by unfold npar; decide +kernel
set_option maxRecDepth 20000 in
theorem okX9_comes : MdOk mX9_comes := ⟨tq5 6 rfl rfl, ⟨by decide, by decide⟩, tq1 8 rfl rfl⟩
theorem npX9_comes : npar mX9_comes 6 := by unfold npar; decide +kernel
set_option maxRecDepth 20000 in
theorem okX9_areTwo : MdOk mX9_areTwo := ⟨tq4 239 rfl rfl, ⟨by decide, by decide⟩, tq1 8 rfl rfl⟩
theorem npX9_areTwo : npar mX9_areTwo 2 := by unfold npar; decide +kernel
set_option maxRecDepth 20000 in
theorem okX9_sale : MdOk mX9_sale := ⟨tq4 236 rfl rfl, ⟨by decide, by decide⟩, tq1 8 rfl rfl⟩
theorem npX9_sale : npar mX9_sale 5 := by unfold npar; decide +kernel
set_option maxRecDepth 20000 in
theorem okX9_areOfYear : MdOk mX9_areOfYear := ⟨tq5 60 rfl rfl, ⟨by decide, by decide⟩, tq1 8 rfl rfl⟩
theorem npX9_areOfYear : npar mX9_areOfYear 2 := by unfold npar; decide +kernel
set_option maxRecDepth 20000 in
theorem okX9_swap : MdOk mX9_swap := ⟨tq5 57 rfl rfl, ⟨by decide, by decide⟩, tq1 8 rfl rfl⟩
theorem npX9_swap : npar mX9_swap 5 := by unfold npar; decide +kernel
set_option maxRecDepth 20000 in
theorem okX9_isDeal : MdOk mX9_isDeal := ⟨tq5 68 rfl rfl, ⟨by decide, by decide⟩, tq1 8 rfl rfl⟩
theorem npX9_isDeal : npar mX9_isDeal 1 := by unfold npar; decide +kernel
set_option maxRecDepth 20000 in
theorem okX9_standing : MdOk mX9_standing := ⟨tq5 73 rfl rfl, ⟨by decide, by decide⟩, tq1 8 rfl rfl⟩
theorem npX9_standing : npar mX9_standing 1 := by unfold npar; decide +kernel
set_option maxRecDepth 20000 in
theorem okX9_of : MdOk mX9_of := ⟨tq5 64 rfl rfl, ⟨by decide, by decide⟩, tq1 8 rfl rfl⟩
theorem npX9_of : npar mX9_of 2 := by unfold npar; decide +kernel
set_option maxRecDepth 20000 in
theorem okX9_holds : MdOk mX9_holds := ⟨tq5 81 rfl rfl, ⟨by decide, by decide⟩, tq1 8 rfl rfl⟩
theorem npX9_holds : npar mX9_holds 2 := by unfold npar; decide +kernel
set_option maxRecDepth 20000 in
theorem okX9_conveys : MdOk mX9_conveys := ⟨tq5 85 rfl rfl, ⟨by decide, by decide⟩, tq1 8 rfl rfl⟩
theorem npX9_conveys : npar mX9_conveys 3 := by unfold npar; decide +kernel
set_option maxRecDepth 20000 in
theorem okX9_drop : MdOk mX9_drop := ⟨tq5 89 rfl rfl, ⟨by decide, by decide⟩, tq1 8 rfl rfl⟩
theorem npX9_drop : npar mX9_drop 0 := by unfold npar; decide +kernel
set_option maxRecDepth 20000 in
theorem okX9_moves : MdOk mX9_moves := ⟨tq5 97 rfl rfl, ⟨by decide, by decide⟩, tq1 8 rfl rfl⟩
theorem npX9_moves : npar mX9_moves 2 := by unfold npar; decide +kernel
set_option maxRecDepth 20000 in
theorem okX9_prune : MdOk mX9_prune := ⟨tq5 93 rfl rfl, ⟨by decide, by decide⟩, tq1 8 rfl rfl⟩
theorem npX9_prune : npar mX9_prune 0 := by unfold npar; decide +kernel
set_option maxRecDepth 20000 in
theorem okX9_clash : MdOk mX9_clash := ⟨tq5 101 rfl rfl, ⟨by decide, by decide⟩, tq1 8 rfl rfl⟩
theorem npX9_clash : npar mX9_clash 1 := by unfold npar; decide +kernel
set_option maxRecDepth 20000 in
theorem okX9_ownerOf : MdOk mX9_ownerOf := ⟨tq5 117 rfl rfl, ⟨by decide, by decide⟩, tq1 8 rfl rfl⟩
theorem npX9_ownerOf : npar mX9_ownerOf 1 := by unfold npar; decide +kernel
set_option maxRecDepth 20000 in
theorem okX9_ownerUnder : MdOk mX9_ownerUnder := ⟨tq5 113 rfl rfl, ⟨by decide, by decide⟩, tq1 8 rfl rfl⟩
theorem npX9_ownerUnder : npar mX9_ownerUnder 2 := by unfold npar; decide +kernel
set_option maxRecDepth 20000 in
theorem okX9_owner : MdOk mX9_owner := ⟨tq5 105 rfl rfl, ⟨by decide, by decide⟩, tq1 8 rfl rfl⟩
theorem npX9_owner : npar mX9_owner 2 := by unfold npar; decide +kernel
set_option maxRecDepth 20000 in
theorem okX9_chain : MdOk mX9_chain := ⟨tq5 121 rfl rfl, ⟨by decide, by decide⟩, tq1 8 rfl rfl⟩
theorem npX9_chain : npar mX9_chain 3 := by unfold npar; decide +kernel
set_option maxRecDepth 20000 in
theorem okX9_hand : MdOk mX9_hand := ⟨tq5 125 rfl rfl, ⟨by decide, by decide⟩, tq1 8 rfl rfl⟩
theorem npX9_hand : npar mX9_hand 2 := by unfold npar; decide +kernel
set_option maxRecDepth 20000 in
theorem okX9_chanceOf : MdOk mX9_chanceOf := ⟨tq5 133 rfl rfl, ⟨by decide, by decide⟩, tq1 8 rfl rfl⟩
theorem npX9_chanceOf : npar mX9_chanceOf 2 := by unfold npar; decide +kernel
set_option maxRecDepth 20000 in
theorem okX9_owners : MdOk mX9_owners := ⟨tq5 129 rfl rfl, ⟨by decide, by decide⟩, tq1 8 rfl rfl⟩
theorem npX9_owners : npar mX9_owners 1 := by unfold npar; decide +kernel
set_option maxRecDepth 20000 in
theorem okX9_sure : MdOk mX9_sure := ⟨tq5 137 rfl rfl, ⟨by decide, by decide⟩, tq1 8 rfl rfl⟩
theorem npX9_sure : npar mX9_sure 1 := by unfold npar; decide +kernel
set_option maxRecDepth 20000 in
theorem okX9_chance : MdOk mX9_chance := ⟨tq5 141 rfl rfl, ⟨by decide, by decide⟩, tq1 8 rfl rfl⟩
theorem npX9_chance : npar mX9_chance 2 := by unfold npar; decide +kernel
set_option maxRecDepth 20000 in
theorem okX9_least : MdOk mX9_least := ⟨tq5 145 rfl rfl, ⟨by decide, by decide⟩, tq1 8 rfl rfl⟩
theorem npX9_least : npar mX9_least 2 := by unfold npar; decide +kernel
set_option maxRecDepth 20000 in
theorem okX9_price : MdOk mX9_price := ⟨tq5 149 rfl rfl, ⟨by decide, by decide⟩, tq1 8 rfl rfl⟩
theorem npX9_price : npar mX9_price 2 := by unfold npar; decide +kernel
set_option maxRecDepth 20000 in
theorem okX9_worthOf : MdOk mX9_worthOf := ⟨tq5 158 rfl rfl, ⟨by decide, by decide⟩, tq1 8 rfl rfl⟩
theorem npX9_worthOf : npar mX9_worthOf 2 := by unfold npar; decide +kernel
set_option maxRecDepth 20000 in
theorem okX9_worth : MdOk mX9_worth := ⟨tq5 154 rfl rfl, ⟨by decide, by decide⟩, tq1 8 rfl rfl⟩
theorem npX9_worth : npar mX9_worth 2 := by unfold npar; decide +kernel
set_option maxRecDepth 20000 in
theorem okX9_valueFrom : MdOk mX9_valueFrom := ⟨tq5 166 rfl rfl, ⟨by decide, by decide⟩, tq1 8 rfl rfl⟩
theorem npX9_valueFrom : npar mX9_valueFrom 3 := by unfold npar; decide +kernel
set_option maxRecDepth 20000 in
theorem okX9_value : MdOk mX9_value := ⟨tq5 162 rfl rfl, ⟨by decide, by decide⟩, tq1 8 rfl rfl⟩
theorem npX9_value : npar mX9_value 1 := by unfold npar; decide +kernel
set_option maxRecDepth 20000 in
theorem okX9_best : MdOk mX9_best := ⟨tq5 175 rfl rfl, ⟨by decide, by decide⟩, tq1 8 rfl rfl⟩
theorem npX9_best : npar mX9_best 2 := by unfold npar; decide +kernel
set_option maxRecDepth 20000 in
theorem okX9_hope : MdOk mX9_hope := ⟨tq5 179 rfl rfl, ⟨by decide, by decide⟩, tq1 8 rfl rfl⟩
theorem npX9_hope : npar mX9_hope 1 := by unfold npar; decide +kernel
set_option maxRecDepth 20000 in
theorem okX9_feed : MdOk mX9_feed := ⟨tq5 184 rfl rfl, ⟨by decide, by decide⟩, tq1 8 rfl rfl⟩
theorem npX9_feed : npar mX9_feed 2 := by unfold npar; decide +kernel
set_option maxRecDepth 20000 in
theorem okX9_wipe : MdOk mX9_wipe := ⟨tq5 189 rfl rfl, ⟨by decide, by decide⟩, tq1 8 rfl rfl⟩
theorem npX9_wipe : npar mX9_wipe 0 := by unfold npar; decide +kernel
set_option maxRecDepth 20000 in
theorem okX9_byteAt : MdOk mX9_byteAt := ⟨tq5 205 rfl rfl, ⟨by decide, by decide⟩, tq1 8 rfl rfl⟩
theorem npX9_byteAt : npar mX9_byteAt 1 := by unfold npar; decide +kernel
set_option maxRecDepth 20000 in
theorem okX9_isLetter : MdOk mX9_isLetter := ⟨tq5 208 rfl rfl, ⟨by decide, by decide⟩, tq1 8 rfl rfl⟩
theorem npX9_isLetter : npar mX9_isLetter 1 := by unfold npar; decide +kernel
set_option maxRecDepth 20000 in
theorem okX9_isDigit : MdOk mX9_isDigit := ⟨tq5 213 rfl rfl, ⟨by decide, by decide⟩, tq1 8 rfl rfl⟩
theorem npX9_isDigit : npar mX9_isDigit 1 := by unfold npar; decide +kernel
set_option maxRecDepth 20000 in
theorem okX9_token : MdOk mX9_token := ⟨tq5 201 rfl rfl, ⟨by decide, by decide⟩, tq1 8 rfl rfl⟩
theorem npX9_token : npar mX9_token 0 := by unfold npar; decide +kernel
set_option maxRecDepth 20000 in
theorem okX9_must : MdOk mX9_must := ⟨tq5 227 rfl rfl, ⟨by decide, by decide⟩, tq1 8 rfl rfl⟩
theorem npX9_must : npar mX9_must 1 := by unfold npar; decide +kernel
set_option maxRecDepth 20000 in
theorem okX9_isWord : MdOk mX9_isWord := ⟨tq5 223 rfl rfl, ⟨by decide, by decide⟩, tq1 8 rfl rfl⟩
theorem npX9_isWord : npar mX9_isWord 1 := by unfold npar; decide +kernel
set_option maxRecDepth 20000 in
theorem okX9_takes : MdOk mX9_takes := ⟨tq5 239 rfl rfl, ⟨by decide, by decide⟩, tq1 8 rfl rfl⟩
theorem npX9_takes : npar mX9_takes 1 := by unfold npar; decide +kernel
set_option maxRecDepth 20000 in
theorem okX9_isSign : MdOk mX9_isSign := ⟨tq6 15 rfl rfl, ⟨by decide, by decide⟩, tq1 8 rfl rfl⟩
theorem npX9_isSign : npar mX9_isSign 1 := by unfold npar; decide +kernel
set_option maxRecDepth 20000 in
theorem okX9_numberHere : MdOk mX9_numberHere := ⟨tq5 235 rfl rfl, ⟨by decide, by decide⟩, tq1 8 rfl rfl⟩
theorem npX9_numberHere : npar mX9_numberHere 0 := by unfold npar; decide +kernel
set_option maxRecDepth 20000 in
theorem okX9_number : MdOk mX9_number := ⟨tq5 231 rfl rfl, ⟨by decide, by decide⟩, tq1 8 rfl rfl⟩
theorem npX9_number : npar mX9_number 2 := by unfold npar; decide +kernel
set_option maxRecDepth 20000 in
theorem okX9_codes : MdOk mX9_codes := ⟨tq6 19 rfl rfl, ⟨by decide, by decide⟩, tq1 8 rfl rfl⟩
theorem npX9_codes : npar mX9_codes 1 := by unfold npar; decide +kernel
set_option maxRecDepth 20000 in
theorem okX9_three : MdOk mX9_three := ⟨tq6 23 rfl rfl, ⟨by decide, by decide⟩, tq1 8 rfl rfl⟩
theorem npX9_three : npar mX9_three 2 := by unfold npar; decide +kernel
set_option maxRecDepth 20000 in
theorem okX9_factor : MdOk mX9_factor := ⟨tq6 11 rfl rfl, ⟨by decide, by decide⟩, tq1 8 rfl rfl⟩
theorem npX9_factor : npar mX9_factor 0 := by unfold npar; decide +kernel
set_option maxRecDepth 20000 in
theorem okX9_both : MdOk mX9_both := ⟨tq6 7 rfl rfl, ⟨by decide, by decide⟩, tq1 8 rfl rfl⟩
theorem npX9_both : npar mX9_both 0 := by unfold npar; decide +kernel
set_option maxRecDepth 20000 in
theorem okX9_either : MdOk mX9_either := ⟨tq6 3 rfl rfl, ⟨by decide, by decide⟩, tq1 8 rfl rfl⟩
theorem npX9_either : npar mX9_either 0 := by unfold npar; decide +kernel
set_option maxRecDepth 20000 in
theorem okX9_isTest : MdOk mX9_isTest := ⟨tq6 35 rfl rfl, ⟨by decide, by decide⟩, tq1 8 rfl rfl⟩
theorem npX9_isTest : npar mX9_isTest 2 := by unfold npar; decide +kernel
set_option maxRecDepth 20000 in
theorem okX9_isTrue : MdOk mX9_isTrue := ⟨tq6 31 rfl rfl, ⟨by decide, by decide⟩, tq1 8 rfl rfl⟩
theorem npX9_isTrue : npar mX9_isTrue 1 := by unfold npar; decide +kernel
set_option maxRecDepth 20000 in
theorem okX9_laysCondition : MdOk mX9_laysCondition := ⟨tq6 27 rfl rfl, ⟨by decide, by decide⟩, tq1 8 rfl rfl⟩
theorem npX9_laysCondition : npar mX9_laysCondition 0 := by unfold npar; decide +kernel
set_option maxRecDepth 20000 in
theorem okX9_isItemClashing : MdOk mX9_isItemClashing := ⟨tq5 219 rfl rfl, ⟨by decide, by decide⟩, tq1 8 rfl rfl⟩
theorem npX9_isItemClashing : npar mX9_isItemClashing 0 := by unfold npar; decide +kernel
set_option maxRecDepth 20000 in
theorem okX9_isTextClashing : MdOk mX9_isTextClashing := ⟨tq5 197 rfl rfl, ⟨by decide, by decide⟩, tq1 8 rfl rfl⟩
theorem npX9_isTextClashing : npar mX9_isTextClashing 0 := by unfold npar; decide +kernel
set_option maxRecDepth 20000 in
theorem okX9_text : MdOk mX9_text := ⟨tq5 193 rfl rfl, ⟨by decide, by decide⟩, tq1 8 rfl rfl⟩
theorem npX9_text : npar mX9_text 0 := by unfold npar; decide +kernel
set_option maxRecDepth 20000 in
theorem okX9_isSheet : MdOk mX9_isSheet := ⟨tq6 42 rfl rfl, ⟨by decide, by decide⟩, tq1 8 rfl rfl⟩
theorem npX9_isSheet : npar mX9_isSheet 1 := by unfold npar; decide +kernel
set_option maxRecDepth 20000 in
theorem okX9_sheet : MdOk mX9_sheet := ⟨tq6 39 rfl rfl, ⟨by decide, by decide⟩, tq1 8 rfl rfl⟩
theorem npX9_sheet : npar mX9_sheet 3 := by unfold npar; decide +kernel
set_option maxRecDepth 20000 in
theorem okX9_narrowed : MdOk mX9_narrowed := ⟨tq6 49 rfl rfl, ⟨by decide, by decide⟩, tq1 8 rfl rfl⟩
theorem npX9_narrowed : npar mX9_narrowed 2 := by unfold npar; decide +kernel
set_option maxRecDepth 20000 in
theorem okX9_write : MdOk mX9_write := ⟨tq6 46 rfl rfl, ⟨by decide, by decide⟩, tq1 8 rfl rfl⟩
theorem npX9_write : npar mX9_write 3 := by unfold npar; decide +kernel
set_option maxRecDepth 20000 in
theorem okX9_item : MdOk mX9_item := ⟨tq6 53 rfl rfl, ⟨by decide, by decide⟩, tq1 8 rfl rfl⟩
theorem npX9_item : npar mX9_item 2 := by unfold npar; decide +kernel
set_option maxRecDepth 20000 in
theorem okX9_copy : MdOk mX9_copy := ⟨tq6 57 rfl rfl, ⟨by decide, by decide⟩, tq1 8 rfl rfl⟩
theorem npX9_copy : npar mX9_copy 5 := by unfold npar; decide +kernel
set_option maxRecDepth 20000 in
theorem okX9_areAll : MdOk mX9_areAll := ⟨tq6 65 rfl rfl, ⟨by decide, by decide⟩, tq1 8 rfl rfl⟩
theorem npX9_areAll : npar mX9_areAll 1 := by unfold npar; decide +kernel
set_option maxRecDepth 20000 in
theorem okX9_goesBy : MdOk mX9_goesBy := ⟨tq6 73 rfl rfl, ⟨by decide, by decide⟩, tq1 8 rfl rfl⟩
theorem npX9_goesBy : npar mX9_goesBy 2 := by unfold npar; decide +kernel
set_option maxRecDepth 20000 in
theorem okX9_goesOver : MdOk mX9_goesOver := ⟨tq6 69 rfl rfl, ⟨by decide, by decide⟩, tq1 8 rfl rfl⟩
theorem npX9_goesOver : npar mX9_goesOver 1 := by unfold npar; decide +kernel
set_option maxRecDepth 20000 in
theorem okX9_rounds : MdOk mX9_rounds := ⟨tq6 61 rfl rfl, ⟨by decide, by decide⟩, tq1 8 rfl rfl⟩
theorem npX9_rounds : npar mX9_rounds 2 := by unfold npar; decide +kernel
set_option maxRecDepth 20000 in
theorem okX9_lays_ : MdOk mX9_lays_ := ⟨tq6 77 rfl rfl, ⟨by decide, by decide⟩, tq1 8 rfl rfl⟩
theorem npX9_lays_ : npar mX9_lays_ 2 := by unfold npar; decide +kernel
set_option maxRecDepth 20000 in
theorem okX9_judge : MdOk mX9_judge := ⟨tq6 81 rfl rfl, ⟨by decide, by decide⟩, tq1 8 rfl rfl⟩
theorem npX9_judge : npar mX9_judge 2 := by unfold npar; decide +kernel
set_option maxRecDepth 20000 in
theorem okX9_isSpot : MdOk mX9_isSpot := ⟨tq6 88 rfl rfl, ⟨by decide, by decide⟩, tq1 8 rfl rfl⟩
theorem npX9_isSpot : npar mX9_isSpot 1 := by unfold npar; decide +kernel
set_option maxRecDepth 20000 in
theorem okX9_hold : MdOk mX9_hold := ⟨tq6 85 rfl rfl, ⟨by decide, by decide⟩, tq1 8 rfl rfl⟩
theorem npX9_hold : npar mX9_hold 2 := by unfold npar; decide +kernel
set_option maxRecDepth 20000 in
theorem okX9_isUnder : MdOk mX9_isUnder := ⟨tq6 95 rfl rfl, ⟨by decide, by decide⟩, tq1 8 rfl rfl⟩
theorem npX9_isUnder : npar mX9_isUnder 2 := by unfold npar; decide +kernel
set_option maxRecDepth 20000 in
theorem okX9_taken : MdOk mX9_taken := ⟨tq6 92 rfl rfl, ⟨by decide, by decide⟩, tq1 8 rfl rfl⟩
theorem npX9_taken : npar mX9_taken 2 := by unfold npar; decide +kernel
set_option maxRecDepth 20000 in
theorem okX9_image : MdOk mX9_image := ⟨tq6 99 rfl rfl, ⟨by decide, by decide⟩, tq1 8 rfl rfl⟩
theorem npX9_image : npar mX9_image 0 := by unfold npar; decide +kernel
set_option maxRecDepth 20000 in
theorem okX9_back : MdOk mX9_back := ⟨tq6 103 rfl rfl, ⟨by decide, by decide⟩, tq1 8 rfl rfl⟩
theorem npX9_back : npar mX9_back 0 := by unfold npar; decide +kernel
set_option maxRecDepth 20000 in
theorem okX9_seed : MdOk mX9_seed := ⟨tq6 107 rfl rfl, ⟨by decide, by decide⟩, tq1 8 rfl rfl⟩
theorem npX9_seed : npar mX9_seed 1 := by unfold npar; decide +kernel
set_option maxRecDepth 20000 in
theorem okX9_count : MdOk mX9_count := ⟨tq6 111 rfl rfl, ⟨by decide, by decide⟩, tq1 8 rfl rfl⟩
theorem npX9_count : npar mX9_count 1 := by unfold npar; decide +kernel
set_option maxRecDepth 20000 in
theorem okX9_status : MdOk mX9_status := ⟨tq6 115 rfl rfl, ⟨by decide, by decide⟩, tq1 8 rfl rfl⟩
theorem npX9_status : npar mX9_status 1 := by unfold npar; decide +kernel
set_option maxRecDepth 20000 in
theorem okJ9_min_7cf53 : MdOk mJ9_min_7cf53 := ⟨tq2 190 rfl rfl, ⟨by decide, by decide⟩, tq1 14 rfl rfl⟩
theorem npJ9_min_7cf53 : npar mJ9_min_7cf53 2 := by unfold npar; decide +kernel
set_option maxRecDepth 20000 in
theorem okJ0_length_8abf5 : MdOk mJ0_length_8abf5 := ⟨tq2 131 rfl rfl, ⟨by decide, by decide⟩, tq1 10 rfl rfl⟩
theorem npJ0_length_8abf5 : npar mJ0_length_8abf5 0 := by unfold npar; decide +kernel
set_option maxRecDepth 20000 in
theorem okJ0_charAt_5068e : MdOk mJ0_charAt_5068e := ⟨tq2 141 rfl rfl, ⟨by decide, by decide⟩, tq1 10 rfl rfl⟩
theorem npJ0_charAt_5068e : npar mJ0_charAt_5068e 1 := by unfold npar; decide +kernel
set_option maxRecDepth 20000 in
theorem okJ0_coder_7d493 : MdOk mJ0_coder_7d493 := ⟨tq2 135 rfl rfl, ⟨by decide, by decide⟩, tq1 10 rfl rfl⟩
theorem npJ0_coder_7d493 : npar mJ0_coder_7d493 0 := by unfold npar; decide +kernel
set_option maxRecDepth 20000 in
theorem okJ0_isLatin1_aae02 : MdOk mJ0_isLatin1_aae02 := ⟨tq2 145 rfl rfl, ⟨by decide, by decide⟩, tq1 10 rfl rfl⟩
theorem npJ0_isLatin1_aae02 : npar mJ0_isLatin1_aae02 0 := by unfold npar; decide +kernel
set_option maxRecDepth 20000 in
theorem okJ0_checkIndex_df160 : MdOk mJ0_checkIndex_df160 := ⟨tq2 151 rfl rfl, ⟨by decide, by decide⟩, tq1 10 rfl rfl⟩
theorem npJ0_checkIndex_df160 : npar mJ0_checkIndex_df160 2 := by unfold npar; decide +kernel
set_option maxRecDepth 20000 in
theorem okJ1_charAt_3b067 : MdOk mJ1_charAt_3b067 := ⟨tq2 148 rfl rfl, ⟨by decide, by decide⟩, tq1 11 rfl rfl⟩
theorem npJ1_charAt_3b067 : npar mJ1_charAt_3b067 2 := by unfold npar; decide +kernel
set_option maxRecDepth 20000 in
theorem okJ2_getChar_3b067 : MdOk mJ2_getChar_3b067 := ⟨tq2 169 rfl rfl, ⟨by decide, by decide⟩, tq1 13 rfl rfl⟩
theorem npJ2_getChar_3b067 : npar mJ2_getChar_3b067 2 := by unfold npar; decide +kernel
set_option maxRecDepth 20000 in
theorem okJ2_length_9d52b : MdOk mJ2_length_9d52b := ⟨tq2 165 rfl rfl, ⟨by decide, by decide⟩, tq1 13 rfl rfl⟩
theorem npJ2_length_9d52b : npar mJ2_length_9d52b 1 := by unfold npar; decide +kernel
set_option maxRecDepth 20000 in
theorem okJ2_charAt_3b067 : MdOk mJ2_charAt_3b067 := ⟨tq2 159 rfl rfl, ⟨by decide, by decide⟩, tq1 13 rfl rfl⟩
theorem npJ2_charAt_3b067 : npar mJ2_charAt_3b067 2 := by unfold npar; decide +kernel
set_option maxRecDepth 20000 in
theorem okJ2_checkIndex_2214a : MdOk mJ2_checkIndex_2214a := ⟨tq2 162 rfl rfl, ⟨by decide, by decide⟩, tq1 13 rfl rfl⟩
theorem npJ2_checkIndex_2214a : npar mJ2_checkIndex_2214a 2 := by unfold npar; decide +kernel
set_option maxRecDepth 20000 in
theorem okJ3_checkIndex_8e157 : MdOk mJ3_checkIndex_8e157 := ⟨tq2 156 rfl rfl, ⟨by decide, by decide⟩, tq1 12 rfl rfl⟩
theorem npJ3_checkIndex_8e157 : npar mJ3_checkIndex_8e157 3 := by unfold npar; decide +kernel
-- calls
set_option maxRecDepth 20000 in
theorem kL_9 : CalI RL 9 mX8_init 0 := ⟨okX8_init, npX8_init, rfl, rfl, tq1 19 rfl rfl, tq1 20 rfl rfl⟩
set_option maxRecDepth 20000 in
theorem kX8_1 : .methodLink RX8 1 Lib.objectInit ∈ TT := tq1 22 rfl rfl
set_option maxRecDepth 20000 in
theorem kX8_9 : CalIN RX8 9 mX0_init 0 := ⟨okX0_init, npX0_init, rfl, rfl, (show Cond.methodLinkNest RX8 9 yX0_init RX8 ∈ nestW by simp [nestW]), tq1 28 rfl rfl⟩
set_option maxRecDepth 20000 in
theorem kX0_3 : .methodLink RX0 3 Lib.objectInit ∈ TT := tq1 30 rfl rfl
set_option maxRecDepth 20000 in
theorem kX8_22 : CalIN RX8 22 mX2_init 0 := ⟨okX2_init, npX2_init, rfl, rfl, (show Cond.methodLinkNest RX8 22 yX2_init RX8 ∈ nestW by simp [nestW]), tq1 65 rfl rfl⟩
set_option maxRecDepth 20000 in
theorem kX2_3 : .methodLink RX2 3 Lib.objectInit ∈ TT := tq1 67 rfl rfl
set_option maxRecDepth 20000 in
theorem kX8_29 : CalI RX8 29 mX3_init 0 := ⟨okX3_init, npX3_init, rfl, rfl, tq1 74 rfl rfl, tq1 75 rfl rfl⟩
set_option maxRecDepth 20000 in
theorem kX3_3 : .methodLink RX3 3 Lib.objectInit ∈ TT := tq1 77 rfl rfl
set_option maxRecDepth 20000 in
theorem kX3_11 : CalIN RX3 11 mX7_init 0 := ⟨okX7_init, npX7_init, rfl, rfl, (show Cond.methodLinkNest RX3 11 yX7_init RX8 ∈ nestW by simp [nestW]), tq1 81 rfl rfl⟩
set_option maxRecDepth 20000 in
theorem kX7_3 : .methodLink RX7 3 Lib.objectInit ∈ TT := tq1 83 rfl rfl
set_option maxRecDepth 20000 in
theorem kX3_30 : CalIN RX3 30 mX6_init 0 := ⟨okX6_init, npX6_init, rfl, rfl, (show Cond.methodLinkNest RX3 30 yX6_init RX8 ∈ nestW by simp [nestW]), tq1 104 rfl rfl⟩
set_option maxRecDepth 20000 in
theorem kX6_3 : .methodLink RX6 3 Lib.objectInit ∈ TT := tq1 106 rfl rfl
set_option maxRecDepth 20000 in
theorem kX8_53 : CalIN RX8 53 mX5_init 0 := ⟨okX5_init, npX5_init, rfl, rfl, (show Cond.methodLinkNest RX8 53 yX5_init RX8 ∈ nestW by simp [nestW]), tq1 131 rfl rfl⟩
set_option maxRecDepth 20000 in
theorem kX5_3 : .methodLink RX5 3 Lib.objectInit ∈ TT := tq1 133 rfl rfl
set_option maxRecDepth 20000 in
theorem kX8_54 : CalV RX8 54 2 mX2_startAll 2 := ⟨okX2_startAll, npX2_startAll, ⟨by decide, _, rfl, rfl⟩, tq1 147 rfl rfl, tq1 148 rfl rfl, tq1 149 rfl rfl⟩
set_option maxRecDepth 20000 in
theorem kL_13 : CalV RL 13 8 mX8_order 2 := ⟨okX8_order, npX8_order, ⟨by decide, _, rfl, rfl⟩, tq1 180 rfl rfl, tq1 181 rfl rfl, tq1 182 rfl rfl⟩
set_option maxRecDepth 20000 in
theorem kX8_58 : CalS RX8 58 mX8_isOutside 2 := ⟨okX8_isOutside, npX8_isOutside, tq1 184 rfl rfl, tq1 185 rfl rfl⟩
set_option maxRecDepth 20000 in
theorem kX8_62 : CalV RX8 62 8 mX8_finding 1 := ⟨okX8_finding, npX8_finding, ⟨by decide, _, rfl, rfl⟩, tq1 187 rfl rfl, tq1 189 rfl rfl, tq0 0 rfl rfl⟩
set_option maxRecDepth 20000 in
theorem kL_18 : CalV RL 18 8 mX8_place 2 := ⟨okX8_place, npX8_place, ⟨by decide, _, rfl, rfl⟩, tq1 194 rfl rfl, tq1 195 rfl rfl, tq1 196 rfl rfl⟩
set_option maxRecDepth 20000 in
theorem kX8_69 : CalS RX8 69 mX8_placeUnder 2 := ⟨okX8_placeUnder, npX8_placeUnder, tq1 198 rfl rfl, tq1 199 rfl rfl⟩
set_option maxRecDepth 20000 in
theorem kL_22 : CalV RL 22 8 mX8_fall 1 := ⟨okX8_fall, npX8_fall, ⟨by decide, _, rfl, rfl⟩, tq1 205 rfl rfl, tq1 206 rfl rfl, tq1 207 rfl rfl⟩
set_option maxRecDepth 20000 in
theorem kL_27 : CalV RL 27 8 mX8_fallen 1 := ⟨okX8_fallen, npX8_fallen, ⟨by decide, _, rfl, rfl⟩, tq1 209 rfl rfl, tq1 210 rfl rfl, tq1 211 rfl rfl⟩
set_option maxRecDepth 20000 in
theorem kL_31 : CalV RL 31 8 mX8_draw 0 := ⟨okX8_draw, npX8_draw, ⟨by decide, _, rfl, rfl⟩, tq1 213 rfl rfl, tq1 214 rfl rfl, tq1 215 rfl rfl⟩
set_option maxRecDepth 20000 in
theorem kX8_84 : CalV RX8 84 0 mX0_firstOpen 0 := ⟨okX0_firstOpen, npX0_firstOpen, ⟨by decide, _, rfl, rfl⟩, tq1 218 rfl rfl, tq1 219 rfl rfl, tq1 220 rfl rfl⟩
set_option maxRecDepth 20000 in
theorem kX8_88 : CalV RX8 88 0 mX0_openCount 0 := ⟨okX0_openCount, npX0_openCount, ⟨by decide, _, rfl, rfl⟩, tq1 223 rfl rfl, tq1 224 rfl rfl, tq1 225 rfl rfl⟩
set_option maxRecDepth 20000 in
theorem kL_36 : CalV RL 36 8 mX8_sale 5 := ⟨okX8_sale, npX8_sale, ⟨by decide, _, rfl, rfl⟩, tq1 229 rfl rfl, tq1 230 rfl rfl, tq1 231 rfl rfl⟩
set_option maxRecDepth 20000 in
theorem kX8_91 : CalS RX8 91 mX8_areNoPair 2 := ⟨okX8_areNoPair, npX8_areNoPair, tq1 233 rfl rfl, tq1 234 rfl rfl⟩
set_option maxRecDepth 20000 in
theorem kX8_94 : CalI RX8 94 mX1_init 7 := ⟨okX1_init, npX1_init, rfl, rfl, tq1 237 rfl rfl, tq1 238 rfl rfl⟩
set_option maxRecDepth 20000 in
theorem kX1_3 : .methodLink RX1 3 Lib.objectInit ∈ TT := tq2 0 rfl rfl
set_option maxRecDepth 20000 in
theorem kX8_97 : CalV RX8 97 8 mX8_enter 1 := ⟨okX8_enter, npX8_enter, ⟨by decide, _, rfl, rfl⟩, tq2 35 rfl rfl, tq2 37 rfl rfl, tq0 1 rfl rfl⟩
set_option maxRecDepth 20000 in
theorem kX8_121 : CalV RX8 121 8 mX8_takes 1 := ⟨okX8_takes, npX8_takes, ⟨by decide, _, rfl, rfl⟩, tq2 39 rfl rfl, tq2 41 rfl rfl, tq0 2 rfl rfl⟩
set_option maxRecDepth 20000 in
theorem kX8_181 : CalV RX8 181 0 mX0_endOpen 0 := ⟨okX0_endOpen, npX0_endOpen, ⟨by decide, _, rfl, rfl⟩, tq2 43 rfl rfl, tq2 44 rfl rfl, tq2 45 rfl rfl⟩
set_option maxRecDepth 20000 in
theorem kX0_46 : CalV RX0 46 0 mX0_firstOpen 0 := ⟨okX0_firstOpen, npX0_firstOpen, ⟨by decide, _, rfl, rfl⟩, tq2 47 rfl rfl, tq1 219 rfl rfl, tq1 220 rfl rfl⟩
set_option maxRecDepth 20000 in
theorem kX0_50 : CalV RX0 50 0 mX0_openCount 0 := ⟨okX0_openCount, npX0_openCount, ⟨by decide, _, rfl, rfl⟩, tq2 48 rfl rfl, tq1 224 rfl rfl, tq1 225 rfl rfl⟩
set_option maxRecDepth 20000 in
theorem kX8_272 : CalV RX8 272 8 mX8_clashesUnder 2 := ⟨okX8_clashesUnder, npX8_clashesUnder, ⟨by decide, _, rfl, rfl⟩, tq2 49 rfl rfl, tq2 51 rfl rfl, tq0 3 rfl rfl⟩
set_option maxRecDepth 20000 in
theorem kX8_160 : CalV RX8 160 1 mX1_gives 1 := ⟨okX1_gives, npX1_gives, ⟨by decide, _, rfl, rfl⟩, tq2 53 rfl rfl, tq2 54 rfl rfl, tq2 55 rfl rfl⟩
set_option maxRecDepth 20000 in
theorem kX1_34 : CalV RX1 34 6 mX6_has 1 := ⟨okX6_has, npX6_has, ⟨by decide, _, rfl, rfl⟩, tq2 57 rfl rfl, tq2 58 rfl rfl, tq2 59 rfl rfl⟩
set_option maxRecDepth 20000 in
theorem kX1_40 : CalSN RX1 40 mX8_placeUnder 2 := ⟨okX8_placeUnder, npX8_placeUnder, (show Cond.methodLinkNest RX1 40 yX8_placeUnder RX8 ∈ nestW by simp [nestW]), tq1 199 rfl rfl⟩
set_option maxRecDepth 20000 in
theorem kX8_163 : CalV RX8 163 1 mX1_getsBack 1 := ⟨okX1_getsBack, npX1_getsBack, ⟨by decide, _, rfl, rfl⟩, tq2 62 rfl rfl, tq2 63 rfl rfl, tq2 64 rfl rfl⟩
set_option maxRecDepth 20000 in
theorem kX1_44 : CalV RX1 44 1 mX1_gives 1 := ⟨okX1_gives, npX1_gives, ⟨by decide, _, rfl, rfl⟩, tq2 66 rfl rfl, tq2 54 rfl rfl, tq2 55 rfl rfl⟩
set_option maxRecDepth 20000 in
theorem kX8_280 : CalV RX8 280 0 mX0_clashOf 4 := ⟨okX0_clashOf, npX0_clashOf, ⟨by decide, _, rfl, rfl⟩, tq2 67 rfl rfl, tq2 68 rfl rfl, tq2 69 rfl rfl⟩
set_option maxRecDepth 20000 in
theorem kX0_60 : CalV RX0 60 0 mX0_dealAt 1 := ⟨okX0_dealAt, npX0_dealAt, ⟨by decide, _, rfl, rfl⟩, tq2 71 rfl rfl, tq2 72 rfl rfl, tq2 73 rfl rfl⟩
set_option maxRecDepth 20000 in
theorem kX0_56 : CalSN RX0 56 mX8_isOutside 2 := ⟨okX8_isOutside, npX8_isOutside, (show Cond.methodLinkNest RX0 56 yX8_isOutside RX8 ∈ nestW by simp [nestW]), tq1 185 rfl rfl⟩
set_option maxRecDepth 20000 in
theorem kX0_64 : CalV RX0 64 1 mX1_takerOf 2 := ⟨okX1_takerOf, npX1_takerOf, ⟨by decide, _, rfl, rfl⟩, tq2 76 rfl rfl, tq2 77 rfl rfl, tq2 78 rfl rfl⟩
set_option maxRecDepth 20000 in
theorem kX1_48 : CalV RX1 48 1 mX1_mayGive 1 := ⟨okX1_mayGive, npX1_mayGive, ⟨by decide, _, rfl, rfl⟩, tq2 80 rfl rfl, tq2 82 rfl rfl, tq0 4 rfl rfl⟩
set_option maxRecDepth 20000 in
theorem kX8_276 : CalV RX8 276 2 mX2_settle 3 := ⟨okX2_settle, npX2_settle, ⟨by decide, _, rfl, rfl⟩, tq2 84 rfl rfl, tq2 85 rfl rfl, tq2 86 rfl rfl⟩
set_option maxRecDepth 20000 in
theorem kX2_16 : CalV RX2 16 1 mX1_gives 1 := ⟨okX1_gives, npX1_gives, ⟨by decide, _, rfl, rfl⟩, tq2 88 rfl rfl, tq2 54 rfl rfl, tq2 55 rfl rfl⟩
set_option maxRecDepth 20000 in
theorem kX2_26 : CalV RX2 26 2 mX2_give 3 := ⟨okX2_give, npX2_give, ⟨by decide, _, rfl, rfl⟩, tq2 89 rfl rfl, tq2 91 rfl rfl, tq0 5 rfl rfl⟩
set_option maxRecDepth 20000 in
theorem kL_41 : CalV RL 41 8 mX8_swap 5 := ⟨okX8_swap, npX8_swap, ⟨by decide, _, rfl, rfl⟩, tq2 93 rfl rfl, tq2 94 rfl rfl, tq2 95 rfl rfl⟩
set_option maxRecDepth 20000 in
theorem kL_45 : CalV RL 45 8 mX8_text 0 := ⟨okX8_text, npX8_text, ⟨by decide, _, rfl, rfl⟩, tq2 97 rfl rfl, tq2 98 rfl rfl, tq2 99 rfl rfl⟩
set_option maxRecDepth 20000 in
theorem kX8_104 : CalV RX8 104 3 mX3_readText 1 := ⟨okX3_readText, npX3_readText, ⟨by decide, _, rfl, rfl⟩, tq2 101 rfl rfl, tq2 102 rfl rfl, tq2 103 rfl rfl⟩
set_option maxRecDepth 20000 in
theorem kX3_39 : CalV RX3 39 7 mX7_start 0 := ⟨okX7_start, npX7_start, ⟨by decide, _, rfl, rfl⟩, tq2 105 rfl rfl, tq2 106 rfl rfl, tq2 107 rfl rfl⟩
set_option maxRecDepth 20000 in
theorem kX7_22 : CalV RX7 22 7 mX7_step 0 := ⟨okX7_step, npX7_step, ⟨by decide, _, rfl, rfl⟩, tq2 109 rfl rfl, tq2 111 rfl rfl, tq0 6 rfl rfl⟩
set_option maxRecDepth 20000 in
theorem kX7_54 : CalS RX7 54 mX7_isLetter 1 := ⟨okX7_isLetter, npX7_isLetter, tq2 113 rfl rfl, tq2 114 rfl rfl⟩
set_option maxRecDepth 20000 in
theorem kX7_41 : CalS RX7 41 mX7_isDigit 1 := ⟨okX7_isDigit, npX7_isDigit, tq2 116 rfl rfl, tq2 117 rfl rfl⟩
set_option maxRecDepth 20000 in
theorem kX3_42 : CalV RX3 42 3 mX3_readItem 1 := ⟨okX3_readItem, npX3_readItem, ⟨by decide, _, rfl, rfl⟩, tq2 119 rfl rfl, tq2 121 rfl rfl, tq0 7 rfl rfl⟩
set_option maxRecDepth 20000 in
theorem kX3_52 : CalV RX3 52 7 mX7_takes 1 := ⟨okX7_takes, npX7_takes, ⟨by decide, _, rfl, rfl⟩, tq2 124 rfl rfl, tq2 125 rfl rfl, tq2 126 rfl rfl⟩
set_option maxRecDepth 20000 in
theorem kX7_28 : .methodLink RX7 28 yJ0_length_8abf5 ∈ TT := tq2 128 rfl rfl
set_option maxRecDepth 20000 in
theorem kJ0_335 : .methodLink RJ0 335 yJ0_coder_7d493 ∈ TT := tq2 132 rfl rfl
set_option maxRecDepth 20000 in
theorem kX7_33 : .methodLink RX7 33 yJ0_charAt_5068e ∈ TT := tq2 138 rfl rfl
set_option maxRecDepth 20000 in
theorem kJ0_492 : .methodLink RJ0 492 yJ0_isLatin1_aae02 ∈ TT := tq2 142 rfl rfl
set_option maxRecDepth 20000 in
theorem kJ0_495 : CalS RJ0 495 mJ1_charAt_3b067 2 := ⟨okJ1_charAt_3b067, npJ1_charAt_3b067, tq2 146 rfl rfl, tq2 147 rfl rfl⟩
set_option maxRecDepth 20000 in
theorem kJ1_9 : CalS RJ1 9 mJ0_checkIndex_df160 2 := ⟨okJ0_checkIndex_df160, npJ0_checkIndex_df160, tq2 149 rfl rfl, tq2 150 rfl rfl⟩
set_option maxRecDepth 20000 in
theorem kJ0_1059 : CalS RJ0 1059 mJ3_checkIndex_8e157 3 := ⟨okJ3_checkIndex_8e157, npJ3_checkIndex_8e157, tq2 154 rfl rfl, tq2 155 rfl rfl⟩
set_option maxRecDepth 20000 in
theorem kJ0_498 : CalS RJ0 498 mJ2_charAt_3b067 2 := ⟨okJ2_charAt_3b067, npJ2_charAt_3b067, tq2 157 rfl rfl, tq2 158 rfl rfl⟩
set_option maxRecDepth 20000 in
theorem kJ2_67 : CalS RJ2 67 mJ2_checkIndex_2214a 2 := ⟨okJ2_checkIndex_2214a, npJ2_checkIndex_2214a, tq2 160 rfl rfl, tq2 161 rfl rfl⟩
set_option maxRecDepth 20000 in
theorem kJ2_48 : CalS RJ2 48 mJ2_length_9d52b 1 := ⟨okJ2_length_9d52b, npJ2_length_9d52b, tq2 163 rfl rfl, tq2 164 rfl rfl⟩
set_option maxRecDepth 20000 in
theorem kJ2_414 : CalS RJ2 414 mJ0_checkIndex_df160 2 := ⟨okJ0_checkIndex_df160, npJ0_checkIndex_df160, tq2 166 rfl rfl, tq2 150 rfl rfl⟩
set_option maxRecDepth 20000 in
theorem kJ2_71 : CalS RJ2 71 mJ2_getChar_3b067 2 := ⟨okJ2_getChar_3b067, npJ2_getChar_3b067, tq2 167 rfl rfl, tq2 168 rfl rfl⟩
set_option maxRecDepth 20000 in
theorem kX3_67 : CalV RX3 67 7 mX7_takeNumber 3 := ⟨okX7_takeNumber, npX7_takeNumber, ⟨by decide, _, rfl, rfl⟩, tq2 176 rfl rfl, tq2 177 rfl rfl, tq2 178 rfl rfl⟩
set_option maxRecDepth 20000 in
theorem kX7_37 : CalV RX7 37 7 mX7_isAtEnd 0 := ⟨okX7_isAtEnd, npX7_isAtEnd, ⟨by decide, _, rfl, rfl⟩, tq2 180 rfl rfl, tq2 181 rfl rfl, tq2 182 rfl rfl⟩
set_option maxRecDepth 20000 in
theorem kX7_45 : CalV RX7 45 7 mX7_tokenNumber 0 := ⟨okX7_tokenNumber, npX7_tokenNumber, ⟨by decide, _, rfl, rfl⟩, tq2 184 rfl rfl, tq2 186 rfl rfl, tq0 8 rfl rfl⟩
set_option maxRecDepth 20000 in
theorem kX7_48 : CalS RX7 48 mJ9_min_7cf53 2 := ⟨okJ9_min_7cf53, npJ9_min_7cf53, tq2 188 rfl rfl, tq2 189 rfl rfl⟩
set_option maxRecDepth 20000 in
theorem kX3_78 : CalV RX3 78 3 mX3_readKind 0 := ⟨okX3_readKind, npX3_readKind, ⟨by decide, _, rfl, rfl⟩, tq2 193 rfl rfl, tq2 195 rfl rfl, tq0 9 rfl rfl⟩
set_option maxRecDepth 20000 in
theorem kX3_83 : CalV RX3 83 3 mX3_readAny 3 := ⟨okX3_readAny, npX3_readAny, ⟨by decide, _, rfl, rfl⟩, tq2 203 rfl rfl, tq2 205 rfl rfl, tq0 10 rfl rfl⟩
set_option maxRecDepth 20000 in
theorem kX3_100 : CalV RX3 100 6 mX6_clear 0 := ⟨okX6_clear, npX6_clear, ⟨by decide, _, rfl, rfl⟩, tq2 207 rfl rfl, tq2 208 rfl rfl, tq2 209 rfl rfl⟩
set_option maxRecDepth 20000 in
theorem kX3_103 : CalV RX3 103 3 mX3_readOne 3 := ⟨okX3_readOne, npX3_readOne, ⟨by decide, _, rfl, rfl⟩, tq2 211 rfl rfl, tq2 213 rfl rfl, tq0 11 rfl rfl⟩
set_option maxRecDepth 20000 in
theorem kX3_119 : CalV RX3 119 6 mX6_turn 0 := ⟨okX6_turn, npX6_turn, ⟨by decide, _, rfl, rfl⟩, tq2 216 rfl rfl, tq2 217 rfl rfl, tq2 218 rfl rfl⟩
set_option maxRecDepth 20000 in
theorem kX3_128 : CalV RX3 128 3 mX3_dealByThen 2 := ⟨okX3_dealByThen, npX3_dealByThen, ⟨by decide, _, rfl, rfl⟩, tq2 224 rfl rfl, tq2 226 rfl rfl, tq0 12 rfl rfl⟩
set_option maxRecDepth 20000 in
theorem kX3_147 : CalV RX3 147 0 mX0_dealAt 1 := ⟨okX0_dealAt, npX0_dealAt, ⟨by decide, _, rfl, rfl⟩, tq2 228 rfl rfl, tq2 72 rfl rfl, tq2 73 rfl rfl⟩
set_option maxRecDepth 20000 in
theorem kX3_151 : CalV RX3 151 3 mX3_cameAt 1 := ⟨okX3_cameAt, npX3_cameAt, ⟨by decide, _, rfl, rfl⟩, tq2 229 rfl rfl, tq2 230 rfl rfl, tq2 231 rfl rfl⟩
set_option maxRecDepth 20000 in
theorem kX3_35 : CalSN RX3 35 mX8_isOutside 2 := ⟨okX8_isOutside, npX8_isOutside, (show Cond.methodLinkNest RX3 35 yX8_isOutside RX8 ∈ nestW by simp [nestW]), tq1 185 rfl rfl⟩
set_option maxRecDepth 20000 in
theorem kX3_132 : CalV RX3 132 6 mX6_becomeLapsed 1 := ⟨okX6_becomeLapsed, npX6_becomeLapsed, ⟨by decide, _, rfl, rfl⟩, tq2 234 rfl rfl, tq2 235 rfl rfl, tq2 236 rfl rfl⟩
set_option maxRecDepth 20000 in
theorem kX6_23 : CalV RX6 23 1 mX1_gives 1 := ⟨okX1_gives, npX1_gives, ⟨by decide, _, rfl, rfl⟩, tq2 238 rfl rfl, tq2 54 rfl rfl, tq2 55 rfl rfl⟩
set_option maxRecDepth 20000 in
theorem kX6_19 : CalV RX6 19 6 mX6_set 2 := ⟨okX6_set, npX6_set, ⟨by decide, _, rfl, rfl⟩, tq2 239 rfl rfl, tq3 1 rfl rfl, tq0 13 rfl rfl⟩
set_option maxRecDepth 20000 in
theorem kX3_140 : CalV RX3 140 6 mX6_becomeAhead 2 := ⟨okX6_becomeAhead, npX6_becomeAhead, ⟨by decide, _, rfl, rfl⟩, tq3 5 rfl rfl, tq3 6 rfl rfl, tq3 7 rfl rfl⟩
set_option maxRecDepth 20000 in
theorem kX6_15 : CalSN RX6 15 mX8_placeUnder 2 := ⟨okX8_placeUnder, npX8_placeUnder, (show Cond.methodLinkNest RX6 15 yX8_placeUnder RX8 ∈ nestW by simp [nestW]), tq1 199 rfl rfl⟩
set_option maxRecDepth 20000 in
theorem kX3_144 : CalV RX3 144 6 mX6_becomeAt 2 := ⟨okX6_becomeAt, npX6_becomeAt, ⟨by decide, _, rfl, rfl⟩, tq3 10 rfl rfl, tq3 11 rfl rfl, tq3 12 rfl rfl⟩
set_option maxRecDepth 20000 in
theorem kX3_108 : CalV RX3 108 6 mX6_meet 1 := ⟨okX6_meet, npX6_meet, ⟨by decide, _, rfl, rfl⟩, tq3 15 rfl rfl, tq3 16 rfl rfl, tq3 17 rfl rfl⟩
set_option maxRecDepth 20000 in
theorem kX3_112 : CalV RX3 112 6 mX6_join 1 := ⟨okX6_join, npX6_join, ⟨by decide, _, rfl, rfl⟩, tq3 19 rfl rfl, tq3 20 rfl rfl, tq3 21 rfl rfl⟩
set_option maxRecDepth 20000 in
theorem kX3_87 : CalI RX3 87 mX1_init 7 := ⟨okX1_init, npX1_init, rfl, rfl, tq3 24 rfl rfl, tq1 238 rfl rfl⟩
set_option maxRecDepth 20000 in
theorem kX3_46 : CalV RX3 46 7 mX7_tokenPlace 0 := ⟨okX7_tokenPlace, npX7_tokenPlace, ⟨by decide, _, rfl, rfl⟩, tq3 25 rfl rfl, tq3 26 rfl rfl, tq3 27 rfl rfl⟩
set_option maxRecDepth 20000 in
theorem kX3_56 : CalV RX3 56 7 mX7_isAtEnd 0 := ⟨okX7_isAtEnd, npX7_isAtEnd, ⟨by decide, _, rfl, rfl⟩, tq3 30 rfl rfl, tq2 181 rfl rfl, tq2 182 rfl rfl⟩
set_option maxRecDepth 20000 in
theorem kX8_117 : CalV RX8 117 3 mX3_cameAt 1 := ⟨okX3_cameAt, npX3_cameAt, ⟨by decide, _, rfl, rfl⟩, tq3 31 rfl rfl, tq2 230 rfl rfl, tq2 231 rfl rfl⟩
set_option maxRecDepth 20000 in
theorem kX8_125 : CalV RX8 125 8 mX8_settleAll 0 := ⟨okX8_settleAll, npX8_settleAll, ⟨by decide, _, rfl, rfl⟩, tq3 32 rfl rfl, tq3 34 rfl rfl, tq0 14 rfl rfl⟩
set_option maxRecDepth 20000 in
theorem kX8_128 : CalV RX8 128 0 mX0_dealAt 1 := ⟨okX0_dealAt, npX0_dealAt, ⟨by decide, _, rfl, rfl⟩, tq3 36 rfl rfl, tq2 72 rfl rfl, tq2 73 rfl rfl⟩
set_option maxRecDepth 20000 in
theorem kL_49 : CalV RL 49 8 mX8_of 2 := ⟨okX8_of, npX8_of, ⟨by decide, _, rfl, rfl⟩, tq3 37 rfl rfl, tq3 38 rfl rfl, tq3 39 rfl rfl⟩
set_option maxRecDepth 20000 in
theorem kX8_153 : CalV RX8 153 8 mX8_countConveying 1 := ⟨okX8_countConveying, npX8_countConveying, ⟨by decide, _, rfl, rfl⟩, tq3 41 rfl rfl, tq3 43 rfl rfl, tq0 15 rfl rfl⟩
set_option maxRecDepth 20000 in
theorem kL_53 : CalV RL 53 8 mX8_holds 2 := ⟨okX8_holds, npX8_holds, ⟨by decide, _, rfl, rfl⟩, tq3 45 rfl rfl, tq3 46 rfl rfl, tq3 47 rfl rfl⟩
set_option maxRecDepth 20000 in
theorem kX8_156 : CalV RX8 156 1 mX1_isMet 1 := ⟨okX1_isMet, npX1_isMet, ⟨by decide, _, rfl, rfl⟩, tq3 49 rfl rfl, tq3 50 rfl rfl, tq3 51 rfl rfl⟩
set_option maxRecDepth 20000 in
theorem kL_57 : CalV RL 57 8 mX8_conveys 3 := ⟨okX8_conveys, npX8_conveys, ⟨by decide, _, rfl, rfl⟩, tq3 53 rfl rfl, tq3 54 rfl rfl, tq3 55 rfl rfl⟩
set_option maxRecDepth 20000 in
theorem kL_62 : CalV RL 62 8 mX8_drop 0 := ⟨okX8_drop, npX8_drop, ⟨by decide, _, rfl, rfl⟩, tq3 57 rfl rfl, tq3 58 rfl rfl, tq3 59 rfl rfl⟩
set_option maxRecDepth 20000 in
theorem kL_66 : CalV RL 66 8 mX8_prune 0 := ⟨okX8_prune, npX8_prune, ⟨by decide, _, rfl, rfl⟩, tq3 61 rfl rfl, tq3 62 rfl rfl, tq3 63 rfl rfl⟩
set_option maxRecDepth 20000 in
theorem kL_70 : CalV RL 70 8 mX8_clash 1 := ⟨okX8_clash, npX8_clash, ⟨by decide, _, rfl, rfl⟩, tq3 65 rfl rfl, tq3 66 rfl rfl, tq3 67 rfl rfl⟩
set_option maxRecDepth 20000 in
theorem kL_74 : CalV RL 74 8 mX8_owner 2 := ⟨okX8_owner, npX8_owner, ⟨by decide, _, rfl, rfl⟩, tq3 69 rfl rfl, tq3 70 rfl rfl, tq3 71 rfl rfl⟩
set_option maxRecDepth 20000 in
theorem kX8_169 : CalV RX8 169 0 mX0_isOpen 1 := ⟨okX0_isOpen, npX0_isOpen, ⟨by decide, _, rfl, rfl⟩, tq3 73 rfl rfl, tq3 74 rfl rfl, tq3 75 rfl rfl⟩
set_option maxRecDepth 20000 in
theorem kX0_53 : CalV RX0 53 0 mX0_endOpen 0 := ⟨okX0_endOpen, npX0_endOpen, ⟨by decide, _, rfl, rfl⟩, tq3 77 rfl rfl, tq2 44 rfl rfl, tq2 45 rfl rfl⟩
set_option maxRecDepth 20000 in
theorem kX8_172 : CalV RX8 172 2 mX2_at 2 := ⟨okX2_at, npX2_at, ⟨by decide, _, rfl, rfl⟩, tq3 78 rfl rfl, tq3 79 rfl rfl, tq3 80 rfl rfl⟩
set_option maxRecDepth 20000 in
theorem kL_78 : CalV RL 78 8 mX8_chain 3 := ⟨okX8_chain, npX8_chain, ⟨by decide, _, rfl, rfl⟩, tq3 82 rfl rfl, tq3 83 rfl rfl, tq3 84 rfl rfl⟩
set_option maxRecDepth 20000 in
theorem kX8_175 : CalV RX8 175 1 mX1_takerOf 2 := ⟨okX1_takerOf, npX1_takerOf, ⟨by decide, _, rfl, rfl⟩, tq3 86 rfl rfl, tq2 77 rfl rfl, tq2 78 rfl rfl⟩
set_option maxRecDepth 20000 in
theorem kL_82 : CalV RL 82 8 mX8_hand 2 := ⟨okX8_hand, npX8_hand, ⟨by decide, _, rfl, rfl⟩, tq3 87 rfl rfl, tq3 88 rfl rfl, tq3 89 rfl rfl⟩
set_option maxRecDepth 20000 in
theorem kL_86 : CalV RL 86 8 mX8_owners 1 := ⟨okX8_owners, npX8_owners, ⟨by decide, _, rfl, rfl⟩, tq3 91 rfl rfl, tq3 92 rfl rfl, tq3 93 rfl rfl⟩
set_option maxRecDepth 20000 in
theorem kX8_178 : CalV RX8 178 8 mX8_everOwners 1 := ⟨okX8_everOwners, npX8_everOwners, ⟨by decide, _, rfl, rfl⟩, tq3 95 rfl rfl, tq3 97 rfl rfl, tq0 16 rfl rfl⟩
set_option maxRecDepth 20000 in
theorem kL_90 : CalV RL 90 8 mX8_sure 1 := ⟨okX8_sure, npX8_sure, ⟨by decide, _, rfl, rfl⟩, tq3 99 rfl rfl, tq3 100 rfl rfl, tq3 101 rfl rfl⟩
set_option maxRecDepth 20000 in
theorem kL_94 : CalV RL 94 8 mX8_chance 2 := ⟨okX8_chance, npX8_chance, ⟨by decide, _, rfl, rfl⟩, tq3 103 rfl rfl, tq3 104 rfl rfl, tq3 105 rfl rfl⟩
set_option maxRecDepth 20000 in
theorem kL_98 : CalV RL 98 8 mX8_least 2 := ⟨okX8_least, npX8_least, ⟨by decide, _, rfl, rfl⟩, tq3 107 rfl rfl, tq3 108 rfl rfl, tq3 109 rfl rfl⟩
set_option maxRecDepth 20000 in
theorem kL_102 : CalV RL 102 8 mX8_price 2 := ⟨okX8_price, npX8_price, ⟨by decide, _, rfl, rfl⟩, tq3 111 rfl rfl, tq3 112 rfl rfl, tq3 113 rfl rfl⟩
set_option maxRecDepth 20000 in
theorem kL_106 : CalV RL 106 8 mX8_worth 2 := ⟨okX8_worth, npX8_worth, ⟨by decide, _, rfl, rfl⟩, tq3 115 rfl rfl, tq3 116 rfl rfl, tq3 117 rfl rfl⟩
set_option maxRecDepth 20000 in
theorem kX8_187 : CalV RX8 187 8 mX8_worthUnder 2 := ⟨okX8_worthUnder, npX8_worthUnder, ⟨by decide, _, rfl, rfl⟩, tq3 119 rfl rfl, tq3 121 rfl rfl, tq0 17 rfl rfl⟩
set_option maxRecDepth 20000 in
theorem kL_110 : CalV RL 110 8 mX8_value 1 := ⟨okX8_value, npX8_value, ⟨by decide, _, rfl, rfl⟩, tq3 123 rfl rfl, tq3 124 rfl rfl, tq3 125 rfl rfl⟩
set_option maxRecDepth 20000 in
theorem kX8_190 : CalV RX8 190 8 mX8_longFinding 1 := ⟨okX8_longFinding, npX8_longFinding, ⟨by decide, _, rfl, rfl⟩, tq3 127 rfl rfl, tq3 129 rfl rfl, tq0 18 rfl rfl⟩
set_option maxRecDepth 20000 in
theorem kX8_194 : CalV RX8 194 8 mX8_worthOver 3 := ⟨okX8_worthOver, npX8_worthOver, ⟨by decide, _, rfl, rfl⟩, tq3 132 rfl rfl, tq3 134 rfl rfl, tq0 19 rfl rfl⟩
set_option maxRecDepth 20000 in
theorem kL_115 : CalV RL 115 8 mX8_best 2 := ⟨okX8_best, npX8_best, ⟨by decide, _, rfl, rfl⟩, tq3 136 rfl rfl, tq3 137 rfl rfl, tq3 138 rfl rfl⟩
set_option maxRecDepth 20000 in
theorem kL_119 : CalV RL 119 8 mX8_hope 1 := ⟨okX8_hope, npX8_hope, ⟨by decide, _, rfl, rfl⟩, tq3 140 rfl rfl, tq3 141 rfl rfl, tq3 142 rfl rfl⟩
set_option maxRecDepth 20000 in
theorem kL_123 : CalV RL 123 8 mX8_rounds 2 := ⟨okX8_rounds, npX8_rounds, ⟨by decide, _, rfl, rfl⟩, tq3 145 rfl rfl, tq3 146 rfl rfl, tq3 147 rfl rfl⟩
set_option maxRecDepth 20000 in
theorem kX8_203 : CalV RX8 203 5 mX5_isMissing 0 := ⟨okX5_isMissing, npX5_isMissing, ⟨by decide, _, rfl, rfl⟩, tq3 149 rfl rfl, tq3 150 rfl rfl, tq3 151 rfl rfl⟩
set_option maxRecDepth 20000 in
theorem kX8_208 : CalV RX8 208 8 mX8_tellsEachDeal 1 := ⟨okX8_tellsEachDeal, npX8_tellsEachDeal, ⟨by decide, _, rfl, rfl⟩, tq3 153 rfl rfl, tq3 155 rfl rfl, tq0 20 rfl rfl⟩
set_option maxRecDepth 20000 in
theorem kX8_212 : CalV RX8 212 8 mX8_countRounds 2 := ⟨okX8_countRounds, npX8_countRounds, ⟨by decide, _, rfl, rfl⟩, tq3 157 rfl rfl, tq3 159 rfl rfl, tq0 21 rfl rfl⟩
set_option maxRecDepth 20000 in
theorem kX8_286 : CalI RX8 286 mX4_init 1 := ⟨okX4_init, npX4_init, rfl, rfl, tq3 163 rfl rfl, tq3 164 rfl rfl⟩
set_option maxRecDepth 20000 in
theorem kX4_3 : .methodLink RX4 3 Lib.objectInit ∈ TT := tq3 166 rfl rfl
set_option maxRecDepth 20000 in
theorem kX8_289 : CalV RX8 289 8 mX8_goesOver 2 := ⟨okX8_goesOver, npX8_goesOver, ⟨by decide, _, rfl, rfl⟩, tq3 180 rfl rfl, tq3 182 rfl rfl, tq0 22 rfl rfl⟩
set_option maxRecDepth 20000 in
theorem kX8_293 : CalV RX8 293 4 mX4_move 2 := ⟨okX4_move, npX4_move, ⟨by decide, _, rfl, rfl⟩, tq3 184 rfl rfl, tq3 185 rfl rfl, tq3 186 rfl rfl⟩
set_option maxRecDepth 20000 in
theorem kX4_19 : CalV RX4 19 1 mX1_gives 1 := ⟨okX1_gives, npX1_gives, ⟨by decide, _, rfl, rfl⟩, tq3 188 rfl rfl, tq2 54 rfl rfl, tq2 55 rfl rfl⟩
set_option maxRecDepth 20000 in
theorem kX4_34 : CalV RX4 34 1 mX1_getsBack 1 := ⟨okX1_getsBack, npX1_getsBack, ⟨by decide, _, rfl, rfl⟩, tq3 189 rfl rfl, tq2 63 rfl rfl, tq2 64 rfl rfl⟩
set_option maxRecDepth 20000 in
theorem kL_127 : CalV RL 127 8 mX8_lays 2 := ⟨okX8_lays, npX8_lays, ⟨by decide, _, rfl, rfl⟩, tq3 190 rfl rfl, tq3 191 rfl rfl, tq3 192 rfl rfl⟩
set_option maxRecDepth 20000 in
theorem kX8_216 : CalS RX8 216 mJ9_min_7cf53 2 := ⟨okJ9_min_7cf53, npJ9_min_7cf53, tq3 194 rfl rfl, tq2 189 rfl rfl⟩
set_option maxRecDepth 20000 in
theorem kX8_221 : CalV RX8 221 5 mX5_put 2 := ⟨okX5_put, npX5_put, ⟨by decide, _, rfl, rfl⟩, tq3 195 rfl rfl, tq3 196 rfl rfl, tq3 197 rfl rfl⟩
set_option maxRecDepth 20000 in
theorem kL_131 : CalV RL 131 8 mX8_judge 2 := ⟨okX8_judge, npX8_judge, ⟨by decide, _, rfl, rfl⟩, tq3 199 rfl rfl, tq3 200 rfl rfl, tq3 201 rfl rfl⟩
set_option maxRecDepth 20000 in
theorem kL_135 : CalV RL 135 8 mX8_feed 2 := ⟨okX8_feed, npX8_feed, ⟨by decide, _, rfl, rfl⟩, tq3 203 rfl rfl, tq3 204 rfl rfl, tq3 205 rfl rfl⟩
set_option maxRecDepth 20000 in
theorem kX8_229 : CalV RX8 229 7 mX7_add 1 := ⟨okX7_add, npX7_add, ⟨by decide, _, rfl, rfl⟩, tq3 207 rfl rfl, tq3 208 rfl rfl, tq3 209 rfl rfl⟩
set_option maxRecDepth 20000 in
theorem kL_139 : CalV RL 139 8 mX8_wipe 0 := ⟨okX8_wipe, npX8_wipe, ⟨by decide, _, rfl, rfl⟩, tq3 211 rfl rfl, tq3 212 rfl rfl, tq3 213 rfl rfl⟩
set_option maxRecDepth 20000 in
theorem kL_143 : CalV RL 143 8 mX8_sheet 3 := ⟨okX8_sheet, npX8_sheet, ⟨by decide, _, rfl, rfl⟩, tq3 215 rfl rfl, tq3 216 rfl rfl, tq3 217 rfl rfl⟩
set_option maxRecDepth 20000 in
theorem kX8_233 : CalV RX8 233 5 mX5_become 2 := ⟨okX5_become, npX5_become, ⟨by decide, _, rfl, rfl⟩, tq3 219 rfl rfl, tq3 220 rfl rfl, tq3 221 rfl rfl⟩
set_option maxRecDepth 20000 in
theorem kL_149 : CalV RL 149 8 mX8_write 3 := ⟨okX8_write, npX8_write, ⟨by decide, _, rfl, rfl⟩, tq3 223 rfl rfl, tq3 224 rfl rfl, tq3 225 rfl rfl⟩
set_option maxRecDepth 20000 in
theorem kL_154 : CalV RL 154 8 mX8_item 2 := ⟨okX8_item, npX8_item, ⟨by decide, _, rfl, rfl⟩, tq3 227 rfl rfl, tq3 228 rfl rfl, tq3 229 rfl rfl⟩
set_option maxRecDepth 20000 in
theorem kL_159 : CalV RL 159 8 mX8_copy 5 := ⟨okX8_copy, npX8_copy, ⟨by decide, _, rfl, rfl⟩, tq3 231 rfl rfl, tq3 232 rfl rfl, tq3 233 rfl rfl⟩
set_option maxRecDepth 20000 in
theorem kX8_239 : CalV RX8 239 5 mX5_hasRun 2 := ⟨okX5_hasRun, npX5_hasRun, ⟨by decide, _, rfl, rfl⟩, tq3 235 rfl rfl, tq3 236 rfl rfl, tq3 237 rfl rfl⟩
set_option maxRecDepth 20000 in
theorem kX8_242 : .methodLink RX8 242 (⟨"java/lang/System", "arraycopy", "(Ljava/lang/Object;ILjava/lang/Object;II)V"⟩ : MethodName) ∈ TT := tq3 239 rfl rfl
set_option maxRecDepth 20000 in
theorem kL_163 : CalV RL 163 8 mX8_hold 2 := ⟨okX8_hold, npX8_hold, ⟨by decide, _, rfl, rfl⟩, tq4 2 rfl rfl, tq4 3 rfl rfl, tq4 4 rfl rfl⟩
set_option maxRecDepth 20000 in
theorem kL_167 : CalV RL 167 8 mX8_taken 2 := ⟨okX8_taken, npX8_taken, ⟨by decide, _, rfl, rfl⟩, tq4 6 rfl rfl, tq4 7 rfl rfl, tq4 8 rfl rfl⟩
set_option maxRecDepth 20000 in
theorem kX8_248 : CalS RX8 248 mX8_isUnder 2 := ⟨okX8_isUnder, npX8_isUnder, tq4 10 rfl rfl, tq4 11 rfl rfl⟩
set_option maxRecDepth 20000 in
theorem kX8_251 : CalV RX8 251 0 mX0_numberOf 1 := ⟨okX0_numberOf, npX0_numberOf, ⟨by decide, _, rfl, rfl⟩, tq4 15 rfl rfl, tq4 16 rfl rfl, tq4 17 rfl rfl⟩
set_option maxRecDepth 20000 in
theorem kL_171 : CalV RL 171 8 mX8_image 0 := ⟨okX8_image, npX8_image, ⟨by decide, _, rfl, rfl⟩, tq4 19 rfl rfl, tq4 20 rfl rfl, tq4 21 rfl rfl⟩
set_option maxRecDepth 20000 in
theorem kX8_257 : CalV RX8 257 0 mX0_become 1 := ⟨okX0_become, npX0_become, ⟨by decide, _, rfl, rfl⟩, tq4 23 rfl rfl, tq4 24 rfl rfl, tq4 25 rfl rfl⟩
set_option maxRecDepth 20000 in
theorem kX0_31 : .methodLink RX0 31 (⟨"java/lang/System", "arraycopy", "(Ljava/lang/Object;ILjava/lang/Object;II)V"⟩ : MethodName) ∈ TT := tq4 27 rfl rfl
set_option maxRecDepth 20000 in
theorem kL_175 : CalV RL 175 8 mX8_back 0 := ⟨okX8_back, npX8_back, ⟨by decide, _, rfl, rfl⟩, tq4 28 rfl rfl, tq4 29 rfl rfl, tq4 30 rfl rfl⟩
set_option maxRecDepth 20000 in
theorem kL_179 : CalV RL 179 8 mX8_seed 1 := ⟨okX8_seed, npX8_seed, ⟨by decide, _, rfl, rfl⟩, tq4 32 rfl rfl, tq4 33 rfl rfl, tq4 34 rfl rfl⟩
set_option maxRecDepth 20000 in
theorem kL_183 : CalV RL 183 8 mX8_count 1 := ⟨okX8_count, npX8_count, ⟨by decide, _, rfl, rfl⟩, tq4 36 rfl rfl, tq4 37 rfl rfl, tq4 38 rfl rfl⟩
set_option maxRecDepth 20000 in
theorem kX8_260 : CalV RX8 260 8 mX8_countHeld 0 := ⟨okX8_countHeld, npX8_countHeld, ⟨by decide, _, rfl, rfl⟩, tq4 40 rfl rfl, tq4 42 rfl rfl, tq0 23 rfl rfl⟩
set_option maxRecDepth 20000 in
theorem kL_187 : CalV RL 187 8 mX8_status 1 := ⟨okX8_status, npX8_status, ⟨by decide, _, rfl, rfl⟩, tq4 44 rfl rfl, tq4 45 rfl rfl, tq4 46 rfl rfl⟩
set_option maxRecDepth 20000 in
theorem kL_12 : CalI RL 12 mX9_init 0 := ⟨okX9_init, npX9_init, rfl, rfl, tq4 50 rfl rfl, tq4 51 rfl rfl⟩
set_option maxRecDepth 20000 in
theorem kX9_1 : .methodLink RX9 1 Lib.objectInit ∈ TT := tq4 53 rfl rfl
set_option maxRecDepth 20000 in
theorem kL_17 : CalV RL 17 9 mX9_order 2 := ⟨okX9_order, npX9_order, ⟨by decide, _, rfl, rfl⟩, tq4 173 rfl rfl, tq4 174 rfl rfl, tq4 175 rfl rfl⟩
set_option maxRecDepth 20000 in
theorem kX9_108 : CalS RX9 108 mX9_in 3 := ⟨okX9_in, npX9_in, tq4 178 rfl rfl, tq4 179 rfl rfl⟩
set_option maxRecDepth 20000 in
theorem kX9_99 : CalS RX9 99 mX9_clubAt 2 := ⟨okX9_clubAt, npX9_clubAt, tq4 182 rfl rfl, tq4 183 rfl rfl⟩
set_option maxRecDepth 20000 in
theorem kX9_128 : CalV RX9 128 9 mX9_finds 1 := ⟨okX9_finds, npX9_finds, ⟨by decide, _, rfl, rfl⟩, tq4 185 rfl rfl, tq4 187 rfl rfl, tq0 24 rfl rfl⟩
set_option maxRecDepth 20000 in
theorem kL_21 : CalV RL 21 9 mX9_place 2 := ⟨okX9_place, npX9_place, ⟨by decide, _, rfl, rfl⟩, tq4 190 rfl rfl, tq4 191 rfl rfl, tq4 192 rfl rfl⟩
set_option maxRecDepth 20000 in
theorem kX9_132 : CalS RX9 132 mX9_isStanding 1 := ⟨okX9_isStanding, npX9_isStanding, tq4 194 rfl rfl, tq4 195 rfl rfl⟩
set_option maxRecDepth 20000 in
theorem kX9_136 : CalS RX9 136 mX9_isPick 1 := ⟨okX9_isPick, npX9_isPick, tq4 198 rfl rfl, tq4 199 rfl rfl⟩
set_option maxRecDepth 20000 in
theorem kX9_139 : CalS RX9 139 mX9_placeOf 2 := ⟨okX9_placeOf, npX9_placeOf, tq4 202 rfl rfl, tq4 203 rfl rfl⟩
set_option maxRecDepth 20000 in
theorem kX9_102 : CalS RX9 102 mX9_placeIn 3 := ⟨okX9_placeIn, npX9_placeIn, tq4 205 rfl rfl, tq4 206 rfl rfl⟩
set_option maxRecDepth 20000 in
theorem kX9_95 : CalS RX9 95 mX9_orderIn 2 := ⟨okX9_orderIn, npX9_orderIn, tq4 208 rfl rfl, tq4 209 rfl rfl⟩
set_option maxRecDepth 20000 in
theorem kL_26 : CalV RL 26 9 mX9_fall 1 := ⟨okX9_fall, npX9_fall, ⟨by decide, _, rfl, rfl⟩, tq4 211 rfl rfl, tq4 212 rfl rfl, tq4 213 rfl rfl⟩
set_option maxRecDepth 20000 in
theorem kL_30 : CalV RL 30 9 mX9_fallen 1 := ⟨okX9_fallen, npX9_fallen, ⟨by decide, _, rfl, rfl⟩, tq4 215 rfl rfl, tq4 216 rfl rfl, tq4 217 rfl rfl⟩
set_option maxRecDepth 20000 in
theorem kL_35 : CalV RL 35 9 mX9_draw 0 := ⟨okX9_draw, npX9_draw, ⟨by decide, _, rfl, rfl⟩, tq4 220 rfl rfl, tq4 221 rfl rfl, tq4 222 rfl rfl⟩
set_option maxRecDepth 20000 in
theorem kX9_119 : CalV RX9 119 9 mX9_openFrom 0 := ⟨okX9_openFrom, npX9_openFrom, ⟨by decide, _, rfl, rfl⟩, tq4 225 rfl rfl, tq4 227 rfl rfl, tq0 25 rfl rfl⟩
set_option maxRecDepth 20000 in
theorem kX9_123 : CalV RX9 123 9 mX9_openMany 0 := ⟨okX9_openMany, npX9_openMany, ⟨by decide, _, rfl, rfl⟩, tq4 229 rfl rfl, tq4 231 rfl rfl, tq0 26 rfl rfl⟩
set_option maxRecDepth 20000 in
theorem kL_40 : CalV RL 40 9 mX9_sale 5 := ⟨okX9_sale, npX9_sale, ⟨by decide, _, rfl, rfl⟩, tq4 233 rfl rfl, tq4 234 rfl rfl, tq4 235 rfl rfl⟩
set_option maxRecDepth 20000 in
theorem kX9_194 : CalS RX9 194 mX9_areTwo 2 := ⟨okX9_areTwo, npX9_areTwo, tq4 237 rfl rfl, tq4 238 rfl rfl⟩
set_option maxRecDepth 20000 in
theorem kX9_191 : CalS RX9 191 mX9_isClub 1 := ⟨okX9_isClub, npX9_isClub, tq5 0 rfl rfl, tq5 1 rfl rfl⟩
set_option maxRecDepth 20000 in
theorem kX9_197 : CalV RX9 197 9 mX9_comes 6 := ⟨okX9_comes, npX9_comes, ⟨by decide, _, rfl, rfl⟩, tq5 3 rfl rfl, tq5 5 rfl rfl, tq0 27 rfl rfl⟩
set_option maxRecDepth 20000 in
theorem kX9_180 : CalV RX9 180 9 mX9_holdsAlways 0 := ⟨okX9_holdsAlways, npX9_holdsAlways, ⟨by decide, _, rfl, rfl⟩, tq5 7 rfl rfl, tq5 9 rfl rfl, tq0 28 rfl rfl⟩
set_option maxRecDepth 20000 in
theorem kX9_183 : CalV RX9 183 9 mX9_lays 7 := ⟨okX9_lays, npX9_lays, ⟨by decide, _, rfl, rfl⟩, tq5 11 rfl rfl, tq5 13 rfl rfl, tq0 29 rfl rfl⟩
set_option maxRecDepth 20000 in
theorem kX9_187 : CalV RX9 187 9 mX9_isClashing 0 := ⟨okX9_isClashing, npX9_isClashing, ⟨by decide, _, rfl, rfl⟩, tq5 15 rfl rfl, tq5 17 rfl rfl, tq0 30 rfl rfl⟩
set_option maxRecDepth 20000 in
theorem kX9_170 : CalV RX9 170 9 mX9_laysOut 1 := ⟨okX9_laysOut, npX9_laysOut, ⟨by decide, _, rfl, rfl⟩, tq5 19 rfl rfl, tq5 21 rfl rfl, tq0 31 rfl rfl⟩
set_option maxRecDepth 20000 in
theorem kX9_158 : CalV RX9 158 9 mX9_conveyed 3 := ⟨okX9_conveyed, npX9_conveyed, ⟨by decide, _, rfl, rfl⟩, tq5 23 rfl rfl, tq5 25 rfl rfl, tq0 32 rfl rfl⟩
set_option maxRecDepth 20000 in
theorem kX9_151 : CalV RX9 151 9 mX9_isHolding 2 := ⟨okX9_isHolding, npX9_isHolding, ⟨by decide, _, rfl, rfl⟩, tq5 27 rfl rfl, tq5 29 rfl rfl, tq0 33 rfl rfl⟩
set_option maxRecDepth 20000 in
theorem kX9_155 : CalV RX9 155 9 mX9_goesOn 2 := ⟨okX9_goesOn, npX9_goesOn, ⟨by decide, _, rfl, rfl⟩, tq5 31 rfl rfl, tq5 33 rfl rfl, tq0 34 rfl rfl⟩
set_option maxRecDepth 20000 in
theorem kX9_145 : CalV RX9 145 9 mX9_its 2 := ⟨okX9_its, npX9_its, ⟨by decide, _, rfl, rfl⟩, tq5 35 rfl rfl, tq5 37 rfl rfl, tq0 35 rfl rfl⟩
set_option maxRecDepth 20000 in
theorem kX9_148 : CalS RX9 148 mX9_rolled 3 := ⟨okX9_rolled, npX9_rolled, tq5 39 rfl rfl, tq5 40 rfl rfl⟩
set_option maxRecDepth 20000 in
theorem kX9_174 : CalV RX9 174 9 mX9_clashOf 1 := ⟨okX9_clashOf, npX9_clashOf, ⟨by decide, _, rfl, rfl⟩, tq5 42 rfl rfl, tq5 44 rfl rfl, tq0 36 rfl rfl⟩
set_option maxRecDepth 20000 in
theorem kX9_164 : CalV RX9 164 9 mX9_goesTo 2 := ⟨okX9_goesTo, npX9_goesTo, ⟨by decide, _, rfl, rfl⟩, tq5 46 rfl rfl, tq5 48 rfl rfl, tq0 37 rfl rfl⟩
set_option maxRecDepth 20000 in
theorem kX9_167 : CalV RX9 167 9 mX9_chains 1 := ⟨okX9_chains, npX9_chains, ⟨by decide, _, rfl, rfl⟩, tq5 50 rfl rfl, tq5 52 rfl rfl, tq0 38 rfl rfl⟩
set_option maxRecDepth 20000 in
theorem kL_44 : CalV RL 44 9 mX9_swap 5 := ⟨okX9_swap, npX9_swap, ⟨by decide, _, rfl, rfl⟩, tq5 54 rfl rfl, tq5 55 rfl rfl, tq5 56 rfl rfl⟩
set_option maxRecDepth 20000 in
theorem kX9_201 : CalS RX9 201 mX9_areOfYear 2 := ⟨okX9_areOfYear, npX9_areOfYear, tq5 58 rfl rfl, tq5 59 rfl rfl⟩
set_option maxRecDepth 20000 in
theorem kL_52 : CalV RL 52 9 mX9_of 2 := ⟨okX9_of, npX9_of, ⟨by decide, _, rfl, rfl⟩, tq5 61 rfl rfl, tq5 62 rfl rfl, tq5 63 rfl rfl⟩
set_option maxRecDepth 20000 in
theorem kX9_207 : CalV RX9 207 9 mX9_isDeal 1 := ⟨okX9_isDeal, npX9_isDeal, ⟨by decide, _, rfl, rfl⟩, tq5 65 rfl rfl, tq5 67 rfl rfl, tq0 39 rfl rfl⟩
set_option maxRecDepth 20000 in
theorem kX9_212 : CalV RX9 212 9 mX9_standing 1 := ⟨okX9_standing, npX9_standing, ⟨by decide, _, rfl, rfl⟩, tq5 70 rfl rfl, tq5 72 rfl rfl, tq0 40 rfl rfl⟩
set_option maxRecDepth 20000 in
theorem kX9_204 : CalV RX9 204 9 mX9_isLapsing 2 := ⟨okX9_isLapsing, npX9_isLapsing, ⟨by decide, _, rfl, rfl⟩, tq5 74 rfl rfl, tq5 76 rfl rfl, tq0 41 rfl rfl⟩
set_option maxRecDepth 20000 in
theorem kL_56 : CalV RL 56 9 mX9_holds 2 := ⟨okX9_holds, npX9_holds, ⟨by decide, _, rfl, rfl⟩, tq5 78 rfl rfl, tq5 79 rfl rfl, tq5 80 rfl rfl⟩
set_option maxRecDepth 20000 in
theorem kL_61 : CalV RL 61 9 mX9_conveys 3 := ⟨okX9_conveys, npX9_conveys, ⟨by decide, _, rfl, rfl⟩, tq5 82 rfl rfl, tq5 83 rfl rfl, tq5 84 rfl rfl⟩
set_option maxRecDepth 20000 in
theorem kL_65 : CalV RL 65 9 mX9_drop 0 := ⟨okX9_drop, npX9_drop, ⟨by decide, _, rfl, rfl⟩, tq5 86 rfl rfl, tq5 87 rfl rfl, tq5 88 rfl rfl⟩
set_option maxRecDepth 20000 in
theorem kL_69 : CalV RL 69 9 mX9_prune 0 := ⟨okX9_prune, npX9_prune, ⟨by decide, _, rfl, rfl⟩, tq5 90 rfl rfl, tq5 91 rfl rfl, tq5 92 rfl rfl⟩
set_option maxRecDepth 20000 in
theorem kX9_215 : CalV RX9 215 9 mX9_moves 2 := ⟨okX9_moves, npX9_moves, ⟨by decide, _, rfl, rfl⟩, tq5 94 rfl rfl, tq5 96 rfl rfl, tq0 42 rfl rfl⟩
set_option maxRecDepth 20000 in
theorem kL_73 : CalV RL 73 9 mX9_clash 1 := ⟨okX9_clash, npX9_clash, ⟨by decide, _, rfl, rfl⟩, tq5 98 rfl rfl, tq5 99 rfl rfl, tq5 100 rfl rfl⟩
set_option maxRecDepth 20000 in
theorem kL_77 : CalV RL 77 9 mX9_owner 2 := ⟨okX9_owner, npX9_owner, ⟨by decide, _, rfl, rfl⟩, tq5 102 rfl rfl, tq5 103 rfl rfl, tq5 104 rfl rfl⟩
set_option maxRecDepth 20000 in
theorem kX9_222 : CalV RX9 222 9 mX9_isOpen 1 := ⟨okX9_isOpen, npX9_isOpen, ⟨by decide, _, rfl, rfl⟩, tq5 106 rfl rfl, tq5 108 rfl rfl, tq0 43 rfl rfl⟩
set_option maxRecDepth 20000 in
theorem kX9_225 : CalV RX9 225 9 mX9_ownerUnder 2 := ⟨okX9_ownerUnder, npX9_ownerUnder, ⟨by decide, _, rfl, rfl⟩, tq5 110 rfl rfl, tq5 112 rfl rfl, tq0 44 rfl rfl⟩
set_option maxRecDepth 20000 in
theorem kX9_219 : CalV RX9 219 9 mX9_ownerOf 1 := ⟨okX9_ownerOf, npX9_ownerOf, ⟨by decide, _, rfl, rfl⟩, tq5 114 rfl rfl, tq5 116 rfl rfl, tq0 45 rfl rfl⟩
set_option maxRecDepth 20000 in
theorem kL_81 : CalV RL 81 9 mX9_chain 3 := ⟨okX9_chain, npX9_chain, ⟨by decide, _, rfl, rfl⟩, tq5 118 rfl rfl, tq5 119 rfl rfl, tq5 120 rfl rfl⟩
set_option maxRecDepth 20000 in
theorem kL_85 : CalV RL 85 9 mX9_hand 2 := ⟨okX9_hand, npX9_hand, ⟨by decide, _, rfl, rfl⟩, tq5 122 rfl rfl, tq5 123 rfl rfl, tq5 124 rfl rfl⟩
set_option maxRecDepth 20000 in
theorem kL_89 : CalV RL 89 9 mX9_owners 1 := ⟨okX9_owners, npX9_owners, ⟨by decide, _, rfl, rfl⟩, tq5 126 rfl rfl, tq5 127 rfl rfl, tq5 128 rfl rfl⟩
set_option maxRecDepth 20000 in
theorem kX9_228 : CalV RX9 228 9 mX9_chanceOf 2 := ⟨okX9_chanceOf, npX9_chanceOf, ⟨by decide, _, rfl, rfl⟩, tq5 130 rfl rfl, tq5 132 rfl rfl, tq0 46 rfl rfl⟩
set_option maxRecDepth 20000 in
theorem kL_93 : CalV RL 93 9 mX9_sure 1 := ⟨okX9_sure, npX9_sure, ⟨by decide, _, rfl, rfl⟩, tq5 134 rfl rfl, tq5 135 rfl rfl, tq5 136 rfl rfl⟩
set_option maxRecDepth 20000 in
theorem kL_97 : CalV RL 97 9 mX9_chance 2 := ⟨okX9_chance, npX9_chance, ⟨by decide, _, rfl, rfl⟩, tq5 138 rfl rfl, tq5 139 rfl rfl, tq5 140 rfl rfl⟩
set_option maxRecDepth 20000 in
theorem kL_101 : CalV RL 101 9 mX9_least 2 := ⟨okX9_least, npX9_least, ⟨by decide, _, rfl, rfl⟩, tq5 142 rfl rfl, tq5 143 rfl rfl, tq5 144 rfl rfl⟩
set_option maxRecDepth 20000 in
theorem kL_105 : CalV RL 105 9 mX9_price 2 := ⟨okX9_price, npX9_price, ⟨by decide, _, rfl, rfl⟩, tq5 146 rfl rfl, tq5 147 rfl rfl, tq5 148 rfl rfl⟩
set_option maxRecDepth 20000 in
theorem kL_109 : CalV RL 109 9 mX9_worth 2 := ⟨okX9_worth, npX9_worth, ⟨by decide, _, rfl, rfl⟩, tq5 151 rfl rfl, tq5 152 rfl rfl, tq5 153 rfl rfl⟩
set_option maxRecDepth 20000 in
theorem kX9_233 : CalV RX9 233 9 mX9_worthOf 2 := ⟨okX9_worthOf, npX9_worthOf, ⟨by decide, _, rfl, rfl⟩, tq5 155 rfl rfl, tq5 157 rfl rfl, tq0 47 rfl rfl⟩
set_option maxRecDepth 20000 in
theorem kL_114 : CalV RL 114 9 mX9_value 1 := ⟨okX9_value, npX9_value, ⟨by decide, _, rfl, rfl⟩, tq5 159 rfl rfl, tq5 160 rfl rfl, tq5 161 rfl rfl⟩
set_option maxRecDepth 20000 in
theorem kX9_236 : CalV RX9 236 9 mX9_valueFrom 3 := ⟨okX9_valueFrom, npX9_valueFrom, ⟨by decide, _, rfl, rfl⟩, tq5 163 rfl rfl, tq5 165 rfl rfl, tq0 48 rfl rfl⟩
set_option maxRecDepth 20000 in
theorem kX9_240 : CalV RX9 240 9 mX9_findsFar 1 := ⟨okX9_findsFar, npX9_findsFar, ⟨by decide, _, rfl, rfl⟩, tq5 167 rfl rfl, tq5 169 rfl rfl, tq0 49 rfl rfl⟩
set_option maxRecDepth 20000 in
theorem kL_118 : CalV RL 118 9 mX9_best 2 := ⟨okX9_best, npX9_best, ⟨by decide, _, rfl, rfl⟩, tq5 172 rfl rfl, tq5 173 rfl rfl, tq5 174 rfl rfl⟩
set_option maxRecDepth 20000 in
theorem kL_122 : CalV RL 122 9 mX9_hope 1 := ⟨okX9_hope, npX9_hope, ⟨by decide, _, rfl, rfl⟩, tq5 176 rfl rfl, tq5 177 rfl rfl, tq5 178 rfl rfl⟩
set_option maxRecDepth 20000 in
theorem kL_138 : CalV RL 138 9 mX9_feed 2 := ⟨okX9_feed, npX9_feed, ⟨by decide, _, rfl, rfl⟩, tq5 181 rfl rfl, tq5 182 rfl rfl, tq5 183 rfl rfl⟩
set_option maxRecDepth 20000 in
theorem kL_142 : CalV RL 142 9 mX9_wipe 0 := ⟨okX9_wipe, npX9_wipe, ⟨by decide, _, rfl, rfl⟩, tq5 186 rfl rfl, tq5 187 rfl rfl, tq5 188 rfl rfl⟩
set_option maxRecDepth 20000 in
theorem kL_48 : CalV RL 48 9 mX9_text 0 := ⟨okX9_text, npX9_text, ⟨by decide, _, rfl, rfl⟩, tq5 190 rfl rfl, tq5 191 rfl rfl, tq5 192 rfl rfl⟩
set_option maxRecDepth 20000 in
theorem kX9_340 : CalV RX9 340 9 mX9_isTextClashing 0 := ⟨okX9_isTextClashing, npX9_isTextClashing, ⟨by decide, _, rfl, rfl⟩, tq5 194 rfl rfl, tq5 196 rfl rfl, tq0 50 rfl rfl⟩
set_option maxRecDepth 20000 in
theorem kX9_278 : CalV RX9 278 9 mX9_token 0 := ⟨okX9_token, npX9_token, ⟨by decide, _, rfl, rfl⟩, tq5 198 rfl rfl, tq5 200 rfl rfl, tq0 51 rfl rfl⟩
set_option maxRecDepth 20000 in
theorem kX9_265 : CalV RX9 265 9 mX9_byteAt 1 := ⟨okX9_byteAt, npX9_byteAt, ⟨by decide, _, rfl, rfl⟩, tq5 202 rfl rfl, tq5 204 rfl rfl, tq0 52 rfl rfl⟩
set_option maxRecDepth 20000 in
theorem kX9_268 : CalS RX9 268 mX9_isLetter 1 := ⟨okX9_isLetter, npX9_isLetter, tq5 206 rfl rfl, tq5 207 rfl rfl⟩
set_option maxRecDepth 20000 in
theorem kX9_271 : CalS RX9 271 mX9_isDigit 1 := ⟨okX9_isDigit, npX9_isDigit, tq5 211 rfl rfl, tq5 212 rfl rfl⟩
set_option maxRecDepth 20000 in
theorem kX9_337 : CalV RX9 337 9 mX9_isItemClashing 0 := ⟨okX9_isItemClashing, npX9_isItemClashing, ⟨by decide, _, rfl, rfl⟩, tq5 216 rfl rfl, tq5 218 rfl rfl, tq0 53 rfl rfl⟩
set_option maxRecDepth 20000 in
theorem kX9_281 : CalV RX9 281 9 mX9_isWord 1 := ⟨okX9_isWord, npX9_isWord, ⟨by decide, _, rfl, rfl⟩, tq5 220 rfl rfl, tq5 222 rfl rfl, tq0 54 rfl rfl⟩
set_option maxRecDepth 20000 in
theorem kX9_287 : CalV RX9 287 9 mX9_must 1 := ⟨okX9_must, npX9_must, ⟨by decide, _, rfl, rfl⟩, tq5 224 rfl rfl, tq5 226 rfl rfl, tq0 55 rfl rfl⟩
set_option maxRecDepth 20000 in
theorem kX9_294 : CalV RX9 294 9 mX9_number 2 := ⟨okX9_number, npX9_number, ⟨by decide, _, rfl, rfl⟩, tq5 228 rfl rfl, tq5 230 rfl rfl, tq0 56 rfl rfl⟩
set_option maxRecDepth 20000 in
theorem kX9_284 : CalV RX9 284 9 mX9_numberHere 0 := ⟨okX9_numberHere, npX9_numberHere, ⟨by decide, _, rfl, rfl⟩, tq5 232 rfl rfl, tq5 234 rfl rfl, tq0 57 rfl rfl⟩
set_option maxRecDepth 20000 in
theorem kX9_312 : CalV RX9 312 9 mX9_takes 1 := ⟨okX9_takes, npX9_takes, ⟨by decide, _, rfl, rfl⟩, tq5 236 rfl rfl, tq5 238 rfl rfl, tq0 58 rfl rfl⟩
set_option maxRecDepth 20000 in
theorem kX9_309 : CalV RX9 309 9 mX9_either 0 := ⟨okX9_either, npX9_either, ⟨by decide, _, rfl, rfl⟩, tq6 0 rfl rfl, tq6 2 rfl rfl, tq0 59 rfl rfl⟩
set_option maxRecDepth 20000 in
theorem kX9_322 : CalV RX9 322 9 mX9_both 0 := ⟨okX9_both, npX9_both, ⟨by decide, _, rfl, rfl⟩, tq6 4 rfl rfl, tq6 6 rfl rfl, tq0 60 rfl rfl⟩
set_option maxRecDepth 20000 in
theorem kX9_306 : CalV RX9 306 9 mX9_factor 0 := ⟨okX9_factor, npX9_factor, ⟨by decide, _, rfl, rfl⟩, tq6 8 rfl rfl, tq6 10 rfl rfl, tq0 61 rfl rfl⟩
set_option maxRecDepth 20000 in
theorem kX9_300 : CalV RX9 300 9 mX9_isSign 1 := ⟨okX9_isSign, npX9_isSign, ⟨by decide, _, rfl, rfl⟩, tq6 12 rfl rfl, tq6 14 rfl rfl, tq0 62 rfl rfl⟩
set_option maxRecDepth 20000 in
theorem kX9_297 : CalV RX9 297 9 mX9_codes 1 := ⟨okX9_codes, npX9_codes, ⟨by decide, _, rfl, rfl⟩, tq6 16 rfl rfl, tq6 18 rfl rfl, tq0 63 rfl rfl⟩
set_option maxRecDepth 20000 in
theorem kX9_315 : CalV RX9 315 9 mX9_three 2 := ⟨okX9_three, npX9_three, ⟨by decide, _, rfl, rfl⟩, tq6 20 rfl rfl, tq6 22 rfl rfl, tq0 64 rfl rfl⟩
set_option maxRecDepth 20000 in
theorem kX9_334 : CalV RX9 334 9 mX9_laysCondition 0 := ⟨okX9_laysCondition, npX9_laysCondition, ⟨by decide, _, rfl, rfl⟩, tq6 24 rfl rfl, tq6 26 rfl rfl, tq0 65 rfl rfl⟩
set_option maxRecDepth 20000 in
theorem kX9_328 : CalV RX9 328 9 mX9_isTrue 1 := ⟨okX9_isTrue, npX9_isTrue, ⟨by decide, _, rfl, rfl⟩, tq6 28 rfl rfl, tq6 30 rfl rfl, tq0 66 rfl rfl⟩
set_option maxRecDepth 20000 in
theorem kX9_325 : CalV RX9 325 9 mX9_isTest 2 := ⟨okX9_isTest, npX9_isTest, ⟨by decide, _, rfl, rfl⟩, tq6 32 rfl rfl, tq6 34 rfl rfl, tq0 67 rfl rfl⟩
set_option maxRecDepth 20000 in
theorem kL_146 : CalV RL 146 9 mX9_sheet 3 := ⟨okX9_sheet, npX9_sheet, ⟨by decide, _, rfl, rfl⟩, tq6 36 rfl rfl, tq6 37 rfl rfl, tq6 38 rfl rfl⟩
set_option maxRecDepth 20000 in
theorem kX9_343 : CalS RX9 343 mX9_isSheet 1 := ⟨okX9_isSheet, npX9_isSheet, tq6 40 rfl rfl, tq6 41 rfl rfl⟩
set_option maxRecDepth 20000 in
theorem kL_153 : CalV RL 153 9 mX9_write 3 := ⟨okX9_write, npX9_write, ⟨by decide, _, rfl, rfl⟩, tq6 43 rfl rfl, tq6 44 rfl rfl, tq6 45 rfl rfl⟩
set_option maxRecDepth 20000 in
theorem kX9_346 : CalS RX9 346 mX9_narrowed 2 := ⟨okX9_narrowed, npX9_narrowed, tq6 47 rfl rfl, tq6 48 rfl rfl⟩
set_option maxRecDepth 20000 in
theorem kL_158 : CalV RL 158 9 mX9_item 2 := ⟨okX9_item, npX9_item, ⟨by decide, _, rfl, rfl⟩, tq6 50 rfl rfl, tq6 51 rfl rfl, tq6 52 rfl rfl⟩
set_option maxRecDepth 20000 in
theorem kL_162 : CalV RL 162 9 mX9_copy 5 := ⟨okX9_copy, npX9_copy, ⟨by decide, _, rfl, rfl⟩, tq6 54 rfl rfl, tq6 55 rfl rfl, tq6 56 rfl rfl⟩
set_option maxRecDepth 20000 in
theorem kL_126 : CalV RL 126 9 mX9_rounds 2 := ⟨okX9_rounds, npX9_rounds, ⟨by decide, _, rfl, rfl⟩, tq6 58 rfl rfl, tq6 59 rfl rfl, tq6 60 rfl rfl⟩
set_option maxRecDepth 20000 in
theorem kX9_353 : CalV RX9 353 9 mX9_areAll 1 := ⟨okX9_areAll, npX9_areAll, ⟨by decide, _, rfl, rfl⟩, tq6 62 rfl rfl, tq6 64 rfl rfl, tq0 68 rfl rfl⟩
set_option maxRecDepth 20000 in
theorem kX9_356 : CalV RX9 356 9 mX9_goesOver 1 := ⟨okX9_goesOver, npX9_goesOver, ⟨by decide, _, rfl, rfl⟩, tq6 66 rfl rfl, tq6 68 rfl rfl, tq0 69 rfl rfl⟩
set_option maxRecDepth 20000 in
theorem kX9_350 : CalV RX9 350 9 mX9_goesBy 2 := ⟨okX9_goesBy, npX9_goesBy, ⟨by decide, _, rfl, rfl⟩, tq6 70 rfl rfl, tq6 72 rfl rfl, tq0 70 rfl rfl⟩
set_option maxRecDepth 20000 in
theorem kL_130 : CalV RL 130 9 mX9_lays_ 2 := ⟨okX9_lays_, npX9_lays_, ⟨by decide, _, rfl, rfl⟩, tq6 74 rfl rfl, tq6 75 rfl rfl, tq6 76 rfl rfl⟩
set_option maxRecDepth 20000 in
theorem kL_134 : CalV RL 134 9 mX9_judge 2 := ⟨okX9_judge, npX9_judge, ⟨by decide, _, rfl, rfl⟩, tq6 78 rfl rfl, tq6 79 rfl rfl, tq6 80 rfl rfl⟩
set_option maxRecDepth 20000 in
theorem kL_166 : CalV RL 166 9 mX9_hold 2 := ⟨okX9_hold, npX9_hold, ⟨by decide, _, rfl, rfl⟩, tq6 82 rfl rfl, tq6 83 rfl rfl, tq6 84 rfl rfl⟩
set_option maxRecDepth 20000 in
theorem kX9_359 : CalS RX9 359 mX9_isSpot 1 := ⟨okX9_isSpot, npX9_isSpot, tq6 86 rfl rfl, tq6 87 rfl rfl⟩
set_option maxRecDepth 20000 in
theorem kL_170 : CalV RL 170 9 mX9_taken 2 := ⟨okX9_taken, npX9_taken, ⟨by decide, _, rfl, rfl⟩, tq6 89 rfl rfl, tq6 90 rfl rfl, tq6 91 rfl rfl⟩
set_option maxRecDepth 20000 in
theorem kX9_362 : CalS RX9 362 mX9_isUnder 2 := ⟨okX9_isUnder, npX9_isUnder, tq6 93 rfl rfl, tq6 94 rfl rfl⟩
set_option maxRecDepth 20000 in
theorem kL_174 : CalV RL 174 9 mX9_image 0 := ⟨okX9_image, npX9_image, ⟨by decide, _, rfl, rfl⟩, tq6 96 rfl rfl, tq6 97 rfl rfl, tq6 98 rfl rfl⟩
set_option maxRecDepth 20000 in
theorem kL_178 : CalV RL 178 9 mX9_back 0 := ⟨okX9_back, npX9_back, ⟨by decide, _, rfl, rfl⟩, tq6 100 rfl rfl, tq6 101 rfl rfl, tq6 102 rfl rfl⟩
set_option maxRecDepth 20000 in
theorem kL_182 : CalV RL 182 9 mX9_seed 1 := ⟨okX9_seed, npX9_seed, ⟨by decide, _, rfl, rfl⟩, tq6 104 rfl rfl, tq6 105 rfl rfl, tq6 106 rfl rfl⟩
set_option maxRecDepth 20000 in
theorem kL_186 : CalV RL 186 9 mX9_count 1 := ⟨okX9_count, npX9_count, ⟨by decide, _, rfl, rfl⟩, tq6 108 rfl rfl, tq6 109 rfl rfl, tq6 110 rfl rfl⟩
set_option maxRecDepth 20000 in
theorem kL_190 : CalV RL 190 9 mX9_status 1 := ⟨okX9_status, npX9_status, ⟨by decide, _, rfl, rfl⟩, tq6 112 rfl rfl, tq6 113 rfl rfl, tq6 114 rfl rfl⟩
set_option maxRecDepth 20000 in
theorem w_objI : .instanceMethod Lib.objectInit ∈ TT := tq1 23 rfl rfl
set_option maxRecDepth 20000 in
theorem w_objC : .code Lib.objectInit ⟨#[0xb1]⟩ 1 none ∈ TT := tq1 24 rfl rfl
-- fields
set_option maxRecDepth 20000 in
theorem fX0_11 : Fld RX0 11 0 0 (.array (.object "RolledPicks$Deal")) true := ⟨_, rfl, by decide, tq1 33 rfl rfl, rfl, rfl, rfl⟩
set_option maxRecDepth 20000 in
theorem fX8_166 : Fld RX8 166 0 0 (.array (.object "RolledPicks$Deal")) true := ⟨_, rfl, by decide, tq1 34 rfl rfl, rfl, rfl, rfl⟩
set_option maxRecDepth 20000 in
theorem fX0_28 : Fld RX0 28 0 1 (.int) false := ⟨_, rfl, by decide, tq1 35 rfl rfl, rfl, rfl, rfl⟩
set_option maxRecDepth 20000 in
theorem fX3_60 : Fld RX3 60 0 1 (.int) false := ⟨_, rfl, by decide, tq1 36 rfl rfl, rfl, rfl, rfl⟩
set_option maxRecDepth 20000 in
theorem fX8_101 : Fld RX8 101 0 1 (.int) false := ⟨_, rfl, by decide, tq1 37 rfl rfl, rfl, rfl, rfl⟩
set_option maxRecDepth 20000 in
theorem fX0_17 : Fld RX0 17 0 2 (.array .int) true := ⟨_, rfl, by decide, tq1 38 rfl rfl, rfl, rfl, rfl⟩
set_option maxRecDepth 20000 in
theorem fX8_77 : Fld RX8 77 0 2 (.array .int) true := ⟨_, rfl, by decide, tq1 39 rfl rfl, rfl, rfl, rfl⟩
set_option maxRecDepth 20000 in
theorem fX0_37 : Fld RX0 37 0 3 (.int) false := ⟨_, rfl, by decide, tq1 40 rfl rfl, rfl, rfl, rfl⟩
set_option maxRecDepth 20000 in
theorem fX8_73 : Fld RX8 73 0 3 (.int) false := ⟨_, rfl, by decide, tq1 41 rfl rfl, rfl, rfl, rfl⟩
set_option maxRecDepth 20000 in
theorem fX3_75 : Fld RX3 75 0 3 (.int) false := ⟨_, rfl, by decide, tq1 42 rfl rfl, rfl, rfl, rfl⟩
set_option maxRecDepth 20000 in
theorem fX0_21 : Fld RX0 21 0 4 (.array .int) true := ⟨_, rfl, by decide, tq1 43 rfl rfl, rfl, rfl, rfl⟩
set_option maxRecDepth 20000 in
theorem fX8_184 : Fld RX8 184 0 4 (.array .int) true := ⟨_, rfl, by decide, tq1 44 rfl rfl, rfl, rfl, rfl⟩
set_option maxRecDepth 20000 in
theorem fX0_24 : Fld RX0 24 0 5 (.int) false := ⟨_, rfl, by decide, tq1 45 rfl rfl, rfl, rfl, rfl⟩
set_option maxRecDepth 20000 in
theorem fX8_80 : Fld RX8 80 0 5 (.int) false := ⟨_, rfl, by decide, tq1 46 rfl rfl, rfl, rfl, rfl⟩
set_option maxRecDepth 20000 in
theorem fX2_9 : Fld RX2 9 2 0 (.array .int) true := ⟨_, rfl, by decide, tq1 68 rfl rfl, rfl, rfl, rfl⟩
set_option maxRecDepth 20000 in
theorem fX7_9 : Fld RX7 9 7 0 (.array .byte) true := ⟨_, rfl, by decide, tq1 84 rfl rfl, rfl, rfl, rfl⟩
set_option maxRecDepth 20000 in
theorem fX7_15 : Fld RX7 15 7 1 (.int) false := ⟨_, rfl, by decide, tq1 85 rfl rfl, rfl, rfl, rfl⟩
set_option maxRecDepth 20000 in
theorem fX8_112 : Fld RX8 112 7 1 (.int) false := ⟨_, rfl, by decide, tq1 86 rfl rfl, rfl, rfl, rfl⟩
set_option maxRecDepth 20000 in
theorem fX7_25 : Fld RX7 25 7 2 (.int) false := ⟨_, rfl, by decide, tq1 87 rfl rfl, rfl, rfl, rfl⟩
set_option maxRecDepth 20000 in
theorem fX7_19 : Fld RX7 19 7 3 (.int) false := ⟨_, rfl, by decide, tq1 88 rfl rfl, rfl, rfl, rfl⟩
set_option maxRecDepth 20000 in
theorem fX6_11 : Fld RX6 11 6 0 (.array .long) true := ⟨_, rfl, by decide, tq1 107 rfl rfl, rfl, rfl, rfl⟩
set_option maxRecDepth 20000 in
theorem fX3_12 : Fld RX3 12 3 0 (.object "RolledPicks$Tape") true := ⟨_, rfl, by decide, tq1 112 rfl rfl, rfl, rfl, rfl⟩
set_option maxRecDepth 20000 in
theorem fX8_108 : Fld RX8 108 3 0 (.object "RolledPicks$Tape") true := ⟨_, rfl, by decide, tq1 113 rfl rfl, rfl, rfl, rfl⟩
set_option maxRecDepth 20000 in
theorem fX3_20 : Fld RX3 20 3 1 (.array (.object "RolledPicks$Deal")) true := ⟨_, rfl, by decide, tq1 114 rfl rfl, rfl, rfl, rfl⟩
set_option maxRecDepth 20000 in
theorem fX3_31 : Fld RX3 31 3 2 (.int) false := ⟨_, rfl, by decide, tq1 115 rfl rfl, rfl, rfl, rfl⟩
set_option maxRecDepth 20000 in
theorem fX3_26 : Fld RX3 26 3 3 (.array (.object "RolledPicks$Standings")) true := ⟨_, rfl, by decide, tq1 116 rfl rfl, rfl, rfl, rfl⟩
set_option maxRecDepth 20000 in
theorem fX5_9 : Fld RX5 9 5 0 (.array .long) true := ⟨_, rfl, by decide, tq1 134 rfl rfl, rfl, rfl, rfl⟩
set_option maxRecDepth 20000 in
theorem fX8_225 : Fld RX8 225 5 0 (.array .long) true := ⟨_, rfl, by decide, tq1 135 rfl rfl, rfl, rfl, rfl⟩
set_option maxRecDepth 20000 in
theorem fX5_15 : Fld RX5 15 5 1 (.int) false := ⟨_, rfl, by decide, tq1 136 rfl rfl, rfl, rfl, rfl⟩
set_option maxRecDepth 20000 in
theorem fX8_236 : Fld RX8 236 5 1 (.int) false := ⟨_, rfl, by decide, tq1 137 rfl rfl, rfl, rfl, rfl⟩
set_option maxRecDepth 20000 in
theorem fX5_19 : Fld RX5 19 5 2 (.int) false := ⟨_, rfl, by decide, tq1 138 rfl rfl, rfl, rfl, rfl⟩
set_option maxRecDepth 20000 in
theorem fX8_207 : Fld RX8 207 5 2 (.int) false := ⟨_, rfl, by decide, tq1 139 rfl rfl, rfl, rfl, rfl⟩
set_option maxRecDepth 20000 in
theorem fX8_10 : Fld RX8 10 8 0 (.object "RolledPicks$Book") true := ⟨_, rfl, by decide, tq1 152 rfl rfl, rfl, rfl, rfl⟩
set_option maxRecDepth 20000 in
theorem fX8_16 : Fld RX8 16 8 1 (.array (.object "RolledPicks$Book")) true := ⟨_, rfl, by decide, tq1 153 rfl rfl, rfl, rfl, rfl⟩
set_option maxRecDepth 20000 in
theorem fX8_254 : Fld RX8 254 8 2 (.int) false := ⟨_, rfl, by decide, tq1 154 rfl rfl, rfl, rfl, rfl⟩
set_option maxRecDepth 20000 in
theorem fX8_23 : Fld RX8 23 8 3 (.object "RolledPicks$Owners") true := ⟨_, rfl, by decide, tq1 155 rfl rfl, rfl, rfl, rfl⟩
set_option maxRecDepth 20000 in
theorem fX8_30 : Fld RX8 30 8 4 (.object "RolledPicks$Reader") true := ⟨_, rfl, by decide, tq1 156 rfl rfl, rfl, rfl, rfl⟩
set_option maxRecDepth 20000 in
theorem fX8_36 : Fld RX8 36 8 5 (.array (.object "RolledPicks$Sheet")) true := ⟨_, rfl, by decide, tq1 157 rfl rfl, rfl, rfl, rfl⟩
set_option maxRecDepth 20000 in
theorem fX8_42 : Fld RX8 42 8 6 (.array (.object "RolledPicks$Deal")) true := ⟨_, rfl, by decide, tq1 158 rfl rfl, rfl, rfl, rfl⟩
set_option maxRecDepth 20000 in
theorem fX8_46 : Fld RX8 46 8 7 (.array .int) true := ⟨_, rfl, by decide, tq1 159 rfl rfl, rfl, rfl, rfl⟩
set_option maxRecDepth 20000 in
theorem fX8_50 : Fld RX8 50 8 8 (.array .int) true := ⟨_, rfl, by decide, tq1 160 rfl rfl, rfl, rfl, rfl⟩
set_option maxRecDepth 20000 in
theorem gX8_66 : .fieldLink RX8 66 RX8 "CLUB_AT" "[I" ∈ TT := tq1 192 rfl rfl
set_option maxRecDepth 20000 in
theorem gX8_198 : .fieldLink RX8 198 RX8 "YEAR_STEP" "[I" ∈ TT := tq1 201 rfl rfl
set_option maxRecDepth 20000 in
theorem gX8_263 : .fieldLink RX8 263 RX8 "PLACE_OF" "[I" ∈ TT := tq1 203 rfl rfl
theorem gX0_40 : .fieldLinkNest RX0 40 RX8 "YEAR_STEP" "[I" RX8 ∈ nestW := by simp [nestW]
theorem gX0_43 : .fieldLinkNest RX0 43 RX8 "OPEN_LEFT" "[I" RX8 ∈ nestW := by simp [nestW]
set_option maxRecDepth 20000 in
theorem fX1_9 : Fld RX1 9 1 0 (.int) true := ⟨_, rfl, by decide, tq2 1 rfl rfl, rfl, rfl, rfl⟩
set_option maxRecDepth 20000 in
theorem fX8_131 : Fld RX8 131 1 0 (.int) true := ⟨_, rfl, by decide, tq2 2 rfl rfl, rfl, rfl, rfl⟩
set_option maxRecDepth 20000 in
theorem fX1_15 : Fld RX1 15 1 1 (.int) true := ⟨_, rfl, by decide, tq2 3 rfl rfl, rfl, rfl, rfl⟩
set_option maxRecDepth 20000 in
theorem fX4_25 : Fld RX4 25 1 1 (.int) true := ⟨_, rfl, by decide, tq2 4 rfl rfl, rfl, rfl, rfl⟩
set_option maxRecDepth 20000 in
theorem fX2_33 : Fld RX2 33 1 1 (.int) true := ⟨_, rfl, by decide, tq2 5 rfl rfl, rfl, rfl, rfl⟩
set_option maxRecDepth 20000 in
theorem fX8_134 : Fld RX8 134 1 1 (.int) true := ⟨_, rfl, by decide, tq2 6 rfl rfl, rfl, rfl, rfl⟩
set_option maxRecDepth 20000 in
theorem fX1_18 : Fld RX1 18 1 2 (.int) true := ⟨_, rfl, by decide, tq2 7 rfl rfl, rfl, rfl, rfl⟩
set_option maxRecDepth 20000 in
theorem fX4_31 : Fld RX4 31 1 2 (.int) true := ⟨_, rfl, by decide, tq2 8 rfl rfl, rfl, rfl, rfl⟩
set_option maxRecDepth 20000 in
theorem fX2_22 : Fld RX2 22 1 2 (.int) true := ⟨_, rfl, by decide, tq2 9 rfl rfl, rfl, rfl, rfl⟩
set_option maxRecDepth 20000 in
theorem fX8_137 : Fld RX8 137 1 2 (.int) true := ⟨_, rfl, by decide, tq2 10 rfl rfl, rfl, rfl, rfl⟩
set_option maxRecDepth 20000 in
theorem fX1_21 : Fld RX1 21 1 3 (.int) true := ⟨_, rfl, by decide, tq2 11 rfl rfl, rfl, rfl, rfl⟩
set_option maxRecDepth 20000 in
theorem fX8_140 : Fld RX8 140 1 3 (.int) true := ⟨_, rfl, by decide, tq2 12 rfl rfl, rfl, rfl, rfl⟩
set_option maxRecDepth 20000 in
theorem fX1_24 : Fld RX1 24 1 4 (.int) true := ⟨_, rfl, by decide, tq2 13 rfl rfl, rfl, rfl, rfl⟩
set_option maxRecDepth 20000 in
theorem fX2_30 : Fld RX2 30 1 4 (.int) true := ⟨_, rfl, by decide, tq2 14 rfl rfl, rfl, rfl, rfl⟩
set_option maxRecDepth 20000 in
theorem fX8_143 : Fld RX8 143 1 4 (.int) true := ⟨_, rfl, by decide, tq2 15 rfl rfl, rfl, rfl, rfl⟩
set_option maxRecDepth 20000 in
theorem fX1_27 : Fld RX1 27 1 5 (.int) true := ⟨_, rfl, by decide, tq2 16 rfl rfl, rfl, rfl, rfl⟩
set_option maxRecDepth 20000 in
theorem fX8_146 : Fld RX8 146 1 5 (.int) true := ⟨_, rfl, by decide, tq2 17 rfl rfl, rfl, rfl, rfl⟩
set_option maxRecDepth 20000 in
theorem fX1_30 : Fld RX1 30 1 6 (.object "RolledPicks$Standings") true := ⟨_, rfl, by decide, tq2 18 rfl rfl, rfl, rfl, rfl⟩
set_option maxRecDepth 20000 in
theorem fX8_149 : Fld RX8 149 1 6 (.object "RolledPicks$Standings") true := ⟨_, rfl, by decide, tq2 19 rfl rfl, rfl, rfl, rfl⟩
set_option maxRecDepth 20000 in
theorem fJ0_38 : .fieldLink RJ0 38 "java/lang/String" "COMPACT_STRINGS" "Z" ∈ TT := tq2 136 rfl rfl
set_option maxRecDepth 20000 in
theorem fJ0_1053 : .fieldLink RJ0 1053 "jdk/internal/util/Preconditions" "SIOOBE_FORMATTER" "Ljava/util/function/BiFunction;" ∈ TT := tq2 152 rfl rfl
set_option maxRecDepth 20000 in
theorem fJ2_44 : .fieldLink RJ2 44 "java/lang/StringUTF16" "$assertionsDisabled" "Z" ∈ TT := tq2 170 rfl rfl
set_option maxRecDepth 20000 in
theorem fJ2_59 : .fieldLink RJ2 59 "java/lang/StringUTF16" "HI_BYTE_SHIFT" "I" ∈ TT := tq2 172 rfl rfl
set_option maxRecDepth 20000 in
theorem fJ2_63 : .fieldLink RJ2 63 "java/lang/StringUTF16" "LO_BYTE_SHIFT" "I" ∈ TT := tq2 174 rfl rfl
set_option maxRecDepth 20000 in
theorem fX4_15 : Fld RX4 15 4 0 (.int) true := ⟨_, rfl, by decide, tq3 167 rfl rfl, rfl, rfl, rfl⟩
set_option maxRecDepth 20000 in
theorem fX4_9 : Fld RX4 9 4 1 (.array .int) true := ⟨_, rfl, by decide, tq3 168 rfl rfl, rfl, rfl, rfl⟩
set_option maxRecDepth 20000 in
theorem fX4_28 : Fld RX4 28 4 2 (.int) false := ⟨_, rfl, by decide, tq3 169 rfl rfl, rfl, rfl, rfl⟩
set_option maxRecDepth 20000 in
theorem fX4_37 : Fld RX4 37 4 3 (.int) false := ⟨_, rfl, by decide, tq3 170 rfl rfl, rfl, rfl, rfl⟩
set_option maxRecDepth 20000 in
theorem gX8_266 : .fieldLink RX8 266 RX8 "KIND_ABOVE" "[I" ∈ TT := tq4 13 rfl rfl
set_option maxRecDepth 20000 in
theorem fX9_7 : Fld RX9 7 9 0 (.array .int) true := ⟨_, rfl, by decide, tq4 54 rfl rfl, rfl, rfl, rfl⟩
set_option maxRecDepth 20000 in
theorem fX9_116 : Fld RX9 116 9 1 (.int) false := ⟨_, rfl, by decide, tq4 55 rfl rfl, rfl, rfl, rfl⟩
set_option maxRecDepth 20000 in
theorem fX9_13 : Fld RX9 13 9 2 (.array .int) true := ⟨_, rfl, by decide, tq4 56 rfl rfl, rfl, rfl, rfl⟩
set_option maxRecDepth 20000 in
theorem fX9_16 : Fld RX9 16 9 3 (.int) false := ⟨_, rfl, by decide, tq4 57 rfl rfl, rfl, rfl, rfl⟩
set_option maxRecDepth 20000 in
theorem fX9_89 : Fld RX9 89 9 4 (.int) false := ⟨_, rfl, by decide, tq4 58 rfl rfl, rfl, rfl, rfl⟩
set_option maxRecDepth 20000 in
theorem fX9_20 : Fld RX9 20 9 5 (.array .int) true := ⟨_, rfl, by decide, tq4 59 rfl rfl, rfl, rfl, rfl⟩
set_option maxRecDepth 20000 in
theorem fX9_23 : Fld RX9 23 9 6 (.array .int) true := ⟨_, rfl, by decide, tq4 60 rfl rfl, rfl, rfl, rfl⟩
set_option maxRecDepth 20000 in
theorem fX9_177 : Fld RX9 177 9 7 (.int) false := ⟨_, rfl, by decide, tq4 61 rfl rfl, rfl, rfl, rfl⟩
set_option maxRecDepth 20000 in
theorem fX9_26 : Fld RX9 26 9 8 (.array .int) true := ⟨_, rfl, by decide, tq4 62 rfl rfl, rfl, rfl, rfl⟩
set_option maxRecDepth 20000 in
theorem fX9_29 : Fld RX9 29 9 9 (.array .int) true := ⟨_, rfl, by decide, tq4 63 rfl rfl, rfl, rfl, rfl⟩
set_option maxRecDepth 20000 in
theorem fX9_32 : Fld RX9 32 9 10 (.array .int) true := ⟨_, rfl, by decide, tq4 64 rfl rfl, rfl, rfl, rfl⟩
set_option maxRecDepth 20000 in
theorem fX9_161 : Fld RX9 161 9 11 (.int) false := ⟨_, rfl, by decide, tq4 65 rfl rfl, rfl, rfl, rfl⟩
set_option maxRecDepth 20000 in
theorem fX9_35 : Fld RX9 35 9 12 (.array .int) true := ⟨_, rfl, by decide, tq4 66 rfl rfl, rfl, rfl, rfl⟩
set_option maxRecDepth 20000 in
theorem fX9_38 : Fld RX9 38 9 13 (.array .int) true := ⟨_, rfl, by decide, tq4 67 rfl rfl, rfl, rfl, rfl⟩
set_option maxRecDepth 20000 in
theorem fX9_248 : Fld RX9 248 9 14 (.int) false := ⟨_, rfl, by decide, tq4 68 rfl rfl, rfl, rfl, rfl⟩
set_option maxRecDepth 20000 in
theorem fX9_262 : Fld RX9 262 9 15 (.int) false := ⟨_, rfl, by decide, tq4 69 rfl rfl, rfl, rfl, rfl⟩
set_option maxRecDepth 20000 in
theorem fX9_259 : Fld RX9 259 9 16 (.int) false := ⟨_, rfl, by decide, tq4 70 rfl rfl, rfl, rfl, rfl⟩
set_option maxRecDepth 20000 in
theorem fX9_274 : Fld RX9 274 9 18 (.boolean) false := ⟨_, rfl, by decide, tq4 71 rfl rfl, rfl, rfl, rfl⟩
set_option maxRecDepth 20000 in
theorem fX9_331 : Fld RX9 331 9 19 (.boolean) false := ⟨_, rfl, by decide, tq4 72 rfl rfl, rfl, rfl, rfl⟩
set_option maxRecDepth 20000 in
theorem fX9_319 : Fld RX9 319 9 20 (.int) false := ⟨_, rfl, by decide, tq4 73 rfl rfl, rfl, rfl, rfl⟩
set_option maxRecDepth 20000 in
theorem fX9_303 : Fld RX9 303 9 21 (.int) false := ⟨_, rfl, by decide, tq4 74 rfl rfl, rfl, rfl, rfl⟩
set_option maxRecDepth 20000 in
theorem fX9_41 : Fld RX9 41 9 22 (.array .int) true := ⟨_, rfl, by decide, tq4 75 rfl rfl, rfl, rfl, rfl⟩
set_option maxRecDepth 20000 in
theorem fX9_291 : Fld RX9 291 9 23 (.int) false := ⟨_, rfl, by decide, tq4 76 rfl rfl, rfl, rfl, rfl⟩
set_option maxRecDepth 20000 in
theorem fX9_44 : Fld RX9 44 9 24 (.array .boolean) true := ⟨_, rfl, by decide, tq4 77 rfl rfl, rfl, rfl, rfl⟩
set_option maxRecDepth 20000 in
theorem fX9_48 : Fld RX9 48 9 25 (.array .char) true := ⟨_, rfl, by decide, tq4 78 rfl rfl, rfl, rfl, rfl⟩
set_option maxRecDepth 20000 in
theorem fX9_52 : Fld RX9 52 9 26 (.array .int) true := ⟨_, rfl, by decide, tq4 79 rfl rfl, rfl, rfl, rfl⟩
set_option maxRecDepth 20000 in
theorem fX9_55 : Fld RX9 55 9 27 (.array .int) true := ⟨_, rfl, by decide, tq4 80 rfl rfl, rfl, rfl, rfl⟩
set_option maxRecDepth 20000 in
theorem fX9_58 : Fld RX9 58 9 28 (.array .long) true := ⟨_, rfl, by decide, tq4 81 rfl rfl, rfl, rfl, rfl⟩
set_option maxRecDepth 20000 in
theorem fX9_62 : Fld RX9 62 9 29 (.array .long) true := ⟨_, rfl, by decide, tq4 82 rfl rfl, rfl, rfl, rfl⟩
set_option maxRecDepth 20000 in
theorem fX9_65 : Fld RX9 65 9 30 (.array .int) true := ⟨_, rfl, by decide, tq4 83 rfl rfl, rfl, rfl, rfl⟩
set_option maxRecDepth 20000 in
theorem fX9_68 : Fld RX9 68 9 31 (.array .int) true := ⟨_, rfl, by decide, tq4 84 rfl rfl, rfl, rfl, rfl⟩
set_option maxRecDepth 20000 in
theorem fX9_71 : Fld RX9 71 9 32 (.array .int) true := ⟨_, rfl, by decide, tq4 85 rfl rfl, rfl, rfl, rfl⟩
set_option maxRecDepth 20000 in
theorem fX9_74 : Fld RX9 74 9 33 (.array .int) true := ⟨_, rfl, by decide, tq4 86 rfl rfl, rfl, rfl, rfl⟩
set_option maxRecDepth 20000 in
theorem fX9_77 : Fld RX9 77 9 34 (.array .int) true := ⟨_, rfl, by decide, tq4 87 rfl rfl, rfl, rfl, rfl⟩
set_option maxRecDepth 20000 in
theorem fX9_365 : Fld RX9 365 9 35 (.int) false := ⟨_, rfl, by decide, tq4 88 rfl rfl, rfl, rfl, rfl⟩
set_option maxRecDepth 20000 in
theorem fX9_80 : Fld RX9 80 9 36 (.array .int) true := ⟨_, rfl, by decide, tq4 89 rfl rfl, rfl, rfl, rfl⟩
set_option maxRecDepth 20000 in
theorem fX9_83 : Fld RX9 83 9 37 (.array .int) true := ⟨_, rfl, by decide, tq4 90 rfl rfl, rfl, rfl, rfl⟩
set_option maxRecDepth 20000 in
theorem fX9_86 : Fld RX9 86 9 38 (.array .int) true := ⟨_, rfl, by decide, tq4 91 rfl rfl, rfl, rfl, rfl⟩
set_option maxRecDepth 20000 in
theorem fJ0_9 : .fieldLink RJ0 9 "java/lang/String" "value" "[B" ∈ TT := tq6 117 rfl rfl
set_option maxRecDepth 20000 in
theorem fJ0_15 : .fieldLink RJ0 15 "java/lang/String" "coder" "B" ∈ TT := tq6 118 rfl rfl
-- new, arrays, constants
set_option maxRecDepth 20000 in
theorem cL_7 : .classLink RL 7 RX8 ∈ TT := tq1 17 rfl rfl
set_option maxRecDepth 20000 in
theorem nL_7 : NewOk RL 7 8 := ⟨_, rfl, cL_7, tq1 18 rfl rfl, tq1 1 rfl rfl⟩
set_option maxRecDepth 20000 in
theorem cX8_7 : .classLink RX8 7 RX0 ∈ TT := tq1 25 rfl rfl
set_option maxRecDepth 20000 in
theorem nX8_7 : NewOk RX8 7 0 := ⟨_, rfl, cX8_7, tq1 26 rfl rfl, tq1 2 rfl rfl⟩
set_option maxRecDepth 20000 in
theorem cX0_9 : .classLink RX0 9 RX1 ∈ TT := tq1 31 rfl rfl
set_option maxRecDepth 20000 in
theorem nX0_9 : NewOk RX0 9 1 := ⟨_, rfl, cX0_9, tq1 236 rfl rfl, tq1 9 rfl rfl⟩
set_option maxRecDepth 20000 in
theorem wa_int : .arrayClass .int ∈ TT := tq1 60 rfl rfl
set_option maxRecDepth 20000 in
theorem cX8_20 : .classLink RX8 20 RX2 ∈ TT := tq1 62 rfl rfl
set_option maxRecDepth 20000 in
theorem nX8_20 : NewOk RX8 20 2 := ⟨_, rfl, cX8_20, tq1 63 rfl rfl, tq1 3 rfl rfl⟩
set_option maxRecDepth 20000 in
theorem cX8_27 : .classLink RX8 27 RX3 ∈ TT := tq1 72 rfl rfl
set_option maxRecDepth 20000 in
theorem nX8_27 : NewOk RX8 27 3 := ⟨_, rfl, cX8_27, tq1 73 rfl rfl, tq1 4 rfl rfl⟩
set_option maxRecDepth 20000 in
theorem cX3_9 : .classLink RX3 9 RX7 ∈ TT := tq1 78 rfl rfl
set_option maxRecDepth 20000 in
theorem nX3_9 : NewOk RX3 9 7 := ⟨_, rfl, cX3_9, tq1 79 rfl rfl, tq1 5 rfl rfl⟩
set_option maxRecDepth 20000 in
theorem wa_byte : .arrayClass .byte ∈ TT := tq1 98 rfl rfl
set_option maxRecDepth 20000 in
theorem cX3_18 : .classLink RX3 18 RX1 ∈ TT := tq1 99 rfl rfl
set_option maxRecDepth 20000 in
theorem nX3_18 : NewOk RX3 18 1 := ⟨_, rfl, cX3_18, tq1 236 rfl rfl, tq1 9 rfl rfl⟩
set_option maxRecDepth 20000 in
theorem cX3_24 : .classLink RX3 24 RX6 ∈ TT := tq1 100 rfl rfl
set_option maxRecDepth 20000 in
theorem nX3_24 : NewOk RX3 24 6 := ⟨_, rfl, cX3_24, tq1 102 rfl rfl, tq1 6 rfl rfl⟩
set_option maxRecDepth 20000 in
theorem wa_long : .arrayClass .long ∈ TT := tq1 111 rfl rfl
set_option maxRecDepth 20000 in
theorem cX8_34 : .classLink RX8 34 RX5 ∈ TT := tq1 126 rfl rfl
set_option maxRecDepth 20000 in
theorem nX8_34 : NewOk RX8 34 5 := ⟨_, rfl, cX8_34, tq1 129 rfl rfl, tq1 7 rfl rfl⟩
set_option maxRecDepth 20000 in
theorem cX8_40 : .classLink RX8 40 RX1 ∈ TT := tq1 128 rfl rfl
set_option maxRecDepth 20000 in
theorem nX8_40 : NewOk RX8 40 1 := ⟨_, rfl, cX8_40, tq1 236 rfl rfl, tq1 9 rfl rfl⟩
set_option maxRecDepth 20000 in
theorem lX2_15 : .constant RX2 15 (9586980) ∈ TT := tq1 151 rfl rfl
set_option maxRecDepth 20000 in
theorem lX8_269 : .constant RX8 269 (-1000001) ∈ TT := tq1 191 rfl rfl
set_option maxRecDepth 20000 in
theorem lX8_83 : .constant RX8 83 (1103515245) ∈ TT := tq1 217 rfl rfl
set_option maxRecDepth 20000 in
theorem lX6_29 : .constantLong RX6 29 (-1) ∈ TT := tq2 220 rfl rfl
set_option maxRecDepth 20000 in
theorem lX8_270 : .constantLong RX8 270 (-1000000000000000001) ∈ TT := tq3 131 rfl rfl
set_option maxRecDepth 20000 in
theorem lX8_201 : .constantLong RX8 201 (-1) ∈ TT := tq3 144 rfl rfl
set_option maxRecDepth 20000 in
theorem cX8_284 : .classLink RX8 284 RX4 ∈ TT := tq3 161 rfl rfl
set_option maxRecDepth 20000 in
theorem nX8_284 : NewOk RX8 284 4 := ⟨_, rfl, cX8_284, tq3 162 rfl rfl, tq1 15 rfl rfl⟩
set_option maxRecDepth 20000 in
theorem cL_10 : .classLink RL 10 RX9 ∈ TT := tq4 48 rfl rfl
set_option maxRecDepth 20000 in
theorem nL_10 : NewOk RL 10 9 := ⟨_, rfl, cL_10, tq4 49 rfl rfl, tq1 8 rfl rfl⟩
set_option maxRecDepth 20000 in
theorem wa_boolean : .arrayClass .boolean ∈ TT := tq4 171 rfl rfl
set_option maxRecDepth 20000 in
theorem wa_char : .arrayClass .char ∈ TT := tq4 172 rfl rfl
set_option maxRecDepth 20000 in
theorem lX9_126 : .constantLong RX9 126 (5) ∈ TT := tq4 177 rfl rfl
set_option maxRecDepth 20000 in
theorem lX9_114 : .constantLong RX9 114 (2) ∈ TT := tq4 181 rfl rfl
set_option maxRecDepth 20000 in
theorem lX9_92 : .constant RX9 92 (-1000001) ∈ TT := tq4 189 rfl rfl
set_option maxRecDepth 20000 in
theorem lX9_106 : .constantLong RX9 106 (1295) ∈ TT := tq4 197 rfl rfl
set_option maxRecDepth 20000 in
theorem lX9_112 : .constantLong RX9 112 (11) ∈ TT := tq4 201 rfl rfl
set_option maxRecDepth 20000 in
theorem lX9_142 : .constantLong RX9 142 (3) ∈ TT := tq4 219 rfl rfl
set_option maxRecDepth 20000 in
theorem lX9_144 : .constant RX9 144 (1103515245) ∈ TT := tq4 224 rfl rfl
set_option maxRecDepth 20000 in
theorem lX9_210 : .constantLong RX9 210 (7) ∈ TT := tq5 69 rfl rfl
set_option maxRecDepth 20000 in
theorem lX9_231 : .constantLong RX9 231 (999) ∈ TT := tq5 150 rfl rfl
set_option maxRecDepth 20000 in
theorem lX9_93 : .constantLong RX9 93 (-1000000000000000001) ∈ TT := tq5 171 rfl rfl
set_option maxRecDepth 20000 in
theorem lX9_244 : .constantLong RX9 244 (-1) ∈ TT := tq5 180 rfl rfl
set_option maxRecDepth 20000 in
theorem lX9_246 : .constantLong RX9 246 (4) ∈ TT := tq5 185 rfl rfl
set_option maxRecDepth 20000 in
theorem lX9_251 : .constantLong RX9 251 (97) ∈ TT := tq5 209 rfl rfl
set_option maxRecDepth 20000 in
theorem lX9_253 : .constantLong RX9 253 (122) ∈ TT := tq5 210 rfl rfl
set_option maxRecDepth 20000 in
theorem lX9_255 : .constantLong RX9 255 (48) ∈ TT := tq5 214 rfl rfl
set_option maxRecDepth 20000 in
theorem lX9_257 : .constantLong RX9 257 (57) ∈ TT := tq5 215 rfl rfl
set_option maxRecDepth 20000 in
theorem lL_147 : .constantLong RL 147 (4294967295) ∈ TT := tq6 116 rfl rfl
set_option maxRecDepth 20000 in
theorem w_minS : .static Lib.Math.min.name ∈ TT := tq2 189 rfl rfl
set_option maxRecDepth 20000 in
theorem w_minI : .initialized "java/lang/Math" ∈ TT := tq1 14 rfl rfl
set_option maxRecDepth 20000 in
theorem w_minC : .code Lib.Math.min.name Lib.Math.min.code 2 (some .int) ∈ TT := tq2 190 rfl rfl
set_option maxRecDepth 20000 in
theorem w_acpS : .static arraycopyName ∈ TT := tq4 0 rfl rfl
set_option maxRecDepth 20000 in
theorem w_acpI : .initialized "java/lang/System" ∈ TT := tq1 16 rfl rfl
set_option maxRecDepth 20000 in
theorem w_acpN : .native arraycopyName ∈ TT := tq4 1 rfl rfl
end
section
/-! THE FIXED CELLS: what the two constructors make, in the order in which they make it (written by wip/whole/gen11.py) -/
def T0l : List Nat := [9, 1, 17, 13, 13, 16, 3, 13, 4, 8, 11, 17, 19, 7, 14, 7, 14, 7, 14, 7, 14, 7, 14, 7, 14, 7, 14, 7, 14, 7, 14, 7, 14, 7, 14, 7, 14, 7, 14, 7, 14, 18, 17, 13, 13, 1, 17, 13, 13, 1, 17, 13, 13, 1, 17, 13, 13, 1, 17, 13, 13, 1, 17, 13, 13, 1, 17, 13, 13, 6, 14, 6, 14, 6, 14, 6, 14, 10, 13, 13, 13, 13, 13, 13, 13, 13, 13, 13, 15, 12, 13, 13, 14, 14, 13, 13, 13, 13, 13, 13, 13, 13]
def N0l : List Nat := [0, 0, 12, 4, 3, 6, 0, 1296, 0, 0, 120, 12, 14, 0, 21, 0, 21, 0, 21, 0, 21, 0, 21, 0, 21, 0, 21, 0, 21, 0, 21, 0, 21, 0, 21, 0, 21, 0, 21, 0, 21, 4, 4, 3, 8, 0, 12, 4, 3, 0, 12, 4, 3, 0, 12, 4, 3, 0, 12, 4, 3, 0, 12, 4, 3, 0, 12, 4, 3, 0, 40, 0, 40, 0, 40, 0, 40, 0, 8, 4, 96, 492, 3, 24, 4, 3, 120, 130, 130, 90, 4, 4, 160, 40, 12, 24, 4, 4, 4, 576, 2952, 60]
/-- references that never change: 0, none of these -/
def R0l : List (List Nat) := [[33, 37, 0, 38, 40, 73, 74, 75, 76], [34, 0, 35, 0, 36], [], [], [], [77, 81, 85, 89, 93, 97], [39], [], [41, 43, 0, 44], [42], [], [], [45, 47, 49, 51, 53, 55, 57, 59, 61, 63, 65, 67, 69, 71], [46], [], [48], [], [50], [], [52], [], [54], [], [56], [], [58], [], [60], [], [62], [], [64], [], [66], [], [68], [], [70], [], [72], [], [101, 103, 105, 107], [], [], [], [78, 0, 79, 0, 80], [], [], [], [82, 0, 83, 0, 84], [], [], [], [86, 0, 87, 0, 88], [], [], [], [90, 0, 91, 0, 92], [], [], [], [94, 0, 95, 0, 96], [], [], [], [98, 0, 99, 0, 100], [], [], [], [102], [], [104], [], [106], [], [108], [], [110, 0, 111, 0, 0, 112, 113, 0, 114, 115, 116, 0, 117, 118, 0, 0, 0, 0, 0, 0, 0, 0, 119, 0, 120, 121, 122, 123, 124, 125, 126, 127, 128, 129, 130, 0, 131, 132, 133], [], [], [], [], [], [], [], [], [], [], [], [], [], [], [], [], [], [], [], [], [], [], [], []]
def T0 (a : Nat) : Nat := T0l.getD (a - 32) 0
def N0 (a : Nat) : Nat := N0l.getD (a - 32) 0
def R0 (a i : Nat) : Nat := (R0l.getD (a - 32) []).getD i 0
def NF : Nat := 134
def FxS (z : (Nat → Nat → Option Nat) × (Nat → Nat) × (Nat → Nat) × Nat) : Prop := NF ≤ z.2.2.2 ∧ (∀ a, 32 ≤ a → a < NF → z.2.1 a = T0 a ∧ z.2.2.1 a = N0 a) ∧ ∀ a i, R0 a i ≠ 0 → z.1 a i = some (R0 a i)
/-- the fixed cells stand -/
def Fx (h : HP) : Prop := FxS h.2.2
theorem fx_is {h : HP} (F : Fx h) {a t : Nat} (h1 : (Nat.ble 32 a && Nat.blt a NF && Nat.beq (T0 a) t) = true) : Is h a t := by
  simp only [Bool.and_eq_true] at h1
  obtain ⟨⟨h1, h2⟩, h3⟩ := h1
  have h1 := Nat.le_of_ble_eq_true h1
  have h2 : a < NF := Nat.le_of_ble_eq_true h2
  exact ⟨h1, Nat.lt_of_lt_of_le h2 F.1, (F.2.1 a h1 h2).1.trans (Nat.eq_of_beq_eq_true h3)⟩
theorem fx_n {h : HP} (F : Fx h) {a n : Nat} (h1 : (Nat.ble 32 a && Nat.blt a NF && Nat.beq (N0 a) n) = true) : hN h a = n := by
  simp only [Bool.and_eq_true] at h1
  obtain ⟨⟨h1, h2⟩, h3⟩ := h1
  exact (F.2.1 a (Nat.le_of_ble_eq_true h1) (Nat.le_of_ble_eq_true h2)).2.trans (Nat.eq_of_beq_eq_true h3)
theorem fx_r {h : HP} (F : Fx h) {a i b : Nat} (h1 : (!Nat.beq b 0 && Nat.beq (R0 a i) b) = true) : hR h a i = some b := by
  simp only [Bool.and_eq_true, Bool.not_eq_true'] at h1
  have h2 := Nat.eq_of_beq_eq_true h1.2
  have h3 : R0 a i ≠ 0 := by
    intro h
    rw [h] at h2
    subst h2
    exact absurd h1.1 (by decide)
  exact (F.2.2 a i h3).trans (by rw [h2])
section R11
variable {X : EX} {y : MD} {d mc ms : Nat} {Q : Option VV → HP → Prop} {cells slots pc pc' : Nat} {ls : ZL} {st : List VV} {h : HP} {ix ci kf a : Nat}
theorem e_getRF {ty : FieldType} {fin : Bool} {r0 : Option Nat} (hd : At y.2.1 pc (.getfield ix) 3 pc') (F : Fld y.1.cls ix ci kf ty fin) (hr : isR ci kf = true) (ok : Is h a (ci + 1)) (hv : hR h a kf = r0) (k : Ev X y d mc ms Q cells slots pc' ls (vR r0 :: st) h) : Ev X y d mc ms Q cells slots pc ls (vR (some a) :: st) h := e_getR hd F hr ok (by rw [hv]; exact k)
theorem e_getIF {ty : FieldType} {fin : Bool} {x : Int32} (hd : At y.2.1 pc (.getfield ix) 3 pc') (F : Fld y.1.cls ix ci kf ty fin) (hr : isR ci kf = false) (ok : Is h a (ci + 1)) (hv : hI h a kf = x) (k : Ev X y d mc ms Q cells slots pc' ls (vI x :: st) h) : Ev X y d mc ms Q cells slots pc ls (vR (some a) :: st) h := e_getI hd F hr ok (by rw [hv]; exact k)
theorem e_ialoadF {i x : Int32} {N : Nat} (hd : At y.2.1 pc (.iaload) 1 pc') (ok : Is h a 13) (hn : hN h a = N) (hin : vp_in i N) (hv : hI h a i.toNatClampNeg = x) (k : Ev X y d mc ms Q cells slots pc' ls (vI x :: st) h) : Ev X y d mc ms Q cells slots pc ls (vI i :: vR (some a) :: st) h := e_iaload hd ok (by rw [hn]; exact hin) (by rw [hv]; exact k)
theorem e_baloadF {i x : Int32} {N : Nat} (hd : At y.2.1 pc (.baload) 1 pc') (ok : Is h a 11) (hn : hN h a = N) (hin : vp_in i N) (hv : hI h a i.toNatClampNeg = x) (k : Ev X y d mc ms Q cells slots pc' ls (vI x :: st) h) : Ev X y d mc ms Q cells slots pc ls (vI i :: vR (some a) :: st) h := e_baload hd ok (by rw [hn]; exact hin) (by rw [hv]; exact k)
theorem e_zaloadF {i x : Int32} {N : Nat} (hd : At y.2.1 pc (.baload) 1 pc') (ok : Is h a 15) (hn : hN h a = N) (hin : vp_in i N) (hv : hI h a i.toNatClampNeg = x) (k : Ev X y d mc ms Q cells slots pc' ls (vI x :: st) h) : Ev X y d mc ms Q cells slots pc ls (vI i :: vR (some a) :: st) h := e_zaload hd ok (by rw [hn]; exact hin) (by rw [hv]; exact k)
theorem e_caloadF {i x : Int32} {N : Nat} (hd : At y.2.1 pc (.caload) 1 pc') (ok : Is h a 12) (hn : hN h a = N) (hin : vp_in i N) (hv : hI h a i.toNatClampNeg = x) (k : Ev X y d mc ms Q cells slots pc' ls (vI x :: st) h) : Ev X y d mc ms Q cells slots pc ls (vI i :: vR (some a) :: st) h := e_caload hd ok (by rw [hn]; exact hin) (by rw [hv]; exact k)
theorem e_laloadF {i : Int32} {x : Int64} {N : Nat} (hd : At y.2.1 pc (.laload) 1 pc') (ok : Is h a 14) (hn : hN h a = N) (hin : vp_in i N) (hv : hL h a i.toNatClampNeg = x) (k : Ev X y d mc ms Q cells slots pc' ls (vL x :: st) h) : Ev X y d mc ms Q cells slots pc ls (vI i :: vR (some a) :: st) h := e_laload hd ok (by rw [hn]; exact hin) (by rw [hv]; exact k)
theorem e_aaloadF {i : Int32} {t N : Nat} {r0 : Option Nat} (hd : At y.2.1 pc (.aaload) 1 pc') (ok : Is h a t) (h1 : 16 ≤ t) (h2 : t ≤ 19) (hn : hN h a = N) (hin : vp_in i N) (hv : hR h a i.toNatClampNeg = r0) (k : Ev X y d mc ms Q cells slots pc' ls (vR r0 :: st) h) : Ev X y d mc ms Q cells slots pc ls (vI i :: vR (some a) :: st) h := e_aaload hd ok h1 h2 (by rw [hn]; exact hin) (by rw [hv]; exact k)
theorem e_iastoreF {i x : Int32} {N : Nat} (hd : At y.2.1 pc (.iastore) 1 pc') (ok : Is h a 13) (hn : hN h a = N) (hin : vp_in i N) (k : Ev X y d mc ms Q cells slots pc' ls st (wI h a i.toNatClampNeg x)) : Ev X y d mc ms Q cells slots pc ls (vI x :: vI i :: vR (some a) :: st) h := e_iastore hd ok (by rw [hn]; exact hin) k
theorem e_bastoreF {i x : Int32} {N : Nat} (hd : At y.2.1 pc (.bastore) 1 pc') (ok : Is h a 11) (hn : hN h a = N) (hin : vp_in i N) (k : Ev X y d mc ms Q cells slots pc' ls st (wI h a i.toNatClampNeg (vp_nar .byte x))) : Ev X y d mc ms Q cells slots pc ls (vI x :: vI i :: vR (some a) :: st) h := e_bastore hd ok (by rw [hn]; exact hin) k
theorem e_zastoreF {i x : Int32} {N : Nat} (hd : At y.2.1 pc (.bastore) 1 pc') (ok : Is h a 15) (hn : hN h a = N) (hin : vp_in i N) (k : Ev X y d mc ms Q cells slots pc' ls st (wI h a i.toNatClampNeg (vp_nar .boolean x))) : Ev X y d mc ms Q cells slots pc ls (vI x :: vI i :: vR (some a) :: st) h := e_zastore hd ok (by rw [hn]; exact hin) k
theorem e_castoreF {i x : Int32} {N : Nat} (hd : At y.2.1 pc (.castore) 1 pc') (ok : Is h a 12) (hn : hN h a = N) (hin : vp_in i N) (k : Ev X y d mc ms Q cells slots pc' ls st (wI h a i.toNatClampNeg (vp_nar .char x))) : Ev X y d mc ms Q cells slots pc ls (vI x :: vI i :: vR (some a) :: st) h := e_castore hd ok (by rw [hn]; exact hin) k
theorem e_lastoreF {i : Int32} {x : Int64} {N : Nat} (hd : At y.2.1 pc (.lastore) 1 pc') (ok : Is h a 14) (hn : hN h a = N) (hin : vp_in i N) (k : Ev X y d mc ms Q cells slots pc' ls st (wL h a i.toNatClampNeg x)) : Ev X y d mc ms Q cells slots pc ls (vL x :: vI i :: vR (some a) :: st) h := e_lastore hd ok (by rw [hn]; exact hin) k
/-- a call that answers one value and leaves the heap as h2 -/
theorem e_eq {pc2 : Nat} {ls2 : ZL} {st2 : List VV} {h2 : HP} (e1 : pc = pc2) (e2 : ls = ls2) (e3 : st = st2) (e4 : h = h2) (k : Ev X y d mc ms Q cells slots pc2 ls2 st2 h2) : Ev X y d mc ms Q cells slots pc ls st h := by
  subst e1; subst e2; subst e3; subst e4; exact k
end R11
/-- a truth as an int -/
def b2 (p : Prop) [Decidable p] : Int32 := if p then 1 else 0
theorem b2_t {p : Prop} [Decidable p] (h : p) : b2 p = 1 := if_pos h
theorem b2_f {p : Prop} [Decidable p] (h : ¬ p) : b2 p = 0 := if_neg h
theorem b2_0 {p : Prop} [Decidable p] : b2 p = 0 ↔ ¬ p := by
  by_cases h : p
  · rw [b2_t h]; exact ⟨fun q => absurd q (by decide), fun q => absurd h q⟩
  · rw [b2_f h]; exact ⟨fun _ => h, fun _ => rfl⟩
theorem b2_b {p : Prop} [Decidable p] : b2 p = 0 ∨ b2 p = 1 := by
  by_cases h : p
  · exact Or.inr (b2_t h)
  · exact Or.inl (b2_f h)
/-- a contract of a method that answers r and leaves the heap as it was / as h2 -/
def Rt (r : VV) (h2 : HP) : Option VV → HP → Prop := fun v h' => v = some r ∧ h' = h2
def Rv (h2 : HP) : Option VV → HP → Prop := fun v h' => v = none ∧ h' = h2
section R12
variable {X : EX} {y : MD} {d mc ms : Nat} {Q : Option VV → HP → Prop} {cells slots pc pc' : Nat} {ls : ZL} {st rest : List VV} {h h2 : HP} {y' : MD} {d' n ix ci : Nat} {as : List VV} {r : VV}
theorem e_invvT {a : Nat} (hd : At y.2.1 pc (.invokevirtual ix) 3 pc') (cal : CalV y.1.cls ix ci y' n) (hc : Ct X y' d' 0 0 (vR (some a) :: as) h (Rt r h2)) (hst : st = as.reverse ++ vR (some a) :: rest) (hn : as.length = n) (hT : Is h a (ci + 1)) (hml : y'.2.2.1 ≤ 12) (hdd : d' + 1 ≤ d) (hcc : cells ≤ mc) (hss : slots ≤ ms) (hcat : catL rest ≤ 8)
    (k : Ev X y d mc ms Q cells slots pc' ls (r :: rest) h2) : Ev X y d mc ms Q cells slots pc ls st h :=
  e_invv hd cal hc hst hn hT hml hdd hcc hss hcat (fun v h' q => by obtain ⟨rfl, rfl⟩ := q; exact k)
theorem e_invvV {a : Nat} (hd : At y.2.1 pc (.invokevirtual ix) 3 pc') (cal : CalV y.1.cls ix ci y' n) (hc : Ct X y' d' 0 0 (vR (some a) :: as) h (Rv h2)) (hst : st = as.reverse ++ vR (some a) :: rest) (hn : as.length = n) (hT : Is h a (ci + 1)) (hml : y'.2.2.1 ≤ 12) (hdd : d' + 1 ≤ d) (hcc : cells ≤ mc) (hss : slots ≤ ms) (hcat : catL rest ≤ 8)
    (k : Ev X y d mc ms Q cells slots pc' ls rest h2) : Ev X y d mc ms Q cells slots pc ls st h :=
  e_invv hd cal hc hst hn hT hml hdd hcc hss hcat (fun v h' q => by obtain ⟨rfl, rfl⟩ := q; exact k)
theorem e_invsT (hd : At y.2.1 pc (.invokestatic ix) 3 pc') (cal : CalS y.1.cls ix y' n) (hc : Ct X y' d' 0 0 as h (Rt r h2)) (hst : st = as.reverse ++ rest) (hn : as.length = n) (hml : y'.2.2.1 ≤ 12) (hdd : d' + 1 ≤ d) (hcc : cells ≤ mc) (hss : slots ≤ ms) (hcat : catL rest ≤ 8)
    (k : Ev X y d mc ms Q cells slots pc' ls (r :: rest) h2) : Ev X y d mc ms Q cells slots pc ls st h :=
  e_invs hd cal hc hst hn hml hdd hcc hss hcat (fun v h' q => by obtain ⟨rfl, rfl⟩ := q; exact k)
theorem e_invsV (hd : At y.2.1 pc (.invokestatic ix) 3 pc') (cal : CalS y.1.cls ix y' n) (hc : Ct X y' d' 0 0 as h (Rv h2)) (hst : st = as.reverse ++ rest) (hn : as.length = n) (hml : y'.2.2.1 ≤ 12) (hdd : d' + 1 ≤ d) (hcc : cells ≤ mc) (hss : slots ≤ ms) (hcat : catL rest ≤ 8)
    (k : Ev X y d mc ms Q cells slots pc' ls rest h2) : Ev X y d mc ms Q cells slots pc ls st h :=
  e_invs hd cal hc hst hn hml hdd hcc hss hcat (fun v h' q => by obtain ⟨rfl, rfl⟩ := q; exact k)
theorem e_invsNT (hd : At y.2.1 pc (.invokestatic ix) 3 pc') (cal : CalSN y.1.cls ix y' n) (hc : Ct X y' d' 0 0 as h (Rt r h2)) (hst : st = as.reverse ++ rest) (hn : as.length = n) (hml : y'.2.2.1 ≤ 12) (hdd : d' + 1 ≤ d) (hcc : cells ≤ mc) (hss : slots ≤ ms) (hcat : catL rest ≤ 8)
    (k : Ev X y d mc ms Q cells slots pc' ls (r :: rest) h2) : Ev X y d mc ms Q cells slots pc ls st h :=
  e_invsN hd cal hc hst hn hml hdd hcc hss hcat (fun v h' q => by obtain ⟨rfl, rfl⟩ := q; exact k)
theorem e_invsNV (hd : At y.2.1 pc (.invokestatic ix) 3 pc') (cal : CalSN y.1.cls ix y' n) (hc : Ct X y' d' 0 0 as h (Rv h2)) (hst : st = as.reverse ++ rest) (hn : as.length = n) (hml : y'.2.2.1 ≤ 12) (hdd : d' + 1 ≤ d) (hcc : cells ≤ mc) (hss : slots ≤ ms) (hcat : catL rest ≤ 8)
    (k : Ev X y d mc ms Q cells slots pc' ls rest h2) : Ev X y d mc ms Q cells slots pc ls st h :=
  e_invsN hd cal hc hst hn hml hdd hcc hss hcat (fun v h' q => by obtain ⟨rfl, rfl⟩ := q; exact k)
end R12
end
section
/-! numbers and words of the document, as mathematics -/
/-- fewer locals -/
def subL : ZL → ZL → Prop
  | [], _ => True
  | (i, v) :: r, ls => gL ls i = v ∧ subL r ls
theorem subL_ok {ls' ls : ZL} (h : subL ls' ls) : ∀ i v, gL ls' i = some v → gL ls i = some v := by
  induction ls' with
  | nil => intro i v h; cases h
  | cons q r ih =>
    intro i v hv
    obtain ⟨j, w⟩ := q
    obtain ⟨h1, h2⟩ := h
    simp only [gL] at hv
    by_cases hi : i = j
    · subst hi
      rw [if_pos rfl] at hv
      rw [h1, hv]
    · rw [if_neg hi] at hv
      exact ih h2 i v hv
theorem e_ls {X : EX} {y : MD} {d mc ms : Nat} {Q : Option VV → HP → Prop} {cells slots pc : Nat} {ls ls' : ZL} {st : List VV} {h : HP} (hs : subL ls' ls) (k : Ev X y d mc ms Q cells slots pc ls' st h) : Ev X y d mc ms Q cells slots pc ls st h := by
  intro p e s m args below meth c H locs lsr C hC hS hl
  obtain ⟨lv, hv, hg⟩ := hl
  exact k p e s m args below meth c H locs lsr C hC hS ⟨lv, hv, fun i v q => hg i v (subL_ok hs i v q)⟩
theorem nI_small {n N : Nat} (h : n < N) (hN : N ≤ 2147483648) : n < 2 ^ 31 := Nat.lt_of_lt_of_le h hN
theorem vin {n N : Nat} (h : n < N) (hN : N ≤ 1073741824 := by decide) : vp_in (nI n) N := vp_in_nI h (Nat.lt_of_le_of_lt hN (by decide))
theorem cl {n : Nat} (h : n < 1073741824) : (nI n).toNatClampNeg = n := nI_clamp (Nat.lt_trans h (by decide))
/-- a place's number, or -1 -/
def oI : Option Nat → Int32
  | some p => nI p
  | none => -1
/-- what one ORDER more of a YEAR adds; how many STANDINGS are OPEN -/
def stp (y : Nat) : Nat := [216, 36, 6, 1].getD y 0
def om (f : Nat) : Nat := [1296, 216, 36, 6, 1].getD f 0
/-- the first OPEN STANDING -/
def fo (o : Nat → Nat) : Nat → Nat
  | 0 => 0
  | f + 1 => fo o f + o f * stp f
/-- the place of a PICK under a STANDING -/
def pl (s p : Nat) : Nat := [0, 1, 2, 0, 2, 1, 1, 0, 2, 2, 0, 1, 1, 2, 0, 2, 1, 0].getD (s / stp (p / 3) % 6 * 3 + p % 3) 0
theorem om_fo {o : Nat → Nat} : ∀ {f : Nat}, f ≤ 4 → (∀ y, y < f → o y < 6) → fo o f + om f ≤ 1296
  | 0, _, _ => by show 0 + om 0 ≤ 1296; decide
  | f + 1, h, ho => by
    have h1 := om_fo (f := f) (by omega) (fun y hy => ho y (by omega))
    have h2 := ho f (by omega)
    have hf : f = 0 ∨ f = 1 ∨ f = 2 ∨ f = 3 := by omega
    unfold fo
    rcases hf with rfl | rfl | rfl | rfl <;> simp [om, stp] at h1 ⊢ <;> omega
theorem om_pos {f : Nat} (h : f ≤ 4) : 0 < om f := by
  have hf : f = 0 ∨ f = 1 ∨ f = 2 ∨ f = 3 ∨ f = 4 := by omega
  rcases hf with rfl | rfl | rfl | rfl | rfl <;> decide
theorem stp_om {f : Nat} (h : f < 4) : stp f = om (f + 1) ∧ om f = 6 * om (f + 1) := by
  have hf : f = 0 ∨ f = 1 ∨ f = 2 ∨ f = 3 := by omega
  rcases hf with rfl | rfl | rfl | rfl <;> decide
theorem stp_pos {y : Nat} (h : y < 4) : 0 < stp y ∧ stp y ≤ 216 := by
  have hf : y = 0 ∨ y = 1 ∨ y = 2 ∨ y = 3 := by omega
  rcases hf with rfl | rfl | rfl | rfl <;> decide
theorem pl_lt (s p : Nat) : pl s p < 3 := by
  unfold pl
  have h1 : s / stp (p / 3) % 6 < 6 := Nat.mod_lt _ (by decide)
  have h2 : p % 3 < 3 := Nat.mod_lt _ (by decide)
  generalize s / stp (p / 3) % 6 = a at h1
  generalize p % 3 = b at h2
  have key : ∀ a, a < 6 → ∀ b, b < 3 → [0, 1, 2, 0, 2, 1, 1, 0, 2, 2, 0, 1, 1, 2, 0, 2, 1, 0].getD (a * 3 + b) 0 < 3 := by decide
  exact key a h1 b h2
theorem nI_div {a b : Nat} (ha : a < 1073741824) (h0 : 0 < b) (hb : b < 1073741824) : nI a / nI b = nI (a / b) := pk_div (by omega) h0 (by omega)
theorem nI_rem {a b : Nat} (ha : a < 1073741824) (h0 : 0 < b) (hb : b < 1073741824) : nI a - nI a / nI b * nI b = nI (a % b) := pk_rem (by omega) h0 (by omega)
theorem nI_mul (a b : Nat) : nI a * nI b = nI (a * b) := pk_mul a b
theorem nI_subN {a b : Nat} (h : b ≤ a) : nI a - nI b = nI (a - b) := pk_sub h
section R13
variable {X : EX} {y : MD} {d mc ms : Nat} {Q : Option VV → HP → Prop} {cells slots pc pc' : Nat} {ls : ZL} {st : List VV} {h : HP}
theorem e_top {x v : Int32} (he : x = v) (k : Ev X y d mc ms Q cells slots pc ls (vI v :: st) h) : Ev X y d mc ms Q cells slots pc ls (vI x :: st) h := by rw [he]; exact k
theorem e_topL {x v : Int64} (he : x = v) (k : Ev X y d mc ms Q cells slots pc ls (vL v :: st) h) : Ev X y d mc ms Q cells slots pc ls (vL x :: st) h := by rw [he]; exact k
theorem e_topR {x v : Option Nat} (he : x = v) (k : Ev X y d mc ms Q cells slots pc ls (vR v :: st) h) : Ev X y d mc ms Q cells slots pc ls (vR x :: st) h := by rw [he]; exact k
theorem e_hp {h2 : HP} (he : h = h2) (k : Ev X y d mc ms Q cells slots pc ls st h2) : Ev X y d mc ms Q cells slots pc ls st h := by rw [he]; exact k
end R13
/-- the elements of a static array -/
theorem st_step {i : Nat} (h : i < 4) : ([216, 36, 6, 1] : List Int32).getD (nI i).toNatClampNeg 0 = nI (stp i) := by
  rw [cl (by omega)]
  have : i = 0 ∨ i = 1 ∨ i = 2 ∨ i = 3 := by omega
  rcases this with rfl | rfl | rfl | rfl <;> rfl
theorem st_left {i : Nat} (h : i ≤ 4) : ([1296, 216, 36, 6, 1] : List Int32).getD (nI i).toNatClampNeg 0 = nI (om i) := by
  rw [cl (by omega)]
  have : i = 0 ∨ i = 1 ∨ i = 2 ∨ i = 3 ∨ i = 4 := by omega
  rcases this with rfl | rfl | rfl | rfl | rfl <;> rfl
theorem st_place {i : Nat} (h : i < 18) : ([0, 1, 2, 0, 2, 1, 1, 0, 2, 2, 0, 1, 1, 2, 0, 2, 1, 0] : List Int32).getD (nI i).toNatClampNeg 0 = nI ([0, 1, 2, 0, 2, 1, 1, 0, 2, 2, 0, 1, 1, 2, 0, 2, 1, 0].getD i 0) := by
  rw [cl (by omega)]
  have key : ∀ i, i < 18 → ([0, 1, 2, 0, 2, 1, 1, 0, 2, 2, 0, 1, 1, 2, 0, 2, 1, 0] : List Int32).getD i 0 = nI ([0, 1, 2, 0, 2, 1, 1, 0, 2, 2, 0, 1, 1, 2, 0, 2, 1, 0].getD i 0) := by decide
  exact key i h
theorem st_club {i : Nat} (h : i < 18) : ([0, 1, 2, 0, 2, 1, 1, 0, 2, 1, 2, 0, 2, 0, 1, 2, 1, 0] : List Int32).getD (nI i).toNatClampNeg 0 = nI ([0, 1, 2, 0, 2, 1, 1, 0, 2, 1, 2, 0, 2, 0, 1, 2, 1, 0].getD i 0) := by
  rw [cl (by omega)]
  have key : ∀ i, i < 18 → ([0, 1, 2, 0, 2, 1, 1, 0, 2, 1, 2, 0, 2, 0, 1, 2, 1, 0] : List Int32).getD i 0 = nI ([0, 1, 2, 0, 2, 1, 1, 0, 2, 1, 2, 0, 2, 0, 1, 2, 1, 0].getD i 0) := by decide
  exact key i h
end
section
/-! contracts: helpers of RolledPicks, Book (written by wip/whole/g13.py) -/
theorem zX8_isOutside (X : EX) {h : HP} (v e : Int32) : Ct X mX8_isOutside 0 0 0 [vI v, vI e] h (Rt (vI (b2 (v < 0 ∨ e ≤ v))) h) := by
  refine ct_of rfl (Nat.le_of_ble_eq_true rfl) ?_
  refine e_iload_n aX8_isOutside_0 rfl ?_
  refine e_if_lt aX8_isOutside_1 (fun c1 => ?_) (fun c1 => ?_)
  · -- 1: taken
    refine e_iconst (v := 1) aX8_isOutside_9 (by decide) ?_
    refine e_goto aX8_isOutside_10 ?_
    refine e_zreturn aX8_isOutside_14 rfl (by decide) (Nat.le_refl _) (Nat.le_refl _) ?_
    exact ⟨by rw [b2_t (by first | grind | (simp only [b2_0] at *; grind))], rfl⟩
  · -- 1: not taken
    refine e_iload_n aX8_isOutside_4 rfl ?_
    refine e_iload_n aX8_isOutside_5 rfl ?_
    refine e_icmp_lt aX8_isOutside_6 (fun c6 => ?_) (fun c6 => ?_)
    · -- 6: taken
      refine e_iconst (v := 0) aX8_isOutside_13 (by decide) ?_
      refine e_zreturn aX8_isOutside_14 rfl (by decide) (Nat.le_refl _) (Nat.le_refl _) ?_
      exact ⟨by rw [b2_f (by first | grind | (simp only [b2_0] at *; grind))], rfl⟩
    · -- 6: not taken
      refine e_iconst (v := 1) aX8_isOutside_9 (by decide) ?_
      refine e_goto aX8_isOutside_10 ?_
      refine e_zreturn aX8_isOutside_14 rfl (by decide) (Nat.le_refl _) (Nat.le_refl _) ?_
      exact ⟨by rw [b2_t (by first | grind | (simp only [b2_0] at *; grind))], rfl⟩
theorem zX8_areNoPair (X : EX) {h : HP} (v e : Int32) : Ct X mX8_areNoPair 1 0 0 [vI v, vI e] h (Rt (vI (b2 ((v < 0 ∨ 3 ≤ v) ∨ (e < 0 ∨ 3 ≤ e) ∨ v = e))) h) := by
  refine ct_of rfl (Nat.le_of_ble_eq_true rfl) ?_
  refine e_iload_n aX8_areNoPair_0 rfl ?_
  refine e_iconst (v := 3) aX8_areNoPair_1 (by decide) ?_
  refine e_invsT aX8_areNoPair_2 kX8_58 (zX8_isOutside X _ _) rfl rfl (Nat.le_of_ble_eq_true rfl) (Nat.le_of_ble_eq_true rfl) (Nat.le_refl _) (Nat.le_refl _) (Nat.le_of_ble_eq_true rfl) ?_
  refine e_if_ne aX8_areNoPair_5 (fun c5 => ?_) (fun c5 => ?_)
  · -- 5: taken
    refine e_iconst (v := 1) aX8_areNoPair_21 (by decide) ?_
    refine e_goto aX8_areNoPair_22 ?_
    refine e_zreturn aX8_areNoPair_26 rfl (by decide) (Nat.le_refl _) (Nat.le_refl _) ?_
    exact ⟨by rw [b2_t (by first | grind | (simp only [b2_0] at *; grind))], rfl⟩
  · -- 5: not taken
    refine e_iload_n aX8_areNoPair_8 rfl ?_
    refine e_iconst (v := 3) aX8_areNoPair_9 (by decide) ?_
    refine e_invsT aX8_areNoPair_10 kX8_58 (zX8_isOutside X _ _) rfl rfl (Nat.le_of_ble_eq_true rfl) (Nat.le_of_ble_eq_true rfl) (Nat.le_refl _) (Nat.le_refl _) (Nat.le_of_ble_eq_true rfl) ?_
    refine e_if_ne aX8_areNoPair_13 (fun c13 => ?_) (fun c13 => ?_)
    · -- 13: taken
      refine e_iconst (v := 1) aX8_areNoPair_21 (by decide) ?_
      refine e_goto aX8_areNoPair_22 ?_
      refine e_zreturn aX8_areNoPair_26 rfl (by decide) (Nat.le_refl _) (Nat.le_refl _) ?_
      exact ⟨by rw [b2_t (by first | grind | (simp only [b2_0] at *; grind))], rfl⟩
    · -- 13: not taken
      refine e_iload_n aX8_areNoPair_16 rfl ?_
      refine e_iload_n aX8_areNoPair_17 rfl ?_
      refine e_icmp_ne aX8_areNoPair_18 (fun c18 => ?_) (fun c18 => ?_)
      · -- 18: taken
        refine e_iconst (v := 0) aX8_areNoPair_25 (by decide) ?_
        refine e_zreturn aX8_areNoPair_26 rfl (by decide) (Nat.le_refl _) (Nat.le_refl _) ?_
        exact ⟨by rw [b2_f (by first | grind | (simp only [b2_0] at *; grind))], rfl⟩
      · -- 18: not taken
        refine e_iconst (v := 1) aX8_areNoPair_21 (by decide) ?_
        refine e_goto aX8_areNoPair_22 ?_
        refine e_zreturn aX8_areNoPair_26 rfl (by decide) (Nat.le_refl _) (Nat.le_refl _) ?_
        exact ⟨by rw [b2_t (by first | grind | (simp only [b2_0] at *; grind))], rfl⟩
theorem zX8_placeUnder (X : EX) {h : HP} {s p : Nat} (hs : s < 1296) (hp : p < 12) : Ct X mX8_placeUnder 0 0 0 [vI (nI s), vI (nI p)] h (Rt (vI (nI (pl s p))) h) := by
  refine ct_of rfl (Nat.le_of_ble_eq_true rfl) ?_
  refine e_iload_n aX8_placeUnder_0 rfl ?_
  refine e_gets (i := 4) aX8_placeUnder_1 rfl gX8_198 ?_
  refine e_iload_n aX8_placeUnder_4 rfl ?_
  refine e_iconst (v := 3) aX8_placeUnder_5 (by decide) ?_
  refine e_idiv aX8_placeUnder_6 (by decide) ?_
  refine e_top (nI_div (b := 3) (by omega) (by decide) (by decide)) ?_
  refine e_ialoadS aX8_placeUnder_7 rfl (vin (N := 4) (by omega)) ?_
  refine e_top (st_step (i := p / 3) (by omega)) ?_
  have hst := stp_pos (y := p / 3) (by omega)
  refine e_idiv aX8_placeUnder_8 (nI_ne0 hst.1 (by omega)) ?_
  refine e_top (nI_div (by omega) hst.1 (by omega)) ?_
  have hq : s / stp (p / 3) < 1296 := Nat.lt_of_le_of_lt (Nat.div_le_self _ _) hs
  refine e_bipush (v := 6) aX8_placeUnder_9 (by decide) ?_
  refine e_irem aX8_placeUnder_11 (by decide) ?_
  refine e_top (nI_rem (b := 6) (by omega) (by decide) (by decide)) ?_
  refine e_istore_n aX8_placeUnder_12 (Nat.le_of_ble_eq_true rfl) ?_
  refine e_gets (i := 3) aX8_placeUnder_13 rfl gX8_263 ?_
  refine e_iload_n aX8_placeUnder_16 rfl ?_
  refine e_iconst (v := 3) aX8_placeUnder_17 (by decide) ?_
  refine e_imul aX8_placeUnder_18 ?_
  refine e_top (nI_mul _ 3) ?_
  refine e_iload_n aX8_placeUnder_19 rfl ?_
  refine e_iconst (v := 3) aX8_placeUnder_20 (by decide) ?_
  refine e_irem aX8_placeUnder_21 (by decide) ?_
  refine e_top (nI_rem (b := 3) (by omega) (by decide) (by decide)) ?_
  refine e_iadd aX8_placeUnder_22 ?_
  refine e_top (nI_add _ _) ?_
  have hm : s / stp (p / 3) % 6 < 6 := Nat.mod_lt _ (by decide)
  refine e_ialoadS aX8_placeUnder_23 rfl (vin (N := 18) (by omega)) ?_
  refine e_top (st_place (by omega)) ?_
  refine e_ireturn aX8_placeUnder_24 rfl (Nat.le_refl _) (Nat.le_refl _) ?_
  exact ⟨rfl, rfl⟩
theorem zX8_finding (X : EX) {h : HP} (F : Fx h) {k : Nat} (hk : k < 8) : Ct X mX8_finding 0 0 0 [vR (some 32), vI (nI k)] h (Rt (vI (-1000001 - nI k)) (wI h 76 k (hI h 76 k + 1))) := by
  refine ct_of rfl (Nat.le_of_ble_eq_true rfl) ?_
  refine e_aload_n aX8_finding_0 rfl ?_
  refine e_getRF aX8_finding_1 fX8_50 rfl (fx_is F rfl) (fx_r (b := 76) F rfl) ?_
  refine e_iload_n aX8_finding_4 rfl ?_
  refine e_dup2 aX8_finding_5 rfl rfl ?_
  refine e_ialoadF aX8_finding_6 (fx_is F rfl) (fx_n F rfl) (vin hk) (by rw [cl (by omega)]) ?_
  refine e_iconst (v := 1) aX8_finding_7 (by decide) ?_
  refine e_iadd aX8_finding_8 ?_
  refine e_iastoreF aX8_finding_9 (fx_is F rfl) (fx_n F rfl) (vin hk) ?_
  rw [cl (by omega)]
  refine e_ldcw aX8_finding_10 lX8_269 ?_
  refine e_iload_n aX8_finding_13 rfl ?_
  refine e_isub aX8_finding_14 ?_
  refine e_ireturn aX8_finding_15 rfl (Nat.le_refl _) (Nat.le_refl _) ?_
  exact ⟨rfl, rfl⟩
theorem zX8_longFinding (X : EX) {h : HP} (F : Fx h) {k : Nat} (hk : k < 8) : Ct X mX8_longFinding 0 0 0 [vR (some 32), vI (nI k)] h (Rt (vL (-1000000000000000001 - lN k)) (wI h 76 k (hI h 76 k + 1))) := by
  refine ct_of rfl (Nat.le_of_ble_eq_true rfl) ?_
  refine e_aload_n aX8_longFinding_0 rfl ?_
  refine e_getRF aX8_longFinding_1 fX8_50 rfl (fx_is F rfl) (fx_r (b := 76) F rfl) ?_
  refine e_iload_n aX8_longFinding_4 rfl ?_
  refine e_dup2 aX8_longFinding_5 rfl rfl ?_
  refine e_ialoadF aX8_longFinding_6 (fx_is F rfl) (fx_n F rfl) (vin hk) (by rw [cl (by omega)]) ?_
  refine e_iconst (v := 1) aX8_longFinding_7 (by decide) ?_
  refine e_iadd aX8_longFinding_8 ?_
  refine e_iastoreF aX8_longFinding_9 (fx_is F rfl) (fx_n F rfl) (vin hk) ?_
  rw [cl (by omega)]
  refine e_ldc2 aX8_longFinding_10 lX8_270 ?_
  refine e_iload_n aX8_longFinding_13 rfl ?_
  refine e_i2l aX8_longFinding_14 ?_
  refine e_topL (nI_l (by omega)) ?_
  refine e_lsub aX8_longFinding_15 ?_
  refine e_lreturn aX8_longFinding_16 rfl (Nat.le_refl _) (Nat.le_refl _) ?_
  exact ⟨rfl, rfl⟩
end
section
/-! deals, as mathematics -/
/-- KIND, FROM, TO, PICK, the other PICK, n, whether a CONDITION was told, where it holds -/
abbrev DD : Type := Nat × Nat × Nat × Nat × Option Nat × Nat × Bool × (Nat → Bool)
abbrev dK (d : DD) : Nat := d.1
abbrev dF (d : DD) : Nat := d.2.1
abbrev dT (d : DD) : Nat := d.2.2.1
abbrev dP (d : DD) : Nat := d.2.2.2.1
abbrev dO (d : DD) : Option Nat := d.2.2.2.2.1
abbrev dN (d : DD) : Nat := d.2.2.2.2.2.1
abbrev dC (d : DD) : Bool := d.2.2.2.2.2.2.1
abbrev dB (d : DD) : Nat → Bool := d.2.2.2.2.2.2.2
abbrev dV (d : DD) : Nat := (dO d).getD 0
/-- a deal as the acts make them -/
def dWf (d : DD) : Prop := dK d < 6 ∧ dF d < 3 ∧ dT d < 3 ∧ dF d ≠ dT d ∧ dP d < 12 ∧ ((dK d = 2 ∨ dK d = 5) ↔ (dO d).isSome = true) ∧ (∀ q, dO d = some q → q < 12 ∧ q ≠ dP d ∧ q / 3 = dP d / 3) ∧ dN d ≤ 2 ∧ (dK d = 0 ∨ dK d = 2 ↔ dN d = 0) ∧ (dC d = false → ∀ s, dB d s = true)
def roll (s : Nat) : Nat → Nat → Nat → Option Nat
  | 0, _, _ => none
  | k + 1, p, n => if 12 ≤ p then none else if n ≤ pl s p then some p else roll s k (p + 3) (n - 1)
/-- what a deal gives with a CONDITION that holds -/
def gvk (d : DD) (s : Nat) : Option Nat :=
  if dK d = 1 then (if dN d ≤ pl s (dP d) then some (dP d) else none)
  else if dK d = 2 then (if pl s (dV d) + 1 ≤ pl s (dP d) then some (dP d) else none)
  else if dK d = 3 then roll s 4 (dP d) (dN d)
  else if dK d = 4 then (if pl s (dP d) < dN d then some (dP d) else none)
  else if dK d = 5 then (if pl s (dV d) + dN d ≤ pl s (dP d) then some (dP d) else none)
  else some (dP d)
def gv (d : DD) (s : Nat) : Option Nat := if dB d s = true then gvk d s else none
def gb (d : DD) (s : Nat) : Option Nat := if (gv d s).isSome = true then dO d else none
/-- to whom it conveys a PICK, and from whom -/
def tk (d : DD) (s p : Nat) : Option Nat := if dO d = some p then (if (gv d s).isSome = true then some (dF d) else none) else if gv d s = some p then some (dT d) else none
def gr (d : DD) (p : Nat) : Nat := if dO d = some p then dT d else dF d
theorem roll_lt {s : Nat} : ∀ {k p n q : Nat}, roll s k p n = some q → q < 12 ∧ p ≤ q ∧ q % 3 = p % 3
  | 0, _, _, _, h => by cases h
  | k + 1, p, n, q, h => by
    unfold roll at h
    split at h
    · cases h
    · split at h
      · cases h; omega
      · have := roll_lt h; omega
theorem gv_ok {d : DD} (w : dWf d) {s q : Nat} (h : gv d s = some q) : q < 12 ∧ (q = dP d ∨ (dK d = 3 ∧ dP d ≤ q ∧ q % 3 = dP d % 3)) := by
  obtain ⟨w1, w2, w3, w4, w5, w6, w7, w8, w9⟩ := w
  unfold gv at h
  split at h
  · unfold gvk at h
    split at h
    · split at h
      · cases h; exact ⟨w5, Or.inl rfl⟩
      · cases h
    · split at h
      · split at h
        · cases h; exact ⟨w5, Or.inl rfl⟩
        · cases h
      · split at h
        · next h3 =>
          have := roll_lt h
          exact ⟨this.1, Or.inr ⟨h3, this.2⟩⟩
        · split at h
          · split at h
            · cases h; exact ⟨w5, Or.inl rfl⟩
            · cases h
          · split at h
            · split at h
              · cases h; exact ⟨w5, Or.inl rfl⟩
              · cases h
            · cases h; exact ⟨w5, Or.inl rfl⟩
  · cases h
theorem gb_ok {d : DD} (w : dWf d) {s q : Nat} (h : gb d s = some q) : q < 12 ∧ dO d = some q ∧ ∃ g, gv d s = some g ∧ g = dP d ∧ g ≠ q := by
  unfold gb at h
  split at h
  · next hs =>
    obtain ⟨g, hg⟩ := Option.isSome_iff_exists.mp hs
    have h1 := w.2.2.2.2.2.2.1 q h
    refine ⟨h1.1, h, g, hg, ?_⟩
    rcases (gv_ok w hg).2 with e | ⟨e, -⟩
    · exact ⟨e, fun z => h1.2.1 (by rw [← z, e])⟩
    · have := w.2.2.2.2.2.1.mpr (by rw [h]; rfl)
      omega
  · cases h
theorem tk_lt {d : DD} (w : dWf d) {s p t : Nat} (h : tk d s p = some t) : t < 3 ∧ gr d p < 3 ∧ gr d p ≠ t := by
  unfold tk at h
  unfold gr
  split at h
  · next ho =>
    split at h
    · cases h
      rw [if_pos ho]
      exact ⟨w.2.1, w.2.2.1, fun z => w.2.2.2.1 z.symm⟩
    · cases h
  · next ho =>
    split at h
    · cases h
      rw [if_neg ho]
      exact ⟨w.2.2.1, w.2.1, w.2.2.2.1⟩
    · cases h
/-- the last of the CHAIN, and who was in it, as the first k deals have it; the latter as a set -/
def ow (D : Nat → DD) (s p : Nat) : Nat → Nat
  | 0 => p % 3
  | k + 1 => (tk (D k) s p).getD (ow D s p k)
def vs (D : Nat → DD) (s p : Nat) : Nat → Nat → Bool
  | 0, c => decide (c = p % 3)
  | k + 1, c => vs D s p k c || decide (tk (D k) s p = some c)
def hm (D : Nat → DD) (s p : Nat) : Nat → Nat
  | 0 => 2 ^ (p % 3)
  | k + 1 => match tk (D k) s p with
    | some t => hm D s p k ||| 2 ^ t
    | none => hm D s p k
theorem ow_lt {D : Nat → DD} {s p : Nat} : ∀ {k : Nat}, (∀ j, j < k → dWf (D j)) → ow D s p k < 3
  | 0, _ => Nat.mod_lt _ (by decide)
  | k + 1, w => by
    unfold ow
    cases h : tk (D k) s p with
    | none => exact ow_lt (fun j hj => w j (by omega))
    | some t => exact (tk_lt (w k (by omega)) h).1
theorem hm_lt {D : Nat → DD} {s p : Nat} : ∀ {k : Nat}, (∀ j, j < k → dWf (D j)) → hm D s p k < 8
  | 0, _ => by
    have h1 : p % 3 < 3 := Nat.mod_lt _ (by decide)
    unfold hm
    have : p % 3 = 0 ∨ p % 3 = 1 ∨ p % 3 = 2 := by omega
    rcases this with h | h | h <;> rw [h] <;> decide
  | k + 1, w => by
    have ih := hm_lt (D := D) (s := s) (p := p) (k := k) (fun j hj => w j (by omega))
    unfold hm
    cases h : tk (D k) s p with
    | none => exact ih
    | some t =>
      have ht := (tk_lt (w k (by omega)) h).1
      exact Nat.or_lt_two_pow (n := 3) ih (Nat.pow_lt_pow_right (by decide) ht)
theorem hm_vs {D : Nat → DD} {s p c : Nat} : ∀ {k : Nat}, (hm D s p k).testBit c = vs D s p k c
  | 0 => by
    unfold hm vs
    rw [Nat.testBit_two_pow]
    exact decide_eq_decide.mpr ⟨fun h => h.symm, fun h => h.symm⟩
  | k + 1 => by
    have ih := hm_vs (D := D) (s := s) (p := p) (c := c) (k := k)
    unfold hm vs
    cases h : tk (D k) s p with
    | none => simp [ih]
    | some t =>
      rw [Nat.testBit_or, ih, Nat.testBit_two_pow]
      congr 1
      simp
/-- how one more move of p from g to t would CLASH -/
def cls (D : Nat → DD) (n s p g t : Nat) : Option Nat := if vs D s p n g = false then some 2 else if ow D s p n ≠ g then some 0 else if vs D s p n t = true then some 1 else none
end
section
/-! bits of longs -/
def bitL (x : Int64) (j : Nat) : Bool := x.toBitVec.getLsbD j
theorem sm64 : ∀ j, j < 64 → (((nI j).toInt64 &&& 63).toBitVec.smod 64).toNat = j := by decide +kernel
theorem bitL_and {x : Int64} {j : Nat} (hj : j < 64) : (x >>> ((nI j).toInt64 &&& 63)) &&& 1 = if bitL x j = true then 1 else 0 := by
  apply Int64.toBitVec_inj.mp
  rw [Int64.toBitVec_and, Int64.toBitVec_shiftRight]
  have h1 : (1 : Int64).toBitVec = 1#64 := rfl
  have hs := sm64 j hj
  apply BitVec.eq_of_getLsbD_eq
  intro i hi
  have e0 : ((if bitL x j = true then (1 : Int64) else 0).toBitVec).getLsbD i = (decide (i = 0) && bitL x j) := by
    by_cases hb : bitL x j = true
    · rw [if_pos hb, h1, hb, BitVec.getLsbD_one]
      simp [hi]
    · rw [if_neg hb]
      have : bitL x j = false := by simpa using hb
      rw [this, Bool.and_false]
      show (0#64).getLsbD i = false
      simp
  rw [e0, h1, BitVec.getLsbD_and, BitVec.getLsbD_one]
  by_cases hi0 : i = 0
  · subst hi0
    have e1 : (x.toBitVec.sshiftRight' (((nI j).toInt64 &&& 63).toBitVec.smod 64)).getLsbD 0 = bitL x j := by
      unfold BitVec.sshiftRight'
      rw [hs, BitVec.getLsbD_sshiftRight]
      have : j < 64 := hj
      simp [bitL, hj]
    rw [e1]
    simp
  · simp [hi0]
theorem lg_0 {x : Int64} : lg_cmp x 0 = 0 ↔ x = 0 := by
  unfold lg_cmp
  by_cases h1 : x > 0
  · rw [if_pos h1]
    refine ⟨fun h => absurd h (by decide), fun h => ?_⟩
    subst h
    exact absurd h1 (by decide)
  · rw [if_neg h1]
    by_cases h2 : x = 0
    · rw [if_pos h2]; exact ⟨fun _ => h2, fun _ => rfl⟩
    · rw [if_neg h2]
      exact ⟨fun h => absurd h (by decide), fun h => absurd h h2⟩
theorem bit_q {b : Bool} : lg_cmp (if b = true then (1 : Int64) else 0) 0 = 0 ↔ b = false := by
  rw [lg_0]
  cases b
  · exact ⟨fun _ => rfl, fun _ => rfl⟩
  · exact ⟨fun h => absurd h (by decide), fun h => absurd h (by decide)⟩
/-- a set of STANDINGS at sb -/
def StC (h : HP) (sb : Nat) (b : Nat → Bool) : Prop := Is h sb 7 ∧ ∃ wb, hR h sb 0 = some wb ∧ Is h wb 14 ∧ hN h wb = 21 ∧ ∀ s, s < 1296 → bitL (hL h wb (s / 64)) (s % 64) = b s
/-- a deal's object at a -/
def DealC (h : HP) (a : Nat) (d : DD) : Prop := 134 ≤ a ∧ Is h a 2 ∧ dWf d ∧ hI h a 0 = nI (dK d) ∧ hI h a 1 = nI (dF d) ∧ hI h a 2 = nI (dT d) ∧ hI h a 3 = nI (dP d) ∧ hI h a 4 = oI (dO d) ∧ hI h a 5 = nI (dN d) ∧
  ((dC d = false ∧ hR h a 6 = none) ∨ (dC d = true ∧ ∃ sb, hR h a 6 = some sb ∧ 134 ≤ sb ∧ StC h sb (dB d) ∧ ∀ wb, hR h sb 0 = some wb → 134 ≤ wb))
/-- what lies from 134 on stays -/
def Up (h h' : HP) : Prop := hZ h ≤ hZ h' ∧ ∀ a, 134 ≤ a → a < hZ h → (∀ i, hI h' a i = hI h a i ∧ hL h' a i = hL h a i ∧ hR h' a i = hR h a i) ∧ hT h' a = hT h a ∧ hN h' a = hN h a
theorem Up.rf (h : HP) : Up h h := ⟨Nat.le_refl _, fun _ _ _ => ⟨fun _ => ⟨rfl, rfl, rfl⟩, rfl, rfl⟩⟩
theorem Up.tr {h1 h2 h3 : HP} (a : Up h1 h2) (b : Up h2 h3) : Up h1 h3 := by
  refine ⟨Nat.le_trans a.1 b.1, fun x hx hx2 => ?_⟩
  obtain ⟨p1, p2, p3⟩ := a.2 x hx hx2
  obtain ⟨q1, q2, q3⟩ := b.2 x hx (Nat.lt_of_lt_of_le hx2 a.1)
  exact ⟨fun i => ⟨(q1 i).1.trans (p1 i).1, (q1 i).2.1.trans (p1 i).2.1, (q1 i).2.2.trans (p1 i).2.2⟩, q2.trans p2, q3.trans p3⟩
theorem Up.wI {h : HP} {b i : Nat} {v : Int32} (hb : b < 134) : Up h (wI h b i v) := ⟨Nat.le_refl _, fun a ha _ => ⟨fun j => ⟨up2_a (by omega), rfl, rfl⟩, rfl, rfl⟩⟩
theorem Up.wL {h : HP} {b i : Nat} {v : Int64} (hb : b < 134) : Up h (wL h b i v) := ⟨Nat.le_refl _, fun a ha _ => ⟨fun j => ⟨rfl, up2_a (by omega), rfl⟩, rfl, rfl⟩⟩
theorem Up.wR {h : HP} {b i : Nat} {v : Option Nat} (hb : b < 134) : Up h (wR h b i v) := ⟨Nat.le_refl _, fun a ha _ => ⟨fun j => ⟨rfl, rfl, up2_a (by omega)⟩, rfl, rfl⟩⟩
theorem Is.up {h h' : HP} (u : Up h h') {a t : Nat} (ha : 134 ≤ a) (k : Is h a t) : Is h' a t := ⟨k.1, Nat.lt_of_lt_of_le k.2.1 u.1, (u.2 a ha k.2.1).2.1.trans k.2.2⟩
theorem StC.up {h h' : HP} (u : Up h h') {sb : Nat} {b : Nat → Bool} (h1 : 134 ≤ sb) (h2 : ∀ wb, hR h sb 0 = some wb → 134 ≤ wb) (k : StC h sb b) : StC h' sb b := by
  obtain ⟨k1, wb, k2, k3, k4, k5⟩ := k
  have hw := h2 wb k2
  refine ⟨k1.up u h1, wb, ((u.2 sb h1 k1.2.1).1 0).2.2.trans k2, k3.up u hw, (u.2 wb hw k3.2.1).2.2.trans k4, fun s hs => ?_⟩
  rw [((u.2 wb hw k3.2.1).1 _).2.1]
  exact k5 s hs
theorem DealC.up {h h' : HP} (u : Up h h') {a : Nat} {d : DD} (k : DealC h a d) : DealC h' a d := by
  obtain ⟨k0, k1, k2, e0, e1, e2, e3, e4, e5, k3⟩ := k
  have q := (u.2 a k0 k1.2.1).1
  refine ⟨k0, k1.up u k0, k2, (q 0).1.trans e0, (q 1).1.trans e1, (q 2).1.trans e2, (q 3).1.trans e3, (q 4).1.trans e4, (q 5).1.trans e5, ?_⟩
  rcases k3 with ⟨c1, c2⟩ | ⟨c1, sb, c2, c3, c4, c5⟩
  · exact Or.inl ⟨c1, (q 6).2.2.trans c2⟩
  · refine Or.inr ⟨c1, sb, (q 6).2.2.trans c2, c3, c4.up u c3 c5, fun wb hw => c5 wb ?_⟩
    rw [← ((u.2 sb c3 c4.1.2.1).1 0).2.2]
    exact hw
end
section
/-! contracts: Standings.has, Deal (written by wip/whole/g16.py) -/
theorem shr6 {s : Nat} (hs : s < 1073741824) : nI s >>> ((6 : Int32) &&& 31) = nI (s / 64) := pk_shrN (k := 6) (by omega) _ (by decide)
theorem and63 {s : Nat} (hs : s < 1073741824) : nI s &&& 63 = nI (s % 64) := pk_andN (k := 6) (by omega) (by decide)
theorem oI_lt {q : Option Nat} (h : ∀ p, q = some p → p < 1073741824) : oI q < 0 ↔ q = none := by
  cases q with
  | none => exact ⟨fun _ => rfl, fun _ => by decide⟩
  | some p => exact ⟨fun z => absurd z (nI_pos (by have := h p rfl; omega)), fun z => by cases z⟩
theorem oI_inj {q r : Option Nat} (h : ∀ p, q = some p → p < 1073741824) (h2 : ∀ p, r = some p → p < 1073741824) : oI q = oI r ↔ q = r := by
  refine ⟨fun e => ?_, fun e => by rw [e]⟩
  cases q with
  | none =>
    cases r with
    | none => rfl
    | some p =>
      have : oI (some p) < 0 := by rw [← e]; decide
      exact absurd this (nI_pos (by have := h2 p rfl; omega))
  | some p =>
    cases r with
    | none =>
      have : oI (some p) < 0 := by rw [e]; decide
      exact absurd this (nI_pos (by have := h p rfl; omega))
    | some p2 =>
      have e2 : nI p = nI p2 := e
      rw [nI_eq (by have := h p rfl; omega) (by have := h2 p2 rfl; omega)] at e2
      rw [e2]
theorem gv_b {d : DD} (w : dWf d) {s : Nat} : ∀ p, gv d s = some p → p < 1073741824 := fun p h => by have := (gv_ok w h).1; omega
theorem dO_b {d : DD} (w : dWf d) : ∀ p, dO d = some p → p < 1073741824 := fun p h => by have := (w.2.2.2.2.2.2.1 p h).1; omega
theorem zX6_has (X : EX) {h : HP} {sb s : Nat} {b : Nat → Bool} (k : StC h sb b) (hs : s < 1296) : Ct X mX6_has 0 0 0 [vR (some sb), vI (nI s)] h (Rt (vI (b2 (b s = true))) h) := by
  refine ct_of rfl (Nat.le_of_ble_eq_true rfl) ?_
  obtain ⟨kI, wb, kw, kw2, kn, kb⟩ := k
  refine e_aload_n aX6_has_0 rfl ?_
  refine e_getRF aX6_has_1 fX6_11 rfl kI kw ?_
  refine e_iload_n aX6_has_4 rfl ?_
  refine e_bipush (v := 6) aX6_has_5 (by decide) ?_
  refine e_ishr aX6_has_7 ?_
  refine e_top (shr6 (by omega)) ?_
  refine e_laloadF aX6_has_8 kw2 kn (vin (by omega)) (by rw [cl (by omega)]) ?_
  refine e_iload_n aX6_has_9 rfl ?_
  refine e_bipush (v := 63) aX6_has_10 (by decide) ?_
  refine e_iand aX6_has_12 ?_
  refine e_top (and63 (by omega)) ?_
  refine e_lshr aX6_has_13 ?_
  refine e_lconst (v := 1) aX6_has_14 rfl ?_
  refine e_land aX6_has_15 ?_
  refine e_topL (bitL_and (j := s % 64) (by omega)) ?_
  refine e_lconst (v := 0) aX6_has_16 rfl ?_
  refine e_lcmp aX6_has_17 ?_
  refine e_if_eq aX6_has_18 (fun c18 => ?_) (fun c18 => ?_)
  · -- 18: taken
    have c := bit_q.mp c18
    rw [kb s hs] at c
    refine e_iconst (v := 0) aX6_has_25 (by decide) ?_
    refine e_zreturn aX6_has_26 rfl (by decide) (Nat.le_refl _) (Nat.le_refl _) ?_
    exact ⟨by rw [b2_f (by first | grind | (simp only [b2_0] at *; grind))], rfl⟩
  · -- 18: not taken
    have c := (not_congr bit_q).mp c18
    rw [kb s hs] at c
    refine e_iconst (v := 1) aX6_has_21 (by decide) ?_
    refine e_goto aX6_has_22 ?_
    refine e_zreturn aX6_has_26 rfl (by decide) (Nat.le_refl _) (Nat.le_refl _) ?_
    exact ⟨by rw [b2_t (by first | grind | (simp only [b2_0] at *; grind))], rfl⟩
theorem zX1_isMet (X : EX) {h : HP} {a s : Nat} {d : DD} (k : DealC h a d) (hs : s < 1296) : Ct X mX1_isMet 1 0 0 [vR (some a), vI (nI s)] h (Rt (vI (b2 (dB d s = true))) h) := by
  refine ct_of rfl (Nat.le_of_ble_eq_true rfl) ?_
  obtain ⟨k0, kI, w, e0, e1, e2, e3, e4, e5, kc⟩ := id k
  refine e_aload_n aX1_isMet_0 rfl ?_
  refine e_getR aX1_isMet_1 fX1_30 rfl kI ?_
  refine e_ifnull aX1_isMet_4 (fun c4 => ?_) (fun r4 c4 => ?_)
  · -- 4: taken
    have hb : dB d s = true := by
      rcases kc with ⟨q1, q2⟩ | ⟨q1, sb, q2, q3, q4, q5⟩
      · exact w.2.2.2.2.2.2.2.2.2 q1 s
      · rw [q2] at c4; cases c4
    refine e_iconst (v := 1) aX1_isMet_18 (by decide) ?_
    refine e_goto aX1_isMet_19 ?_
    refine e_zreturn aX1_isMet_23 rfl (by decide) (Nat.le_refl _) (Nat.le_refl _) ?_
    exact ⟨by rw [b2_t (by first | grind | (simp only [b2_0] at *; grind))], rfl⟩
  · -- 4: not taken
    rcases kc with ⟨q1, q2⟩ | ⟨q1, sb, q2, q3, q4, q5⟩
    · rw [q2] at c4; cases c4
    have hsb : sb = r4 := Option.some.inj (q2.symm.trans c4)
    subst hsb
    refine e_aload_n aX1_isMet_7 rfl ?_
    refine e_getRF aX1_isMet_8 fX1_30 rfl kI c4 ?_
    refine e_iload_n aX1_isMet_11 rfl ?_
    refine e_invvT aX1_isMet_12 kX1_34 (zX6_has X q4 hs) rfl rfl q4.1 (Nat.le_of_ble_eq_true rfl) (Nat.le_of_ble_eq_true rfl) (Nat.le_refl _) (Nat.le_refl _) (Nat.le_of_ble_eq_true rfl) ?_
    refine e_if_eq aX1_isMet_15 (fun c15 => ?_) (fun c15 => ?_)
    · -- 15: taken
      have hb := b2_0.mp c15
      refine e_iconst (v := 0) aX1_isMet_22 (by decide) ?_
      refine e_zreturn aX1_isMet_23 rfl (by decide) (Nat.le_refl _) (Nat.le_refl _) ?_
      exact ⟨by rw [b2_f (by first | grind | (simp only [b2_0] at *; grind))], rfl⟩
    · -- 15: not taken
      have hb : dB d s = true := Decidable.of_not_not (fun z => c15 (b2_0.mpr z))
      refine e_iconst (v := 1) aX1_isMet_18 (by decide) ?_
      refine e_goto aX1_isMet_19 ?_
      refine e_zreturn aX1_isMet_23 rfl (by decide) (Nat.le_refl _) (Nat.le_refl _) ?_
      exact ⟨by rw [b2_t (by first | grind | (simp only [b2_0] at *; grind))], rfl⟩
theorem sub_lt {a b n : Nat} (ha : a < 1073741824) (hb : b < 1073741824) (hn : n < 1073741824) : nI a - nI b < nI n ↔ a < b + n := by
  rw [Int32.lt_iff_toInt_lt, pk_sub_toInt (by omega) (by omega), nI_toInt (by omega)]
  omega
theorem pk_m1r {n : Nat} (h : 0 < n) : nI n + Int32.ofInt (-1) = nI (n - 1) := by
  obtain ⟨k, rfl⟩ : ∃ k, n = k + 1 := ⟨n - 1, by omega⟩
  exact pk_m1 k
theorem zX1_gives (X : EX) {h : HP} {a s : Nat} {d : DD} (k : DealC h a d) (hs : s < 1296) : Ct X mX1_gives 1 0 0 [vR (some a), vI (nI s)] h (Rt (vI (oI (gv d s))) h) := by
  refine ct_of rfl (Nat.le_of_ble_eq_true rfl) ?_
  obtain ⟨k0, kI, w, e0, e1, e2, e3, e4, e5, kc⟩ := id k
  have loop : ∀ (k p n : Nat), 12 ≤ p + 3 * k → p < 15 → n ≤ 2 → oI (roll s k p n) = oI (gv d s) → Ev X mX1_gives 1 0 0 (Rt (vI (oI (gv d s))) h) 0 0 170 [(0, some (vR (some a))), (1, some (vI (nI s))), (3, some (vI (nI p))), (4, some (vI (nI n)))] [] h := by
    intro k
    induction k with
    | zero =>
      intro p n h1 h2 h3 hRr
      refine e_iload_n aX1_gives_170 rfl ?_
      refine e_bipush (v := 12) aX1_gives_171 (by decide) ?_
      refine e_icmp_ge aX1_gives_173 (fun c173 => ?_) (fun c173 => ?_)
      · -- 173: taken
        have q173 := (nI_leI (a := 12) (by omega) (by omega)).mp c173
        refine e_iload_n aX1_gives_195 rfl ?_
        refine e_bipush (v := 12) aX1_gives_196 (by decide) ?_
        refine e_icmp_ge aX1_gives_198 (fun c198 => ?_) (fun c198 => ?_)
        · -- 198: taken
          have q198 := (nI_leI (a := 12) (by omega) (by omega)).mp c198
          refine e_iconst (v := -1) aX1_gives_205 (by decide) ?_
          refine e_ireturn aX1_gives_206 rfl (Nat.le_refl _) (Nat.le_refl _) ?_
          first | exact ⟨by rw [← hRr]; rfl, rfl⟩ | exact absurd q173 q198
        · -- 198: not taken
          have q198 := (not_congr (nI_leI (a := 12) (by omega) (by omega))).mp c198
          refine e_iload_n aX1_gives_201 rfl ?_
          refine e_goto aX1_gives_202 ?_
          refine e_ireturn aX1_gives_206 rfl (Nat.le_refl _) (Nat.le_refl _) ?_
          first | exact ⟨by rw [← hRr]; rfl, rfl⟩ | exact absurd q173 q198
      · -- 173: not taken
        have q173 := (not_congr (nI_leI (a := 12) (by omega) (by omega))).mp c173
        exact absurd h1 (by omega)
    | succ k ih =>
      intro p n h1 h2 h3 hRr
      refine e_iload_n aX1_gives_170 rfl ?_
      refine e_bipush (v := 12) aX1_gives_171 (by decide) ?_
      refine e_icmp_ge aX1_gives_173 (fun c173 => ?_) (fun c173 => ?_)
      · -- 173: taken
        have q173 := (nI_leI (a := 12) (by omega) (by omega)).mp c173
        refine e_iload_n aX1_gives_195 rfl ?_
        refine e_bipush (v := 12) aX1_gives_196 (by decide) ?_
        refine e_icmp_ge aX1_gives_198 (fun c198 => ?_) (fun c198 => ?_)
        · -- 198: taken
          have q198 := (nI_leI (a := 12) (by omega) (by omega)).mp c198
          refine e_iconst (v := -1) aX1_gives_205 (by decide) ?_
          refine e_ireturn aX1_gives_206 rfl (Nat.le_refl _) (Nat.le_refl _) ?_
          refine ⟨?_, rfl⟩
          rw [← hRr]
          unfold roll
          first | (rw [if_pos (by omega)]; rfl) | (rw [if_neg (by omega), if_pos (by omega)]; rfl)
        · -- 198: not taken
          have q198 := (not_congr (nI_leI (a := 12) (by omega) (by omega))).mp c198
          refine e_iload_n aX1_gives_201 rfl ?_
          refine e_goto aX1_gives_202 ?_
          refine e_ireturn aX1_gives_206 rfl (Nat.le_refl _) (Nat.le_refl _) ?_
          refine ⟨?_, rfl⟩
          rw [← hRr]
          unfold roll
          first | (rw [if_pos (by omega)]; rfl) | (rw [if_neg (by omega), if_pos (by omega)]; rfl)
      · -- 173: not taken
        have q173 := (not_congr (nI_leI (a := 12) (by omega) (by omega))).mp c173
        refine e_iload_n aX1_gives_176 rfl ?_
        refine e_iload_n aX1_gives_177 rfl ?_
        refine e_invsNT aX1_gives_178 kX1_40 (zX8_placeUnder X hs (by omega)) rfl rfl (Nat.le_of_ble_eq_true rfl) (Nat.le_of_ble_eq_true rfl) (Nat.le_refl _) (Nat.le_refl _) (Nat.le_of_ble_eq_true rfl) ?_
        refine e_iload aX1_gives_181 rfl ?_
        refine e_icmp_ge aX1_gives_183 (fun c183 => ?_) (fun c183 => ?_)
        · -- 183: taken
          have hp3 := pl_lt s p
          have q183 := (nI_leI (by omega) (by omega)).mp c183
          refine e_iload_n aX1_gives_195 rfl ?_
          refine e_bipush (v := 12) aX1_gives_196 (by decide) ?_
          refine e_icmp_ge aX1_gives_198 (fun c198 => ?_) (fun c198 => ?_)
          · -- 198: taken
            have q198 := (nI_leI (a := 12) (by omega) (by omega)).mp c198
            refine e_iconst (v := -1) aX1_gives_205 (by decide) ?_
            refine e_ireturn aX1_gives_206 rfl (Nat.le_refl _) (Nat.le_refl _) ?_
            refine ⟨?_, rfl⟩
            rw [← hRr]
            unfold roll
            first | (rw [if_pos (by omega)]; rfl) | (rw [if_neg (by omega), if_pos (by omega)]; rfl)
          · -- 198: not taken
            have q198 := (not_congr (nI_leI (a := 12) (by omega) (by omega))).mp c198
            refine e_iload_n aX1_gives_201 rfl ?_
            refine e_goto aX1_gives_202 ?_
            refine e_ireturn aX1_gives_206 rfl (Nat.le_refl _) (Nat.le_refl _) ?_
            refine ⟨?_, rfl⟩
            rw [← hRr]
            unfold roll
            first | (rw [if_pos (by omega)]; rfl) | (rw [if_neg (by omega), if_pos (by omega)]; rfl)
        · -- 183: not taken
          have hp3 := pl_lt s p
          have q183 := (not_congr (nI_leI (by omega) (by omega))).mp c183
          refine e_iinc aX1_gives_186 rfl rfl (Nat.le_of_ble_eq_true rfl) ?_
          refine e_iinc aX1_gives_189 rfl rfl (Nat.le_of_ble_eq_true rfl) ?_
          refine e_goto aX1_gives_192 ?_
          refine e_ls (ls' := [(0, some (vR (some a))), (1, some (vI (nI s))), (3, some (vI (nI (p + 3)))), (4, some (vI (nI (n - 1))))]) ⟨rfl, rfl, congrArg (fun x => some (vI x)) (nI_add p 3), congrArg (fun x => some (vI x)) (pk_m1r (by omega)), trivial⟩ ?_
          exact ih (p + 3) (n - 1) (by omega) (by omega) (by omega) (by rw [← hRr]; conv => rhs; unfold roll; rw [if_neg (by omega), if_neg (by omega)])
  have L20 : dB d s = true → Ev X mX1_gives 1 0 0 (Rt (vI (oI (gv d s))) h) 0 0 20 (arL 0 [vR (some a), vI (nI s)]) [] h := by
    intro hb
    refine e_iload_n aX1_gives_20 rfl ?_
    refine e_aload_n aX1_gives_21 rfl ?_
    refine e_getIF aX1_gives_22 fX1_21 rfl kI e3 ?_
    refine e_invsNT aX1_gives_25 kX1_40 (zX8_placeUnder X hs w.2.2.2.2.1) rfl rfl (Nat.le_of_ble_eq_true rfl) (Nat.le_of_ble_eq_true rfl) (Nat.le_refl _) (Nat.le_refl _) (Nat.le_of_ble_eq_true rfl) ?_
    refine e_istore_n aX1_gives_28 (Nat.le_of_ble_eq_true rfl) ?_
    refine e_aload_n aX1_gives_29 rfl ?_
    refine e_getIF aX1_gives_30 fX1_9 rfl kI e0 ?_
    have hk0 := w.1
    have hn2 := w.2.2.2.2.2.2.2.1
    have hp1 := pl_lt s (dP d)
    have hp2 := w.2.2.2.2.1
    rcases (show dK d = 0 ∨ dK d = 1 ∨ dK d = 2 ∨ dK d = 3 ∨ dK d = 4 ∨ dK d = 5 by omega) with hk | hk | hk | hk | hk | hk
    · -- switch
      refine e_top (v := 0) (by rw [hk]; rfl) ?_
      refine e_tableOut (tgt := 154) aX1_gives_33 (by decide) (by decide) ?_
      refine e_aload_n aX1_gives_154 rfl ?_
      refine e_getIF aX1_gives_155 fX1_21 rfl kI e3 ?_
      refine e_ireturn aX1_gives_158 rfl (Nat.le_refl _) (Nat.le_refl _) ?_
      exact ⟨by unfold gv gvk; rw [if_pos hb, if_neg (by omega), if_neg (by omega), if_neg (by omega), if_neg (by omega), if_neg (by omega)]; rfl, rfl⟩
    · -- switch
      refine e_top (v := 1) (by rw [hk]; rfl) ?_
      refine e_tableIn (tgt := 68) aX1_gives_33 (by decide) (by decide) rfl (by decide) ?_
      refine e_iload_n aX1_gives_68 rfl ?_
      refine e_aload_n aX1_gives_69 rfl ?_
      refine e_getIF aX1_gives_70 fX1_27 rfl kI e5 ?_
      refine e_icmp_lt aX1_gives_73 (fun c73 => ?_) (fun c73 => ?_)
      · -- 73: taken
        have q73 := (nI_ltI (by omega) (by omega)).mp c73
        refine e_iconst (v := -1) aX1_gives_83 (by decide) ?_
        refine e_ireturn aX1_gives_84 rfl (Nat.le_refl _) (Nat.le_refl _) ?_
        exact ⟨by unfold gv gvk; rw [if_pos hb, if_pos hk]; first | (rw [if_pos (by omega)]; rfl) | (rw [if_neg (by omega)]; rfl), rfl⟩
      · -- 73: not taken
        have q73 := (not_congr (nI_ltI (by omega) (by omega))).mp c73
        refine e_aload_n aX1_gives_76 rfl ?_
        refine e_getIF aX1_gives_77 fX1_21 rfl kI e3 ?_
        refine e_goto aX1_gives_80 ?_
        refine e_ireturn aX1_gives_84 rfl (Nat.le_refl _) (Nat.le_refl _) ?_
        exact ⟨by unfold gv gvk; rw [if_pos hb, if_pos hk]; first | (rw [if_pos (by omega)]; rfl) | (rw [if_neg (by omega)]; rfl), rfl⟩
    · -- switch
      refine e_top (v := 2) (by rw [hk]; rfl) ?_
      refine e_tableIn (tgt := 102) aX1_gives_33 (by decide) (by decide) rfl (by decide) ?_
      obtain ⟨q, hq⟩ := Option.isSome_iff_exists.mp (w.2.2.2.2.2.1.mp (by omega))
      have hqb := w.2.2.2.2.2.2.1 q hq
      have hp3 := pl_lt s q
      have hV : dV d = q := by unfold dV; rw [hq]; rfl
      refine e_iload_n aX1_gives_102 rfl ?_
      refine e_iload_n aX1_gives_103 rfl ?_
      refine e_aload_n aX1_gives_104 rfl ?_
      refine e_getIF aX1_gives_105 fX1_24 rfl kI (e4.trans (congrArg oI hq)) ?_
      refine e_invsNT aX1_gives_108 kX1_40 (zX8_placeUnder X hs hqb.1) rfl rfl (Nat.le_of_ble_eq_true rfl) (Nat.le_of_ble_eq_true rfl) (Nat.le_refl _) (Nat.le_refl _) (Nat.le_of_ble_eq_true rfl) ?_
      refine e_isub aX1_gives_111 ?_
      refine e_iconst (v := 1) aX1_gives_112 (by decide) ?_
      refine e_icmp_lt aX1_gives_113 (fun c113 => ?_) (fun c113 => ?_)
      · -- 113: taken
        have q113 := (sub_lt (n := 1) (by omega) (by omega) (by omega)).mp c113
        refine e_iconst (v := -1) aX1_gives_123 (by decide) ?_
        refine e_ireturn aX1_gives_124 rfl (Nat.le_refl _) (Nat.le_refl _) ?_
        exact ⟨by unfold gv gvk; rw [if_pos hb, if_neg (by omega), if_pos hk, hV]; first | (rw [if_pos (by omega)]; rfl) | (rw [if_neg (by omega)]; rfl), rfl⟩
      · -- 113: not taken
        have q113 := (not_congr (sub_lt (n := 1) (by omega) (by omega) (by omega))).mp c113
        refine e_aload_n aX1_gives_116 rfl ?_
        refine e_getIF aX1_gives_117 fX1_21 rfl kI e3 ?_
        refine e_goto aX1_gives_120 ?_
        refine e_ireturn aX1_gives_124 rfl (Nat.le_refl _) (Nat.le_refl _) ?_
        exact ⟨by unfold gv gvk; rw [if_pos hb, if_neg (by omega), if_pos hk, hV]; first | (rw [if_pos (by omega)]; rfl) | (rw [if_neg (by omega)]; rfl), rfl⟩
    · -- switch
      refine e_top (v := 3) (by rw [hk]; rfl) ?_
      refine e_tableIn (tgt := 151) aX1_gives_33 (by decide) (by decide) rfl (by decide) ?_
      refine e_goto aX1_gives_151 ?_
      refine e_aload_n aX1_gives_159 rfl ?_
      refine e_getIF aX1_gives_160 fX1_21 rfl kI e3 ?_
      refine e_istore_n aX1_gives_163 (Nat.le_of_ble_eq_true rfl) ?_
      refine e_aload_n aX1_gives_164 rfl ?_
      refine e_getIF aX1_gives_165 fX1_27 rfl kI e5 ?_
      refine e_istore aX1_gives_168 (Nat.le_of_ble_eq_true rfl) ?_
      refine e_ls (ls' := [(0, some (vR (some a))), (1, some (vI (nI s))), (3, some (vI (nI (dP d)))), (4, some (vI (nI (dN d))))]) ⟨rfl, rfl, rfl, rfl, trivial⟩ ?_
      exact loop 4 _ _ (by omega) (by omega) hn2 (by unfold gv gvk; rw [if_pos hb, if_neg (by omega), if_neg (by omega), if_pos hk])
    · -- switch
      refine e_top (v := 4) (by rw [hk]; rfl) ?_
      refine e_tableIn (tgt := 85) aX1_gives_33 (by decide) (by decide) rfl (by decide) ?_
      refine e_iload_n aX1_gives_85 rfl ?_
      refine e_aload_n aX1_gives_86 rfl ?_
      refine e_getIF aX1_gives_87 fX1_27 rfl kI e5 ?_
      refine e_icmp_ge aX1_gives_90 (fun c90 => ?_) (fun c90 => ?_)
      · -- 90: taken
        have q90 := (nI_leI (by omega) (by omega)).mp c90
        refine e_iconst (v := -1) aX1_gives_100 (by decide) ?_
        refine e_ireturn aX1_gives_101 rfl (Nat.le_refl _) (Nat.le_refl _) ?_
        exact ⟨by unfold gv gvk; rw [if_pos hb, if_neg (by omega), if_neg (by omega), if_neg (by omega), if_pos hk]; first | (rw [if_pos (by omega)]; rfl) | (rw [if_neg (by omega)]; rfl), rfl⟩
      · -- 90: not taken
        have q90 := (not_congr (nI_leI (by omega) (by omega))).mp c90
        refine e_aload_n aX1_gives_93 rfl ?_
        refine e_getIF aX1_gives_94 fX1_21 rfl kI e3 ?_
        refine e_goto aX1_gives_97 ?_
        refine e_ireturn aX1_gives_101 rfl (Nat.le_refl _) (Nat.le_refl _) ?_
        exact ⟨by unfold gv gvk; rw [if_pos hb, if_neg (by omega), if_neg (by omega), if_neg (by omega), if_pos hk]; first | (rw [if_pos (by omega)]; rfl) | (rw [if_neg (by omega)]; rfl), rfl⟩
    · -- switch
      refine e_top (v := 5) (by rw [hk]; rfl) ?_
      refine e_tableIn (tgt := 125) aX1_gives_33 (by decide) (by decide) rfl (by decide) ?_
      obtain ⟨q, hq⟩ := Option.isSome_iff_exists.mp (w.2.2.2.2.2.1.mp (by omega))
      have hqb := w.2.2.2.2.2.2.1 q hq
      have hp3 := pl_lt s q
      have hV : dV d = q := by unfold dV; rw [hq]; rfl
      refine e_iload_n aX1_gives_125 rfl ?_
      refine e_iload_n aX1_gives_126 rfl ?_
      refine e_aload_n aX1_gives_127 rfl ?_
      refine e_getIF aX1_gives_128 fX1_24 rfl kI (e4.trans (congrArg oI hq)) ?_
      refine e_invsNT aX1_gives_131 kX1_40 (zX8_placeUnder X hs hqb.1) rfl rfl (Nat.le_of_ble_eq_true rfl) (Nat.le_of_ble_eq_true rfl) (Nat.le_refl _) (Nat.le_refl _) (Nat.le_of_ble_eq_true rfl) ?_
      refine e_isub aX1_gives_134 ?_
      refine e_aload_n aX1_gives_135 rfl ?_
      refine e_getIF aX1_gives_136 fX1_27 rfl kI e5 ?_
      refine e_icmp_lt aX1_gives_139 (fun c139 => ?_) (fun c139 => ?_)
      · -- 139: taken
        have q139 := (sub_lt (by omega) (by omega) (by omega)).mp c139
        refine e_iconst (v := -1) aX1_gives_149 (by decide) ?_
        refine e_ireturn aX1_gives_150 rfl (Nat.le_refl _) (Nat.le_refl _) ?_
        exact ⟨by unfold gv gvk; rw [if_pos hb, if_neg (by omega), if_neg (by omega), if_neg (by omega), if_neg (by omega), if_pos hk, hV]; first | (rw [if_pos (by omega)]; rfl) | (rw [if_neg (by omega)]; rfl), rfl⟩
      · -- 139: not taken
        have q139 := (not_congr (sub_lt (by omega) (by omega) (by omega))).mp c139
        refine e_aload_n aX1_gives_142 rfl ?_
        refine e_getIF aX1_gives_143 fX1_21 rfl kI e3 ?_
        refine e_goto aX1_gives_146 ?_
        refine e_ireturn aX1_gives_150 rfl (Nat.le_refl _) (Nat.le_refl _) ?_
        exact ⟨by unfold gv gvk; rw [if_pos hb, if_neg (by omega), if_neg (by omega), if_neg (by omega), if_neg (by omega), if_pos hk, hV]; first | (rw [if_pos (by omega)]; rfl) | (rw [if_neg (by omega)]; rfl), rfl⟩
  refine e_aload_n aX1_gives_0 rfl ?_
  refine e_getR aX1_gives_1 fX1_30 rfl kI ?_
  refine e_ifnull aX1_gives_4 (fun c4 => ?_) (fun r4 c4 => ?_)
  · -- 4: taken
    exact L20 (by
      rcases kc with ⟨q1, q2⟩ | ⟨q1, sb, q2, q3, q4, q5⟩
      · exact w.2.2.2.2.2.2.2.2.2 q1 s
      · rw [q2] at c4; cases c4)
  · -- 4: not taken
    rcases kc with ⟨q1, q2⟩ | ⟨q1, sb, q2, q3, q4, q5⟩
    · rw [q2] at c4; cases c4
    have hsb : sb = r4 := Option.some.inj (q2.symm.trans c4)
    subst hsb
    refine e_aload_n aX1_gives_7 rfl ?_
    refine e_getRF aX1_gives_8 fX1_30 rfl kI c4 ?_
    refine e_iload_n aX1_gives_11 rfl ?_
    refine e_invvT aX1_gives_12 kX1_34 (zX6_has X q4 hs) rfl rfl q4.1 (Nat.le_of_ble_eq_true rfl) (Nat.le_of_ble_eq_true rfl) (Nat.le_refl _) (Nat.le_refl _) (Nat.le_of_ble_eq_true rfl) ?_
    refine e_if_ne aX1_gives_15 (fun c15 => ?_) (fun c15 => ?_)
    · -- 15: taken
      exact L20 (Decidable.of_not_not (fun z => c15 (b2_0.mpr z)))
    · -- 15: not taken
      have hb : ¬ dB d s = true := b2_0.mp c15
      refine e_iconst (v := -1) aX1_gives_18 (by decide) ?_
      refine e_ireturn aX1_gives_19 rfl (Nat.le_refl _) (Nat.le_refl _) ?_
      exact ⟨by unfold gv; rw [if_neg hb]; rfl, rfl⟩
theorem zX1_getsBack (X : EX) {h : HP} {a s : Nat} {d : DD} (k : DealC h a d) (hs : s < 1296) : Ct X mX1_getsBack 2 0 0 [vR (some a), vI (nI s)] h (Rt (vI (oI (gb d s))) h) := by
  refine ct_of rfl (Nat.le_of_ble_eq_true rfl) ?_
  obtain ⟨k0, kI, w, e0, e1, e2, e3, e4, e5, kc⟩ := id k
  refine e_aload_n aX1_getsBack_0 rfl ?_
  refine e_getIF aX1_getsBack_1 fX1_24 rfl kI e4 ?_
  refine e_if_lt aX1_getsBack_4 (fun c4 => ?_) (fun c4 => ?_)
  · -- 4: taken
    have q4 := (oI_lt (dO_b w)).mp c4
    have hv : gb d s = none := by
      unfold gb
      rw [q4]
      split <;> rfl
    refine e_iconst (v := -1) aX1_getsBack_22 (by decide) ?_
    refine e_ireturn aX1_getsBack_23 rfl (Nat.le_refl _) (Nat.le_refl _) ?_
    exact ⟨by rw [hv] <;> rfl, rfl⟩
  · -- 4: not taken
    have q4 := (not_congr (oI_lt (dO_b w))).mp c4
    refine e_aload_n aX1_getsBack_7 rfl ?_
    refine e_iload_n aX1_getsBack_8 rfl ?_
    refine e_invvT aX1_getsBack_9 kX1_44 (zX1_gives X k hs) rfl rfl kI (Nat.le_of_ble_eq_true rfl) (Nat.le_of_ble_eq_true rfl) (Nat.le_refl _) (Nat.le_refl _) (Nat.le_of_ble_eq_true rfl) ?_
    refine e_if_lt aX1_getsBack_12 (fun c12 => ?_) (fun c12 => ?_)
    · -- 12: taken
      have q12 := (oI_lt (gv_b w)).mp c12
      have hv : gb d s = none := by
        unfold gb
        rw [if_neg (by rw [q12]; simp)]
      refine e_iconst (v := -1) aX1_getsBack_22 (by decide) ?_
      refine e_ireturn aX1_getsBack_23 rfl (Nat.le_refl _) (Nat.le_refl _) ?_
      exact ⟨by rw [hv] <;> rfl, rfl⟩
    · -- 12: not taken
      have q12 := (not_congr (oI_lt (gv_b w))).mp c12
      have hv : gb d s = dO d := by
        unfold gb
        rw [if_pos (Option.isSome_iff_ne_none.mpr q12)]
      refine e_aload_n aX1_getsBack_15 rfl ?_
      refine e_getIF aX1_getsBack_16 fX1_24 rfl kI e4 ?_
      refine e_goto aX1_getsBack_19 ?_
      refine e_ireturn aX1_getsBack_23 rfl (Nat.le_refl _) (Nat.le_refl _) ?_
      exact ⟨by rw [hv] <;> rfl, rfl⟩
theorem zX1_mayGive (X : EX) {h : HP} {a p : Nat} {d : DD} (k : DealC h a d) (hp : p < 12) : Ct X mX1_mayGive 0 0 0 [vR (some a), vI (nI p)] h (Rt (vI (b2 (p = dP d ∨ dK d = 3 ∧ dP d < p ∧ p % 3 = dP d % 3))) h) := by
  refine ct_of rfl (Nat.le_of_ble_eq_true rfl) ?_
  obtain ⟨k0, kI, w, e0, e1, e2, e3, e4, e5, kc⟩ := id k
  have hk0 := w.1
  have hp2 := w.2.2.2.2.1
  refine e_iload_n aX1_mayGive_0 rfl ?_
  refine e_aload_n aX1_mayGive_1 rfl ?_
  refine e_getIF aX1_mayGive_2 fX1_21 rfl kI e3 ?_
  refine e_icmp_eq aX1_mayGive_5 (fun c5 => ?_) (fun c5 => ?_)
  · -- 5: taken
    have q5 := (nI_eq (by omega) (by omega)).mp c5
    refine e_iconst (v := 1) aX1_mayGive_36 (by decide) ?_
    refine e_goto aX1_mayGive_37 ?_
    refine e_zreturn aX1_mayGive_41 rfl (by decide) (Nat.le_refl _) (Nat.le_refl _) ?_
    first | exact ⟨by rw [b2_t (by omega)], rfl⟩ | exact ⟨by rw [b2_f (by omega)], rfl⟩
  · -- 5: not taken
    have q5 := (not_congr (nI_eq (by omega) (by omega))).mp c5
    refine e_aload_n aX1_mayGive_8 rfl ?_
    refine e_getIF aX1_mayGive_9 fX1_9 rfl kI e0 ?_
    refine e_iconst (v := 3) aX1_mayGive_12 (by decide) ?_
    refine e_icmp_ne aX1_mayGive_13 (fun c13 => ?_) (fun c13 => ?_)
    · -- 13: taken
      have q13 := (not_congr (nI_eq (b := 3) (by omega) (by omega))).mp c13
      refine e_iconst (v := 0) aX1_mayGive_40 (by decide) ?_
      refine e_zreturn aX1_mayGive_41 rfl (by decide) (Nat.le_refl _) (Nat.le_refl _) ?_
      first | exact ⟨by rw [b2_t (by omega)], rfl⟩ | exact ⟨by rw [b2_f (by omega)], rfl⟩
    · -- 13: not taken
      have q13 := (nI_eq (b := 3) (by omega) (by omega)).mp c13
      refine e_iload_n aX1_mayGive_16 rfl ?_
      refine e_aload_n aX1_mayGive_17 rfl ?_
      refine e_getIF aX1_mayGive_18 fX1_21 rfl kI e3 ?_
      refine e_icmp_le aX1_mayGive_21 (fun c21 => ?_) (fun c21 => ?_)
      · -- 21: taken
        have q21 := (nI_leI (by omega) (by omega)).mp c21
        refine e_iconst (v := 0) aX1_mayGive_40 (by decide) ?_
        refine e_zreturn aX1_mayGive_41 rfl (by decide) (Nat.le_refl _) (Nat.le_refl _) ?_
        first | exact ⟨by rw [b2_t (by omega)], rfl⟩ | exact ⟨by rw [b2_f (by omega)], rfl⟩
      · -- 21: not taken
        have q21 := (not_congr (nI_leI (by omega) (by omega))).mp c21
        refine e_iload_n aX1_mayGive_24 rfl ?_
        refine e_iconst (v := 3) aX1_mayGive_25 (by decide) ?_
        refine e_irem aX1_mayGive_26 (by decide) ?_
        refine e_top (nI_rem (b := 3) (by omega) (by decide) (by decide)) ?_
        refine e_aload_n aX1_mayGive_27 rfl ?_
        refine e_getIF aX1_mayGive_28 fX1_21 rfl kI e3 ?_
        refine e_iconst (v := 3) aX1_mayGive_31 (by decide) ?_
        refine e_irem aX1_mayGive_32 (by decide) ?_
        refine e_top (nI_rem (b := 3) (by omega) (by decide) (by decide)) ?_
        refine e_icmp_ne aX1_mayGive_33 (fun c33 => ?_) (fun c33 => ?_)
        · -- 33: taken
          have q33 := (not_congr (nI_eq (by omega) (by omega))).mp c33
          refine e_iconst (v := 0) aX1_mayGive_40 (by decide) ?_
          refine e_zreturn aX1_mayGive_41 rfl (by decide) (Nat.le_refl _) (Nat.le_refl _) ?_
          first | exact ⟨by rw [b2_t (by omega)], rfl⟩ | exact ⟨by rw [b2_f (by omega)], rfl⟩
        · -- 33: not taken
          have q33 := (nI_eq (by omega) (by omega)).mp c33
          refine e_iconst (v := 1) aX1_mayGive_36 (by decide) ?_
          refine e_goto aX1_mayGive_37 ?_
          refine e_zreturn aX1_mayGive_41 rfl (by decide) (Nat.le_refl _) (Nat.le_refl _) ?_
          first | exact ⟨by rw [b2_t (by omega)], rfl⟩ | exact ⟨by rw [b2_f (by omega)], rfl⟩
theorem gv_may {d : DD} (w : dWf d) {s p : Nat} (h : gv d s = some p) : p = dP d ∨ dK d = 3 ∧ dP d < p ∧ p % 3 = dP d % 3 := by
  rcases (gv_ok w h).2 with e | e
  · exact Or.inl e
  · by_cases e9 : p = dP d
    · exact Or.inl e9
    · exact Or.inr ⟨e.1, by omega, e.2.2⟩
theorem zX1_takerOf (X : EX) {h : HP} {a s p : Nat} {d : DD} (k : DealC h a d) (hs : s < 1296) (hp : p < 12) : Ct X mX1_takerOf 2 0 0 [vR (some a), vI (nI s), vI (nI p)] h (Rt (vI (oI (tk d s p))) h) := by
  refine ct_of rfl (Nat.le_of_ble_eq_true rfl) ?_
  obtain ⟨k0, kI, w, e0, e1, e2, e3, e4, e5, kc⟩ := id k
  refine e_iload_n aX1_takerOf_0 rfl ?_
  refine e_aload_n aX1_takerOf_1 rfl ?_
  refine e_getIF aX1_takerOf_2 fX1_24 rfl kI e4 ?_
  refine e_icmp_ne aX1_takerOf_5 (fun c5 => ?_) (fun c5 => ?_)
  · -- 5: taken
    have q5 : ¬ dO d = some p := fun z => c5 (by rw [z]; rfl)
    refine e_aload_n aX1_takerOf_25 rfl ?_
    refine e_iload_n aX1_takerOf_26 rfl ?_
    refine e_invvT aX1_takerOf_27 kX1_48 (zX1_mayGive X k hp) rfl rfl kI (Nat.le_of_ble_eq_true rfl) (Nat.le_of_ble_eq_true rfl) (Nat.le_refl _) (Nat.le_refl _) (Nat.le_of_ble_eq_true rfl) ?_
    refine e_if_eq aX1_takerOf_30 (fun c30 => ?_) (fun c30 => ?_)
    · -- 30: taken
      have q30 := b2_0.mp c30
      have hv : tk d s p = none := by
        unfold tk
        rw [if_neg q5, if_neg (fun z => q30 (gv_may w z))]
      refine e_iconst (v := -1) aX1_takerOf_49 (by decide) ?_
      refine e_ireturn aX1_takerOf_50 rfl (Nat.le_refl _) (Nat.le_refl _) ?_
      exact ⟨by rw [hv] <;> rfl, rfl⟩
    · -- 30: not taken
      have q30 := Decidable.of_not_not (fun z => c30 (b2_0.mpr z))
      refine e_aload_n aX1_takerOf_33 rfl ?_
      refine e_iload_n aX1_takerOf_34 rfl ?_
      refine e_invvT aX1_takerOf_35 kX1_44 (zX1_gives X k hs) rfl rfl kI (Nat.le_of_ble_eq_true rfl) (Nat.le_of_ble_eq_true rfl) (Nat.le_refl _) (Nat.le_refl _) (Nat.le_of_ble_eq_true rfl) ?_
      refine e_iload_n aX1_takerOf_38 rfl ?_
      refine e_icmp_ne aX1_takerOf_39 (fun c39 => ?_) (fun c39 => ?_)
      · -- 39: taken
        have q39 : ¬ gv d s = some p := fun z => c39 (by rw [z]; rfl)
        have hv : tk d s p = none := by
          unfold tk
          rw [if_neg q5, if_neg q39]
        refine e_iconst (v := -1) aX1_takerOf_49 (by decide) ?_
        refine e_ireturn aX1_takerOf_50 rfl (Nat.le_refl _) (Nat.le_refl _) ?_
        exact ⟨by rw [hv] <;> rfl, rfl⟩
      · -- 39: not taken
        have q39 : gv d s = some p := ((oI_inj (r := some p) (gv_b w) (fun _ z => by cases z; omega)).mp c39)
        have hv : tk d s p = some (dT d) := by
          unfold tk
          rw [if_neg q5, if_pos q39]
        refine e_aload_n aX1_takerOf_42 rfl ?_
        refine e_getIF aX1_takerOf_43 fX1_18 rfl kI e2 ?_
        refine e_goto aX1_takerOf_46 ?_
        refine e_ireturn aX1_takerOf_50 rfl (Nat.le_refl _) (Nat.le_refl _) ?_
        exact ⟨by rw [hv] <;> rfl, rfl⟩
  · -- 5: not taken
    have q5 : dO d = some p := ((oI_inj (q := some p) (fun _ z => by cases z; omega) (dO_b w)).mp c5).symm
    refine e_aload_n aX1_takerOf_8 rfl ?_
    refine e_iload_n aX1_takerOf_9 rfl ?_
    refine e_invvT aX1_takerOf_10 kX1_44 (zX1_gives X k hs) rfl rfl kI (Nat.le_of_ble_eq_true rfl) (Nat.le_of_ble_eq_true rfl) (Nat.le_refl _) (Nat.le_refl _) (Nat.le_of_ble_eq_true rfl) ?_
    refine e_if_lt aX1_takerOf_13 (fun c13 => ?_) (fun c13 => ?_)
    · -- 13: taken
      have q13 := (oI_lt (gv_b w)).mp c13
      have hv : tk d s p = none := by
        unfold tk
        rw [if_pos q5, if_neg (by rw [q13]; simp)]
      refine e_iconst (v := -1) aX1_takerOf_23 (by decide) ?_
      refine e_ireturn aX1_takerOf_24 rfl (Nat.le_refl _) (Nat.le_refl _) ?_
      exact ⟨by rw [hv] <;> rfl, rfl⟩
    · -- 13: not taken
      have q13 := (not_congr (oI_lt (gv_b w))).mp c13
      have hv : tk d s p = some (dF d) := by
        unfold tk
        rw [if_pos q5, if_pos (Option.isSome_iff_ne_none.mpr q13)]
      refine e_aload_n aX1_takerOf_16 rfl ?_
      refine e_getIF aX1_takerOf_17 fX1_15 rfl kI e1 ?_
      refine e_goto aX1_takerOf_20 ?_
      refine e_ireturn aX1_takerOf_24 rfl (Nat.le_refl _) (Nat.le_refl _) ?_
      exact ⟨by rw [hv] <;> rfl, rfl⟩
end
section
/-! contracts: Book (written by wip/whole/g17.py) -/
/-- FALLEN and their ORDERS, in the class -/
def BkF (h : HP) (f : Nat) (o : Nat → Nat) : Prop := hI h 33 3 = nI f ∧ f ≤ 4 ∧ (∀ y, y < f → hI h 35 y = nI (o y)) ∧ (∀ y, y < f → o y < 6)
/-- DEALS, in the class -/
def BkD (h : HP) (n : Nat) (A : Nat → Nat) (D : Nat → DD) : Prop := hI h 33 1 = nI n ∧ n ≤ 12 ∧ (∀ k, k < n → hR h 34 k = some (A k) ∧ DealC h (A k) (D k))
theorem fo_le {o : Nat → Nat} {f i : Nat} (h : f ≤ 4) (ho : ∀ y, y < f → o y < 6) (hi : i ≤ f) : fo o i ≤ 1296 := by
  have := om_fo (o := o) (f := i) (by omega) (fun y hy => ho y (by omega))
  omega
theorem zX0_firstOpen (X : EX) {h : HP} (F : Fx h) {f : Nat} {o : Nat → Nat} (b : BkF h f o) : Ct X mX0_firstOpen 0 0 0 [vR (some 33)] h (Rt (vI (nI (fo o f))) h) := by
  refine ct_of rfl (Nat.le_of_ble_eq_true rfl) ?_
  obtain ⟨b1, b2, b3, b4⟩ := b
  have loop : ∀ (m : Nat) (i : Nat), i + m = f → Ev X mX0_firstOpen 0 0 0 (Rt (vI (nI (fo o f))) h) 0 0 4 [(0, some (vR (some 33))), (1, some (vI (nI (fo o i)))), (2, some (vI (nI i)))] [] h := by
    intro m
    induction m with
    | zero =>
      intro i hi
      have hmf : i = f := by omega
      refine e_iload_n aX0_firstOpen_4 rfl ?_
      refine e_aload_n aX0_firstOpen_5 rfl ?_
      refine e_getIF aX0_firstOpen_6 fX0_37 rfl (fx_is F rfl) b1 ?_
      refine e_icmp_ge aX0_firstOpen_9 (fun c9 => ?_) (fun c9 => ?_)
      · -- 9: taken
        refine e_iload_n aX0_firstOpen_33 rfl ?_
        refine e_ireturn aX0_firstOpen_34 rfl (Nat.le_refl _) (Nat.le_refl _) ?_
        exact ⟨by rw [hmf], rfl⟩
      · -- 9: not taken
        exact absurd (nI_le (by omega) (by omega)) c9
    | succ m ih =>
      intro i hi
      refine e_iload_n aX0_firstOpen_4 rfl ?_
      refine e_aload_n aX0_firstOpen_5 rfl ?_
      refine e_getIF aX0_firstOpen_6 fX0_37 rfl (fx_is F rfl) b1 ?_
      refine e_icmp_ge aX0_firstOpen_9 (fun c9 => ?_) (fun c9 => ?_)
      · -- 9: taken
        exact absurd c9 (nI_ge (by omega) (by omega))
      · -- 9: not taken
        refine e_iload_n aX0_firstOpen_12 rfl ?_
        refine e_aload_n aX0_firstOpen_13 rfl ?_
        refine e_getRF aX0_firstOpen_14 fX0_17 rfl (fx_is F rfl) (fx_r (b := 35) F rfl) ?_
        refine e_iload_n aX0_firstOpen_17 rfl ?_
        refine e_ialoadF (x := nI (o i)) aX0_firstOpen_18 (fx_is F rfl) (fx_n F rfl) (vin (N := 4) (by omega)) (by rw [cl (by omega)]; exact b3 i (by omega)) ?_
        refine e_getsN (i := 4) aX0_firstOpen_19 rfl gX0_40 ?_
        refine e_iload_n aX0_firstOpen_22 rfl ?_
        refine e_ialoadS aX0_firstOpen_23 rfl (vin (N := 4) (by omega)) ?_
        refine e_top (st_step (by omega)) ?_
        refine e_imul aX0_firstOpen_24 ?_
        refine e_top (nI_mul _ _) ?_
        refine e_iadd aX0_firstOpen_25 ?_
        refine e_top (nI_add _ _) ?_
        refine e_istore_n aX0_firstOpen_26 (Nat.le_of_ble_eq_true rfl) ?_
        refine e_iinc aX0_firstOpen_27 rfl rfl (Nat.le_of_ble_eq_true rfl) ?_
        refine e_goto aX0_firstOpen_30 ?_
        refine e_ls (ls' := [(0, some (vR (some 33))), (1, some (vI (nI (fo o (i + 1))))), (2, some (vI (nI (i + 1))))]) ⟨rfl, rfl, congrArg (fun x => some (vI x)) (nI_1 i), trivial⟩ ?_
        exact ih (i + 1) (by omega)
  refine e_iconst (v := 0) aX0_firstOpen_0 (by decide) ?_
  refine e_istore_n aX0_firstOpen_1 (Nat.le_of_ble_eq_true rfl) ?_
  refine e_iconst (v := 0) aX0_firstOpen_2 (by decide) ?_
  refine e_istore_n aX0_firstOpen_3 (Nat.le_of_ble_eq_true rfl) ?_
  refine e_ls (ls' := [(0, some (vR (some 33))), (1, some (vI (nI (fo o 0)))), (2, some (vI (nI 0)))]) ⟨rfl, rfl, rfl, trivial⟩ ?_
  exact loop f 0 (by omega)
theorem zX0_openCount (X : EX) {h : HP} (F : Fx h) {f : Nat} {o : Nat → Nat} (b : BkF h f o) : Ct X mX0_openCount 0 0 0 [vR (some 33)] h (Rt (vI (nI (om f))) h) := by
  refine ct_of rfl (Nat.le_of_ble_eq_true rfl) ?_
  obtain ⟨b1, b2, b3, b4⟩ := b
  refine e_getsN (i := 2) aX0_openCount_0 rfl gX0_43 ?_
  refine e_aload_n aX0_openCount_3 rfl ?_
  refine e_getIF aX0_openCount_4 fX0_37 rfl (fx_is F rfl) b1 ?_
  refine e_ialoadS aX0_openCount_7 rfl (vin (N := 5) (by omega)) ?_
  refine e_top (st_left b2) ?_
  refine e_ireturn aX0_openCount_8 rfl (Nat.le_refl _) (Nat.le_refl _) ?_
  exact ⟨rfl, rfl⟩
theorem zX0_endOpen (X : EX) {h : HP} (F : Fx h) {f : Nat} {o : Nat → Nat} (b : BkF h f o) : Ct X mX0_endOpen 1 0 0 [vR (some 33)] h (Rt (vI (nI (fo o f + om f))) h) := by
  refine ct_of rfl (Nat.le_of_ble_eq_true rfl) ?_
  refine e_aload_n aX0_endOpen_0 rfl ?_
  refine e_invvT aX0_endOpen_1 kX0_46 (zX0_firstOpen X F b) rfl rfl (fx_is F rfl) (Nat.le_of_ble_eq_true rfl) (Nat.le_of_ble_eq_true rfl) (Nat.le_refl _) (Nat.le_refl _) (Nat.le_of_ble_eq_true rfl) ?_
  refine e_aload_n aX0_endOpen_4 rfl ?_
  refine e_invvT aX0_endOpen_5 kX0_50 (zX0_openCount X F b) rfl rfl (fx_is F rfl) (Nat.le_of_ble_eq_true rfl) (Nat.le_of_ble_eq_true rfl) (Nat.le_refl _) (Nat.le_refl _) (Nat.le_of_ble_eq_true rfl) ?_
  refine e_iadd aX0_endOpen_8 ?_
  refine e_top (nI_add _ _) ?_
  refine e_ireturn aX0_endOpen_9 rfl (Nat.le_refl _) (Nat.le_refl _) ?_
  exact ⟨rfl, rfl⟩
theorem zX0_isOpen (X : EX) {h : HP} (F : Fx h) {f : Nat} {o : Nat → Nat} (b : BkF h f o) (s : Int32) : Ct X mX0_isOpen 2 0 0 [vR (some 33), vI s] h (Rt (vI (b2 (nI (fo o f) ≤ s ∧ s < nI (fo o f + om f)))) h) := by
  refine ct_of rfl (Nat.le_of_ble_eq_true rfl) ?_
  refine e_iload_n aX0_isOpen_0 rfl ?_
  refine e_aload_n aX0_isOpen_1 rfl ?_
  refine e_invvT aX0_isOpen_2 kX0_46 (zX0_firstOpen X F b) rfl rfl (fx_is F rfl) (Nat.le_of_ble_eq_true rfl) (Nat.le_of_ble_eq_true rfl) (Nat.le_refl _) (Nat.le_refl _) (Nat.le_of_ble_eq_true rfl) ?_
  refine e_icmp_lt aX0_isOpen_5 (fun c5 => ?_) (fun c5 => ?_)
  · -- 5: taken
    refine e_iconst (v := 0) aX0_isOpen_20 (by decide) ?_
    refine e_zreturn aX0_isOpen_21 rfl (by decide) (Nat.le_refl _) (Nat.le_refl _) ?_
    exact ⟨by rw [b2_f (by first | grind | (simp only [b2_0] at *; grind))], rfl⟩
  · -- 5: not taken
    refine e_iload_n aX0_isOpen_8 rfl ?_
    refine e_aload_n aX0_isOpen_9 rfl ?_
    refine e_invvT aX0_isOpen_10 kX0_53 (zX0_endOpen X F b) rfl rfl (fx_is F rfl) (Nat.le_of_ble_eq_true rfl) (Nat.le_of_ble_eq_true rfl) (Nat.le_refl _) (Nat.le_refl _) (Nat.le_of_ble_eq_true rfl) ?_
    refine e_icmp_ge aX0_isOpen_13 (fun c13 => ?_) (fun c13 => ?_)
    · -- 13: taken
      refine e_iconst (v := 0) aX0_isOpen_20 (by decide) ?_
      refine e_zreturn aX0_isOpen_21 rfl (by decide) (Nat.le_refl _) (Nat.le_refl _) ?_
      exact ⟨by rw [b2_f (by first | grind | (simp only [b2_0] at *; grind))], rfl⟩
    · -- 13: not taken
      refine e_iconst (v := 1) aX0_isOpen_16 (by decide) ?_
      refine e_goto aX0_isOpen_17 ?_
      refine e_zreturn aX0_isOpen_21 rfl (by decide) (Nat.le_refl _) (Nat.le_refl _) ?_
      exact ⟨by rw [b2_t (by first | grind | (simp only [b2_0] at *; grind))], rfl⟩
theorem vin_of {k : Int32} {n N : Nat} (h : ¬ (k < 0 ∨ nI n ≤ k)) (hn : n ≤ N) (hN : N ≤ 1073741824 := by decide) : vp_in k N := by
  rcases pk_ix k (n := n) (by omega) with q | q | ⟨j, hj, rfl⟩
  · exact absurd (Or.inl q) h
  · exact absurd (Or.inr q) h
  · exact vin (by omega) hN
theorem zX0_dealAt (X : EX) {h : HP} (F : Fx h) {n : Nat} {A : Nat → Nat} {D : Nat → DD} (b : BkD h n A D) (k : Int32) : Ct X mX0_dealAt 1 0 0 [vR (some 33), vI k] h (Rt (vR (if k < 0 ∨ nI n ≤ k then none else hR h 34 k.toNatClampNeg)) h) := by
  refine ct_of rfl (Nat.le_of_ble_eq_true rfl) ?_
  obtain ⟨b1, b2, b3⟩ := b
  refine e_iload_n aX0_dealAt_0 rfl ?_
  refine e_aload_n aX0_dealAt_1 rfl ?_
  refine e_getIF aX0_dealAt_2 fX0_28 rfl (fx_is F rfl) b1 ?_
  refine e_invsNT aX0_dealAt_5 kX0_56 (zX8_isOutside X _ _) rfl rfl (Nat.le_of_ble_eq_true rfl) (Nat.le_of_ble_eq_true rfl) (Nat.le_refl _) (Nat.le_refl _) (Nat.le_of_ble_eq_true rfl) ?_
  refine e_if_eq aX0_dealAt_8 (fun c8 => ?_) (fun c8 => ?_)
  · -- 8: taken
    have q8 := b2_0.mp c8
    refine e_aload_n aX0_dealAt_15 rfl ?_
    refine e_getRF aX0_dealAt_16 fX0_11 rfl (fx_is F rfl) (fx_r (b := 34) F rfl) ?_
    refine e_iload_n aX0_dealAt_19 rfl ?_
    refine e_aaloadF (t := 17) aX0_dealAt_20 (fx_is F rfl) (by decide) (by decide) (fx_n F rfl) (vin_of q8 b2) rfl ?_
    refine e_areturn aX0_dealAt_21 rfl (Nat.le_refl _) (Nat.le_refl _) ?_
    first | exact ⟨by rw [if_pos q8], rfl⟩ | exact ⟨by rw [if_neg q8], rfl⟩
  · -- 8: not taken
    have q8 := Decidable.of_not_not (fun z => c8 (b2_0.mpr z))
    refine e_aconst_null aX0_dealAt_11 ?_
    refine e_goto aX0_dealAt_12 ?_
    refine e_areturn aX0_dealAt_21 rfl (Nat.le_refl _) (Nat.le_refl _) ?_
    first | exact ⟨by rw [if_pos q8], rfl⟩ | exact ⟨by rw [if_neg q8], rfl⟩
theorem zX0_dealAt_in (X : EX) {h : HP} (F : Fx h) {n : Nat} {A : Nat → Nat} {D : Nat → DD} (b : BkD h n A D) {k : Nat} (hk : k < n) : Ct X mX0_dealAt 1 0 0 [vR (some 33), vI (nI k)] h (Rt (vR (some (A k))) h) := by
  have h1 := zX0_dealAt X F b (nI k)
  have hn := b.2.1
  rw [if_neg (by
    intro z
    rcases z with z | z
    · exact nI_pos (by omega) z
    · exact nI_ge hk (by omega) z), cl (by omega), (b.2.2 k hk).1] at h1
  exact h1
theorem shl1 {c : Nat} (h : c < 3) : (1 : Int32) <<< (nI c &&& 31) = nI (2 ^ c) := by
  have : c = 0 ∨ c = 1 ∨ c = 2 := by omega
  rcases this with rfl | rfl | rfl <;> decide
theorem or_8 {a b : Nat} : nI a ||| nI b = nI (a ||| b) := by
  apply Int32.toBitVec_inj.mp
  rw [Int32.toBitVec_or]
  show BitVec.ofNat 32 a ||| BitVec.ofNat 32 b = BitVec.ofNat 32 (a ||| b)
  rw [BitVec.ofNat_or]
theorem shr8 : ∀ m, m < 8 → ∀ c, c < 3 → (nI m >>> (nI c &&& 31)) &&& 1 = if m.testBit c = true then 1 else 0 := by decide +kernel
theorem hm_bit {D : Nat → DD} {s p k : Nat} (w : ∀ j, j < k → dWf (D j)) : ∀ c, c < 3 → (nI (hm D s p k) >>> (nI c &&& 31)) &&& 1 = b2 (vs D s p k c = true) := by
  intro c hc
  rw [shr8 _ (hm_lt w) c hc, hm_vs]
  rfl
theorem zX0_clashOf (X : EX) {h : HP} (F : Fx h) {n : Nat} {A : Nat → Nat} {D : Nat → DD} (b : BkD h n A D) {s p g t : Nat} (hs : s < 1296) (hp : p < 12) (hg : g < 3) (ht : t < 3) : Ct X mX0_clashOf 3 0 0 [vR (some 33), vI (nI s), vI (nI p), vI (nI g), vI (nI t)] h (Rt (vI (oI (cls D n s p g t))) h) := by
  refine ct_of rfl (Nat.le_of_ble_eq_true rfl) ?_
  obtain ⟨b1, b2, b3⟩ := id b
  have hw : ∀ j, j < n → dWf (D j) := fun j hj => (b3 j hj).2.2.2.1
  have hol : ∀ k, k ≤ n → ow D s p k < 3 := fun k hk => ow_lt (fun j hj => hw j (by omega))
  have loop : ∀ (m : Nat) (i : Nat), i + m = n → Ev X mX0_clashOf 3 0 0 (Rt (vI (oI (cls D n s p g t))) h) 0 0 14 [(0, some (vR (some 33))), (1, some (vI (nI s))), (2, some (vI (nI p))), (3, some (vI (nI g))), (4, some (vI (nI t))), (5, some (vI (nI (ow D s p i)))), (6, some (vI (nI (hm D s p i)))), (7, some (vI (nI i)))] [] h := by
    intro m
    induction m with
    | zero =>
      intro i hi
      obtain rfl : n = i := by omega
      have hol9 := hol n (Nat.le_refl n)
      have hgb := hm_bit (D := D) (s := s) (p := p) (k := n) hw
      refine e_iload aX0_clashOf_14 rfl ?_
      refine e_aload_n aX0_clashOf_16 rfl ?_
      refine e_getIF aX0_clashOf_17 fX0_28 rfl (fx_is F rfl) b1 ?_
      refine e_icmp_ge aX0_clashOf_20 (fun c20 => ?_) (fun c20 => ?_)
      · -- 20: taken
        refine e_iload aX0_clashOf_73 rfl ?_
        refine e_iload_n aX0_clashOf_75 rfl ?_
        refine e_ishr aX0_clashOf_76 ?_
        refine e_iconst (v := 1) aX0_clashOf_77 (by decide) ?_
        refine e_iand aX0_clashOf_78 ?_
        refine e_top (hgb g hg) ?_
        refine e_if_ne aX0_clashOf_79 (fun c79 => ?_) (fun c79 => ?_)
        · -- 79: taken
          have q79 : vs D s p n g = true := Decidable.of_not_not (fun z => c79 (b2_0.mpr z))
          refine e_iload aX0_clashOf_84 rfl ?_
          refine e_iload_n aX0_clashOf_86 rfl ?_
          refine e_icmp_eq aX0_clashOf_87 (fun c87 => ?_) (fun c87 => ?_)
          · -- 87: taken
            have q87 := (nI_eq (by omega) (by omega)).mp c87
            refine e_iload aX0_clashOf_92 rfl ?_
            refine e_iload aX0_clashOf_94 rfl ?_
            refine e_ishr aX0_clashOf_96 ?_
            refine e_iconst (v := 1) aX0_clashOf_97 (by decide) ?_
            refine e_iand aX0_clashOf_98 ?_
            refine e_top (hgb t ht) ?_
            refine e_if_eq aX0_clashOf_99 (fun c99 => ?_) (fun c99 => ?_)
            · -- 99: taken
              have q99 : ¬ vs D s p n t = true := b2_0.mp c99
              refine e_iconst (v := -1) aX0_clashOf_106 (by decide) ?_
              refine e_ireturn aX0_clashOf_107 rfl (Nat.le_refl _) (Nat.le_refl _) ?_
              first | exact ⟨by unfold cls; rw [if_neg (by rw [q79]; decide), if_neg (by omega), if_pos q99]; rfl, rfl⟩ | exact ⟨by unfold cls; rw [if_neg (by rw [q79]; decide), if_neg (by omega), if_neg q99]; rfl, rfl⟩
            · -- 99: not taken
              have q99 : vs D s p n t = true := Decidable.of_not_not (fun z => c99 (b2_0.mpr z))
              refine e_iconst (v := 1) aX0_clashOf_102 (by decide) ?_
              refine e_goto aX0_clashOf_103 ?_
              refine e_ireturn aX0_clashOf_107 rfl (Nat.le_refl _) (Nat.le_refl _) ?_
              first | exact ⟨by unfold cls; rw [if_neg (by rw [q79]; decide), if_neg (by omega), if_pos q99]; rfl, rfl⟩ | exact ⟨by unfold cls; rw [if_neg (by rw [q79]; decide), if_neg (by omega), if_neg q99]; rfl, rfl⟩
          · -- 87: not taken
            have q87 := (not_congr (nI_eq (by omega) (by omega))).mp c87
            refine e_iconst (v := 0) aX0_clashOf_90 (by decide) ?_
            refine e_ireturn aX0_clashOf_91 rfl (Nat.le_refl _) (Nat.le_refl _) ?_
            exact ⟨by unfold cls; rw [if_neg (by rw [q79]; decide), if_pos q87]; rfl, rfl⟩
        · -- 79: not taken
          have q79 : ¬ vs D s p n g = true := b2_0.mp c79
          have q79 : vs D s p n g = false := by simpa using q79
          refine e_iconst (v := 2) aX0_clashOf_82 (by decide) ?_
          refine e_ireturn aX0_clashOf_83 rfl (Nat.le_refl _) (Nat.le_refl _) ?_
          exact ⟨by unfold cls; rw [if_pos q79]; rfl, rfl⟩
      · -- 20: not taken
        exact absurd (nI_le (by omega) (by omega)) c20
    | succ m ih =>
      intro i hi
      have bd := (b3 i (by omega)).2
      refine e_iload aX0_clashOf_14 rfl ?_
      refine e_aload_n aX0_clashOf_16 rfl ?_
      refine e_getIF aX0_clashOf_17 fX0_28 rfl (fx_is F rfl) b1 ?_
      refine e_icmp_ge aX0_clashOf_20 (fun c20 => ?_) (fun c20 => ?_)
      · -- 20: taken
        exact absurd c20 (nI_ge (by omega) (by omega))
      · -- 20: not taken
        refine e_aload_n aX0_clashOf_23 rfl ?_
        refine e_iload aX0_clashOf_24 rfl ?_
        refine e_invvT aX0_clashOf_26 kX0_60 (zX0_dealAt_in X F b (by omega)) rfl rfl (fx_is F rfl) (Nat.le_of_ble_eq_true rfl) (Nat.le_of_ble_eq_true rfl) (Nat.le_refl _) (Nat.le_refl _) (Nat.le_of_ble_eq_true rfl) ?_
        refine e_astore aX0_clashOf_29 (Nat.le_of_ble_eq_true rfl) ?_
        refine e_aload aX0_clashOf_31 rfl ?_
        refine e_ifnonnull aX0_clashOf_33 (fun r33 c33 => ?_) (fun c33 => ?_)
        · -- 33: taken
          obtain rfl := Option.some.inj c33
          refine e_aload aX0_clashOf_40 rfl ?_
          refine e_iload_n aX0_clashOf_42 rfl ?_
          refine e_iload_n aX0_clashOf_43 rfl ?_
          refine e_invvT aX0_clashOf_44 kX0_64 (zX1_takerOf X bd hs hp) rfl rfl bd.2.1 (Nat.le_of_ble_eq_true rfl) (Nat.le_of_ble_eq_true rfl) (Nat.le_refl _) (Nat.le_refl _) (Nat.le_of_ble_eq_true rfl) ?_
          refine e_istore aX0_clashOf_47 (Nat.le_of_ble_eq_true rfl) ?_
          refine e_iload aX0_clashOf_49 rfl ?_
          refine e_if_lt aX0_clashOf_51 (fun c51 => ?_) (fun c51 => ?_)
          · -- 51: taken
            have q51 := (oI_lt (fun q hq => by have := (tk_lt bd.2.2.1 hq).1; omega)).mp c51
            have hoW : ow D s p i = ow D s p (i + 1) := by
              conv => rhs; unfold ow
              rw [q51]
              rfl
            have hhM : nI (hm D s p i) = nI (hm D s p (i + 1)) := by
              conv => rhs; unfold hm
              rw [q51]
            refine e_iinc aX0_clashOf_67 rfl rfl (Nat.le_of_ble_eq_true rfl) ?_
            refine e_goto aX0_clashOf_70 ?_
            refine e_ls (ls' := [(0, some (vR (some 33))), (1, some (vI (nI s))), (2, some (vI (nI p))), (3, some (vI (nI g))), (4, some (vI (nI t))), (5, some (vI (nI (ow D s p (i + 1))))), (6, some (vI (nI (hm D s p (i + 1))))), (7, some (vI (nI (i + 1))))]) ⟨rfl, rfl, rfl, rfl, rfl, ?_, ?_, congrArg (fun x => some (vI x)) (nI_1 i), trivial⟩ ?_
            · exact congrArg (fun x => some (vI (nI x))) hoW
            · exact congrArg (fun x => some (vI x)) hhM
            exact ih (i + 1) (by omega)
          · -- 51: not taken
            have q51 := (not_congr (oI_lt (fun q hq => by have := (tk_lt bd.2.2.1 hq).1; omega))).mp c51
            obtain ⟨u, hu⟩ := Option.ne_none_iff_exists'.mp q51
            have hut := (tk_lt bd.2.2.1 hu).1
            have hoW : u = ow D s p (i + 1) := by
              conv => rhs; unfold ow
              rw [hu]
              rfl
            have hhM : nI (hm D s p i) ||| nI (2 ^ u) = nI (hm D s p (i + 1)) := by
              conv => rhs; unfold hm
              rw [hu]
              exact or_8
            rw [hu]
            refine e_iload aX0_clashOf_54 rfl ?_
            refine e_istore aX0_clashOf_56 (Nat.le_of_ble_eq_true rfl) ?_
            refine e_iload aX0_clashOf_58 rfl ?_
            refine e_iconst (v := 1) aX0_clashOf_60 (by decide) ?_
            refine e_iload aX0_clashOf_61 rfl ?_
            refine e_ishl aX0_clashOf_63 ?_
            refine e_top (shl1 hut) ?_
            refine e_ior aX0_clashOf_64 ?_
            refine e_istore aX0_clashOf_65 (Nat.le_of_ble_eq_true rfl) ?_
            refine e_iinc aX0_clashOf_67 rfl rfl (Nat.le_of_ble_eq_true rfl) ?_
            refine e_goto aX0_clashOf_70 ?_
            refine e_ls (ls' := [(0, some (vR (some 33))), (1, some (vI (nI s))), (2, some (vI (nI p))), (3, some (vI (nI g))), (4, some (vI (nI t))), (5, some (vI (nI (ow D s p (i + 1))))), (6, some (vI (nI (hm D s p (i + 1))))), (7, some (vI (nI (i + 1))))]) ⟨rfl, rfl, rfl, rfl, rfl, ?_, ?_, congrArg (fun x => some (vI x)) (nI_1 i), trivial⟩ ?_
            · exact congrArg (fun x => some (vI (nI x))) hoW
            · exact congrArg (fun x => some (vI x)) hhM
            exact ih (i + 1) (by omega)
        · -- 33: not taken
          exact absurd c33 (by simp)
  refine e_iload_n aX0_clashOf_0 rfl ?_
  refine e_iconst (v := 3) aX0_clashOf_1 (by decide) ?_
  refine e_irem aX0_clashOf_2 (by decide) ?_
  refine e_top (nI_rem (b := 3) (by omega) (by decide) (by decide)) ?_
  refine e_istore aX0_clashOf_3 (Nat.le_of_ble_eq_true rfl) ?_
  refine e_iconst (v := 1) aX0_clashOf_5 (by decide) ?_
  refine e_iload aX0_clashOf_6 rfl ?_
  refine e_ishl aX0_clashOf_8 ?_
  refine e_top (shl1 (Nat.mod_lt _ (by decide))) ?_
  refine e_istore aX0_clashOf_9 (Nat.le_of_ble_eq_true rfl) ?_
  refine e_iconst (v := 0) aX0_clashOf_11 (by decide) ?_
  refine e_istore aX0_clashOf_12 (Nat.le_of_ble_eq_true rfl) ?_
  refine e_ls (ls' := [(0, some (vR (some 33))), (1, some (vI (nI s))), (2, some (vI (nI p))), (3, some (vI (nI g))), (4, some (vI (nI t))), (5, some (vI (nI (ow D s p 0)))), (6, some (vI (nI (hm D s p 0)))), (7, some (vI (nI 0)))]) ⟨rfl, rfl, rfl, rfl, rfl, rfl, rfl, rfl, trivial⟩ ?_
  exact loop n 0 (by omega)
end
section
/-! the rows of Owners: two bits a PICK -/
def btI (x : Int32) (i : Nat) : Bool := x.toBitVec.getLsbD i
theorem sm32 : ∀ j, j < 32 → ((nI j &&& 31).toBitVec.smod 32).toNat = j := by decide +kernel
theorem btI_ext {x y : Int32} (h : ∀ i, i < 32 → btI x i = btI y i) : x = y := Int32.toBitVec_inj.mp (BitVec.eq_of_getLsbD_eq (fun i hi => h i hi))
theorem btI_or {x y : Int32} {i : Nat} : btI (x ||| y) i = (btI x i || btI y i) := by unfold btI; rw [Int32.toBitVec_or, BitVec.getLsbD_or]
theorem btI_and {x y : Int32} {i : Nat} : btI (x &&& y) i = (btI x i && btI y i) := by unfold btI; rw [Int32.toBitVec_and, BitVec.getLsbD_and]
theorem btI_xor {x y : Int32} {i : Nat} : btI (x ^^^ y) i = (btI x i ^^ btI y i) := by unfold btI; rw [Int32.toBitVec_xor, BitVec.getLsbD_xor]
theorem btI_shl {x : Int32} {j i : Nat} (hj : j < 32) (hi : i < 32) : btI (x <<< (nI j &&& 31)) i = (decide (j ≤ i) && btI x (i - j)) := by
  unfold btI
  rw [Int32.toBitVec_shiftLeft]
  show (x.toBitVec <<< ((nI j &&& 31).toBitVec.smod 32)).getLsbD i = _
  rw [BitVec.shiftLeft_eq', sm32 j hj, BitVec.getLsbD_shiftLeft]
  by_cases h : j ≤ i
  · simp [h, hi, Nat.not_lt.mpr h]
  · simp [h, Nat.lt_of_not_le h]
theorem btI_shr {x : Int32} {j i : Nat} (hj : j < 32) (hi : j + i < 32) : btI (x >>> (nI j &&& 31)) i = btI x (j + i) := by
  unfold btI
  rw [Int32.toBitVec_shiftRight]
  unfold BitVec.sshiftRight'
  rw [sm32 j hj, BitVec.getLsbD_sshiftRight]
  have : i < 32 := by omega
  simp [this, hi]
theorem btI_nI {n i : Nat} (hi : i < 32) : btI (nI n) i = n.testBit i := by
  unfold btI
  show (BitVec.ofNat 32 n).getLsbD i = _
  rw [BitVec.getLsbD_ofNat]
  simp [hi]
theorem btI_m1 : ∀ i, i < 32 → btI (-1) i = true := by decide +kernel
/-- the two bits of PICK p -/
def dgt (x : Int32) (p : Nat) : Int32 := (x >>> (nI (2 * p) &&& 31)) &&& 3
theorem dgt_bits {x y : Int32} {p q : Nat} (hp : p < 12) (hq : q < 12) (h0 : btI x (2 * p) = btI y (2 * q)) (h1 : btI x (2 * p + 1) = btI y (2 * q + 1)) : dgt x p = dgt y q := by
  unfold dgt
  apply btI_ext
  intro i hi
  rw [btI_and, btI_and]
  have h3 : btI 3 i = decide (i < 2) := by
    have key : ∀ i, i < 32 → btI 3 i = decide (i < 2) := by decide +kernel
    exact key i hi
  rw [h3]
  by_cases hi2 : i < 2
  · rw [btI_shr (by omega) (by omega), btI_shr (by omega) (by omega)]
    have : i = 0 ∨ i = 1 := by omega
    rcases this with rfl | rfl
    · rw [Nat.add_zero, Nat.add_zero, h0]
    · rw [h1]
  · simp [hi2]
/-- what give leaves of a row -/
def gvr (x : Int32) (q c : Nat) : Int32 := (x &&& (((3 : Int32) <<< (nI (2 * q) &&& 31)) ^^^ (-1))) ||| (nI c <<< (nI (2 * q) &&& 31))
theorem gvr_bit {x : Int32} {q c i : Nat} (hq : q < 12) (hc : c < 3) (hi : i < 24) : btI (gvr x q c) i = if i / 2 = q then c.testBit (i - 2 * q) else btI x i := by
  unfold gvr
  rw [btI_or, btI_and, btI_xor, btI_shl (by omega) (by omega), btI_shl (by omega) (by omega), btI_m1 i (by omega), btI_nI (by omega)]
  have h3 : ∀ j, j < 32 → btI 3 j = decide (j < 2) := by decide +kernel
  rw [h3 _ (by omega)]
  by_cases h : i / 2 = q
  · rw [if_pos h]
    have e1 : decide (2 * q ≤ i) = true := decide_eq_true (by omega)
    have e2 : decide (i - 2 * q < 2) = true := decide_eq_true (by omega)
    rw [e1, e2]
    simp
  · rw [if_neg h]
    by_cases h2 : 2 * q ≤ i
    · have e1 : decide (2 * q ≤ i) = true := decide_eq_true h2
      have e2 : decide (i - 2 * q < 2) = false := decide_eq_false (by omega)
      have e3 : c.testBit (i - 2 * q) = false := Nat.testBit_lt_two_pow (Nat.lt_of_lt_of_le (show c < 2 ^ 2 by omega) (Nat.pow_le_pow_right (by decide) (by omega)))
      rw [e1, e2, e3]
      simp
    · have e1 : decide (2 * q ≤ i) = false := decide_eq_false h2
      rw [e1]
      simp
theorem dgt_give {x : Int32} {q c p : Nat} (hq : q < 12) (hc : c < 3) (hp : p < 12) : dgt (gvr x q c) p = if p = q then nI c else dgt x p := by
  by_cases h : p = q
  · subst h
    rw [if_pos rfl]
    have e : dgt (gvr x p c) p = dgt (nI c) 0 := dgt_bits hp (by decide) (by
      rw [gvr_bit hp hc (by omega), if_pos (by omega), btI_nI (by omega)]; congr 1; omega) (by
      rw [gvr_bit hp hc (by omega), if_pos (by omega), btI_nI (by omega)]; congr 1; omega)
    rw [e]
    have key : ∀ c, c < 3 → dgt (nI c) 0 = nI c := by decide +kernel
    exact key c hc
  · rw [if_neg h]
    exact dgt_bits hp hp (by rw [gvr_bit hq hc (by omega), if_neg (by omega)]) (by rw [gvr_bit hq hc (by omega), if_neg (by omega)])
theorem dgt_start : ∀ p, p < 12 → dgt 9586980 p = nI (p % 3) := by decide +kernel
/-- a row holds OWNERS -/
def RowC (h : HP) (s : Nat) (g : Nat → Nat) : Prop := ∀ p, p < 12 → dgt (hI h 39 s) p = nI (g p)
end
section
/-! contracts: Owners (written by wip/whole/g19.py) -/
/-- other rows of Owners -/
def rwR (h : HP) (r : Nat → Int32) : HP := (fun a i => if a = 39 then r i else h.1 a i, h.2)
theorem rwR_I {h : HP} {r : Nat → Int32} {a i : Nat} (ha : a ≠ 39) : hI (rwR h r) a i = hI h a i := if_neg ha
theorem rwR_39 {h : HP} {r : Nat → Int32} {i : Nat} : hI (rwR h r) 39 i = r i := by unfold rwR; simp [hI]
theorem rwR_w {h : HP} {r r' : Nat → Int32} {j : Nat} {v : Int32} (e : ∀ i, r' i = if i = j then v else r i) : wI (rwR h r) 39 j v = rwR h r' := by
  unfold wI rwR
  congr 1
  funext a i
  unfold up2
  by_cases ha : a = 39
  · subst ha
    by_cases hi : i = j
    · subst hi; simp [e]
    · simp [hi, e]
  · simp [ha]
theorem rwR_0 {h : HP} {r : Nat → Int32} (e : ∀ i, r i = hI h 39 i) : h = rwR h r := by
  unfold rwR
  show (h.1, h.2) = _
  congr 1
  funext a i
  by_cases ha : a = 39
  · subst ha; rw [if_pos rfl, e]
  · rw [if_neg ha]
theorem Up.rw {h : HP} {r : Nat → Int32} : Up h (rwR h r) := ⟨Nat.le_refl _, fun a ha _ => ⟨fun j => ⟨if_neg (by omega), rfl, rfl⟩, rfl, rfl⟩⟩
/-- what a deal that comes leaves of a row -/
def stl (d : DD) (s : Nat) (x : Int32) : Int32 := match gv d s with
  | none => x
  | some g => match dO d with
    | none => gvr x g (dT d)
    | some b => gvr (gvr x g (dT d)) b (dF d)
/-- a run of rows -/
def rng (f e : Nat) (g : Nat → Int32 → Int32) (r : Nat → Int32) : Nat → Int32 := fun i => if f ≤ i ∧ i < e then g i (r i) else r i
theorem rng_s {f j : Nat} (hf : f ≤ j) (g : Nat → Int32 → Int32) (r : Nat → Int32) : ∀ i, rng f (j + 1) g r i = if i = j then g j (rng f j g r j) else rng f j g r i := by
  intro i
  unfold rng
  by_cases hi : i = j
  · subst hi
    rw [if_pos ⟨hf, by omega⟩, if_pos rfl, if_neg (by omega)]
  · rw [if_neg hi]
    by_cases h1 : f ≤ i ∧ i < j
    · rw [if_pos h1, if_pos ⟨h1.1, by omega⟩]
    · rw [if_neg h1, if_neg (by omega)]
theorem rng_0 (f : Nat) (g : Nat → Int32 → Int32) (r : Nat → Int32) : ∀ i, rng f f g r i = r i := fun i => if_neg (by omega)
theorem stl_dgt {d : DD} (w : dWf d) {s p : Nat} {x : Int32} (hp : p < 12) : dgt (stl d s x) p = match tk d s p with
  | some t => nI t
  | none => dgt x p := by
  unfold stl
  cases hg : gv d s with
  | none =>
    have : tk d s p = none := by
      unfold tk
      rw [hg]
      split <;> rfl
    rw [this]
  | some g =>
    have hgo := gv_ok w hg
    cases ho : dO d with
    | none =>
      have e : tk d s p = if g = p then some (dT d) else none := by
        unfold tk
        rw [ho, hg, if_neg (by simp)]
        by_cases h9 : g = p
        · rw [if_pos (by rw [h9]), if_pos h9]
        · rw [if_neg (fun z => h9 (Option.some.inj z)), if_neg h9]
      rw [e]
      dsimp only
      rw [dgt_give hgo.1 w.2.2.1 hp]
      by_cases h9 : g = p
      · rw [if_pos h9.symm, if_pos h9]
      · rw [if_neg (fun z => h9 z.symm), if_neg h9]
    | some b =>
      have hb := w.2.2.2.2.2.2.1 b ho
      have hgb : g ≠ b := by
        rcases hgo.2 with e | ⟨e, -⟩
        · rw [e]; exact fun z => hb.2.1 z.symm
        · have := w.2.2.2.2.2.1.mpr (by rw [ho]; rfl)
          omega
      dsimp only
      rw [dgt_give hb.1 w.2.1 hp, dgt_give hgo.1 w.2.2.1 hp]
      unfold tk
      rw [ho, hg]
      by_cases h9 : b = p
      · subst h9
        rw [if_pos rfl, if_pos rfl]
        rfl
      · rw [if_neg (fun z => h9 z.symm), if_neg (fun z => h9 (Option.some.inj z))]
        by_cases h8 : g = p
        · rw [if_pos h8.symm, if_pos (by rw [h8])]
        · rw [if_neg (fun z => h8 z.symm), if_neg (fun z => h8 (Option.some.inj z))]
theorem zX2_at (X : EX) {h : HP} (F : Fx h) {s p : Nat} (hs : s < 1296) (hp : p < 12) : Ct X mX2_at 0 0 0 [vR (some 38), vI (nI s), vI (nI p)] h (Rt (vI (dgt (hI h 39 s) p)) h) := by
  refine ct_of rfl (Nat.le_of_ble_eq_true rfl) ?_
  refine e_aload_n aX2_at_0 rfl ?_
  refine e_getRF aX2_at_1 fX2_9 rfl (fx_is F rfl) (fx_r (b := 39) F rfl) ?_
  refine e_iload_n aX2_at_4 rfl ?_
  refine e_ialoadF (x := hI h 39 s) aX2_at_5 (fx_is F rfl) (fx_n F rfl) (vin (N := 1296) (by omega)) (by rw [cl (by omega)]) ?_
  refine e_iconst (v := 2) aX2_at_6 (by decide) ?_
  refine e_iload_n aX2_at_7 rfl ?_
  refine e_imul aX2_at_8 ?_
  refine e_top (nI_mul 2 _) ?_
  refine e_ishr aX2_at_9 ?_
  refine e_iconst (v := 3) aX2_at_10 (by decide) ?_
  refine e_iand aX2_at_11 ?_
  refine e_ireturn aX2_at_12 rfl (Nat.le_refl _) (Nat.le_refl _) ?_
  exact ⟨rfl, rfl⟩
theorem zX2_give (X : EX) {h : HP} (F : Fx h) {s p cz : Nat} (hs : s < 1296) (hp : p < 12) (hc : cz < 3) : Ct X mX2_give 0 0 0 [vR (some 38), vI (nI s), vI (nI p), vI (nI cz)] h (Rv (wI h 39 s (gvr (hI h 39 s) p cz))) := by
  refine ct_of rfl (Nat.le_of_ble_eq_true rfl) ?_
  refine e_aload_n aX2_give_0 rfl ?_
  refine e_getRF aX2_give_1 fX2_9 rfl (fx_is F rfl) (fx_r (b := 39) F rfl) ?_
  refine e_iload_n aX2_give_4 rfl ?_
  refine e_aload_n aX2_give_5 rfl ?_
  refine e_getRF aX2_give_6 fX2_9 rfl (fx_is F rfl) (fx_r (b := 39) F rfl) ?_
  refine e_iload_n aX2_give_9 rfl ?_
  refine e_ialoadF (x := hI h 39 s) aX2_give_10 (fx_is F rfl) (fx_n F rfl) (vin (N := 1296) (by omega)) (by rw [cl (by omega)]) ?_
  refine e_iconst (v := 3) aX2_give_11 (by decide) ?_
  refine e_iconst (v := 2) aX2_give_12 (by decide) ?_
  refine e_iload_n aX2_give_13 rfl ?_
  refine e_imul aX2_give_14 ?_
  refine e_top (nI_mul 2 _) ?_
  refine e_ishl aX2_give_15 ?_
  refine e_iconst (v := -1) aX2_give_16 (by decide) ?_
  refine e_ixor aX2_give_17 ?_
  refine e_iand aX2_give_18 ?_
  refine e_iload_n aX2_give_19 rfl ?_
  refine e_iconst (v := 2) aX2_give_20 (by decide) ?_
  refine e_iload_n aX2_give_21 rfl ?_
  refine e_imul aX2_give_22 ?_
  refine e_top (nI_mul 2 _) ?_
  refine e_ishl aX2_give_23 ?_
  refine e_ior aX2_give_24 ?_
  refine e_iastoreF aX2_give_25 (fx_is F rfl) (fx_n F rfl) (vin (N := 1296) (by omega)) ?_
  rw [cl (by omega)]
  refine e_return aX2_give_26 rfl (Nat.le_refl _) (Nat.le_refl _) ?_
  exact ⟨rfl, rfl⟩
theorem zX2_startAll (X : EX) {h : HP} (F : Fx h) {fz ez : Nat} (hf : fz ≤ ez) (he : ez ≤ 1296) : Ct X mX2_startAll 0 0 0 [vR (some 38), vI (nI fz), vI (nI ez)] h (Rv (rwR h (rng fz ez (fun _ _ => 9586980) (hI h 39)))) := by
  refine ct_of rfl (Nat.le_of_ble_eq_true rfl) ?_
  have loop : ∀ (m : Nat) (j : Nat), j + m = ez → fz ≤ j → Ev X mX2_startAll 0 0 0 (Rv (rwR h (rng fz ez (fun _ _ => 9586980) (hI h 39)))) 0 0 2 [(0, some (vR (some 38))), (1, some (vI (nI fz))), (2, some (vI (nI ez))), (3, some (vI (nI j)))] [] (rwR h (rng fz j (fun _ _ => 9586980) (hI h 39))) := by
    intro m
    induction m with
    | zero =>
      intro j hj hfj
      obtain rfl : ez = j := by omega
      refine e_iload_n aX2_startAll_2 rfl ?_
      refine e_iload_n aX2_startAll_3 rfl ?_
      refine e_icmp_ge aX2_startAll_4 (fun c4 => ?_) (fun c4 => ?_)
      · -- 4: taken
        refine e_return aX2_startAll_21 rfl (Nat.le_refl _) (Nat.le_refl _) ?_
        exact ⟨rfl, rfl⟩
      · -- 4: not taken
        exact absurd (nI_le (by omega) (by omega)) c4
    | succ m ih =>
      intro j hj hfj
      refine e_iload_n aX2_startAll_2 rfl ?_
      refine e_iload_n aX2_startAll_3 rfl ?_
      refine e_icmp_ge aX2_startAll_4 (fun c4 => ?_) (fun c4 => ?_)
      · -- 4: taken
        exact absurd c4 (nI_ge (by omega) (by omega))
      · -- 4: not taken
        refine e_aload_n aX2_startAll_7 rfl ?_
        refine e_getRF aX2_startAll_8 fX2_9 rfl (fx_is F rfl) (fx_r (b := 39) F rfl) ?_
        refine e_iload_n aX2_startAll_11 rfl ?_
        refine e_ldc aX2_startAll_12 lX2_15 ?_
        refine e_iastoreF aX2_startAll_14 (fx_is F rfl) (fx_n F rfl) (vin (N := 1296) (by omega)) ?_
        rw [cl (by omega)]
        refine e_hp (h2 := (rwR h (rng fz (j + 1) (fun _ _ => 9586980) (hI h 39)))) (rwR_w (rng_s (by omega) _ _)) ?_
        refine e_iinc aX2_startAll_15 rfl rfl (Nat.le_of_ble_eq_true rfl) ?_
        refine e_goto aX2_startAll_18 ?_
        refine e_ls (ls' := [(0, some (vR (some 38))), (1, some (vI (nI fz))), (2, some (vI (nI ez))), (3, some (vI (nI (j + 1))))]) ⟨rfl, rfl, rfl, congrArg (fun x => some (vI x)) (nI_1 j), trivial⟩ ?_
        exact ih (j + 1) (by omega) (by omega)
  refine e_iload_n aX2_startAll_0 rfl ?_
  refine e_istore_n aX2_startAll_1 (Nat.le_of_ble_eq_true rfl) ?_
  refine e_ls (ls' := [(0, some (vR (some 38))), (1, some (vI (nI fz))), (2, some (vI (nI ez))), (3, some (vI (nI fz)))]) ⟨rfl, rfl, rfl, rfl, trivial⟩ ?_
  refine e_hp (h2 := (rwR h (rng fz fz (fun _ _ => 9586980) (hI h 39)))) (rwR_0 (rng_0 _ _ _)) ?_
  exact loop (ez - fz) fz (by omega) (Nat.le_refl _)
theorem zX2_settle (X : EX) {h : HP} (F : Fx h) {a : Nat} {d : DD} (k : DealC h a d) {fz ez : Nat} (hf : fz ≤ ez) (he : ez ≤ 1296) : Ct X mX2_settle 2 0 0 [vR (some 38), vR (some a), vI (nI fz), vI (nI ez)] h (Rv (rwR h (rng fz ez (stl d) (hI h 39)))) := by
  refine ct_of rfl (Nat.le_of_ble_eq_true rfl) ?_
  have w := k.2.2.1
  have loop : ∀ (m : Nat) (j : Nat), j + m = ez → fz ≤ j → Ev X mX2_settle 2 0 0 (Rv (rwR h (rng fz ez (stl d) (hI h 39)))) 0 0 8 [(0, some (vR (some 38))), (1, some (vR (some a))), (2, some (vI (nI fz))), (3, some (vI (nI ez))), (4, some (vI (nI j)))] [] (rwR h (rng fz j (stl d) (hI h 39))) := by
    intro m
    induction m with
    | zero =>
      intro j hj hfj
      obtain rfl : ez = j := by omega
      refine e_iload aX2_settle_8 rfl ?_
      refine e_iload_n aX2_settle_10 rfl ?_
      refine e_icmp_ge aX2_settle_11 (fun c11 => ?_) (fun c11 => ?_)
      · -- 11: taken
        refine e_return aX2_settle_66 rfl (Nat.le_refl _) (Nat.le_refl _) ?_
        exact ⟨rfl, rfl⟩
      · -- 11: not taken
        exact absurd (nI_le (by omega) (by omega)) c11
    | succ m ih =>
      intro j hj hfj
      have kd : DealC (rwR h (rng fz j (stl d) (hI h 39))) a d := k.up Up.rw
      refine e_iload aX2_settle_8 rfl ?_
      refine e_iload_n aX2_settle_10 rfl ?_
      refine e_icmp_ge aX2_settle_11 (fun c11 => ?_) (fun c11 => ?_)
      · -- 11: taken
        exact absurd c11 (nI_ge (by omega) (by omega))
      · -- 11: not taken
        refine e_aload_n aX2_settle_14 rfl ?_
        refine e_iload aX2_settle_15 rfl ?_
        refine e_invvT aX2_settle_17 kX2_16 (zX1_gives X kd (by omega)) rfl rfl kd.2.1 (Nat.le_of_ble_eq_true rfl) (Nat.le_of_ble_eq_true rfl) (Nat.le_refl _) (Nat.le_refl _) (Nat.le_of_ble_eq_true rfl) ?_
        refine e_istore aX2_settle_20 (Nat.le_of_ble_eq_true rfl) ?_
        refine e_iload aX2_settle_22 rfl ?_
        refine e_if_lt aX2_settle_24 (fun c24 => ?_) (fun c24 => ?_)
        · -- 24: taken
          have q24 := (oI_lt (gv_b w)).mp c24
          have hfin : (rwR h (rng fz j (stl d) (hI h 39))) = (rwR h (rng fz (j + 1) (stl d) (hI h 39))) := by
            congr 1
            funext i
            rw [rng_s (by omega)]
            by_cases hi9 : i = j
            · subst hi9
              rw [if_pos rfl]
              unfold stl
              rw [q24]
            · rw [if_neg hi9]
          refine e_iinc aX2_settle_60 rfl rfl (Nat.le_of_ble_eq_true rfl) ?_
          refine e_goto aX2_settle_63 ?_
          refine e_hp (h2 := (rwR h (rng fz (j + 1) (stl d) (hI h 39)))) hfin ?_
          refine e_ls (ls' := [(0, some (vR (some 38))), (1, some (vR (some a))), (2, some (vI (nI fz))), (3, some (vI (nI ez))), (4, some (vI (nI (j + 1))))]) ⟨rfl, rfl, rfl, rfl, congrArg (fun x => some (vI x)) (nI_1 j), trivial⟩ ?_
          exact ih (j + 1) (by omega) (by omega)
        · -- 24: not taken
          have q24 := (not_congr (oI_lt (gv_b w))).mp c24
          obtain ⟨g, hg⟩ := Option.ne_none_iff_exists'.mp q24
          rw [hg]
          have hgl := (gv_ok w hg).1
          refine e_aload_n aX2_settle_27 rfl ?_
          refine e_iload aX2_settle_28 rfl ?_
          refine e_iload aX2_settle_30 rfl ?_
          refine e_aload_n aX2_settle_32 rfl ?_
          refine e_getIF aX2_settle_33 fX2_22 rfl kd.2.1 kd.2.2.2.2.2.1 ?_
          refine e_invvV aX2_settle_36 kX2_26 (zX2_give X (h := (rwR h (rng fz j (stl d) (hI h 39)))) F (by omega) hgl w.2.2.1) rfl rfl (fx_is F rfl) (Nat.le_of_ble_eq_true rfl) (Nat.le_of_ble_eq_true rfl) (Nat.le_refl _) (Nat.le_refl _) (Nat.le_of_ble_eq_true rfl) ?_
          have kd2 := DealC.up (Up.wI (h := (rwR h (rng fz j (stl d) (hI h 39)))) (b := 39) (i := j) (v := gvr (hI (rwR h (rng fz j (stl d) (hI h 39))) 39 j) g (dT d)) (by decide)) kd
          refine e_aload_n aX2_settle_39 rfl ?_
          refine e_getIF aX2_settle_40 fX2_30 rfl kd2.2.1 kd2.2.2.2.2.2.2.2.1 ?_
          refine e_if_lt aX2_settle_43 (fun c43 => ?_) (fun c43 => ?_)
          · -- 43: taken
            have q43 := (oI_lt (dO_b w)).mp c43
            have hfin : wI (rwR h (rng fz j (stl d) (hI h 39))) 39 j (gvr (hI (rwR h (rng fz j (stl d) (hI h 39))) 39 j) g (dT d)) = (rwR h (rng fz (j + 1) (stl d) (hI h 39))) := by
              refine rwR_w (fun i => ?_)
              rw [rng_s (by omega)]
              by_cases hi9 : i = j
              · subst hi9
                rw [if_pos rfl, if_pos rfl, rwR_39]
                unfold stl
                rw [hg, q43]
              · rw [if_neg hi9, if_neg hi9]
            refine e_iinc aX2_settle_60 rfl rfl (Nat.le_of_ble_eq_true rfl) ?_
            refine e_goto aX2_settle_63 ?_
            refine e_hp (h2 := (rwR h (rng fz (j + 1) (stl d) (hI h 39)))) hfin ?_
            refine e_ls (ls' := [(0, some (vR (some 38))), (1, some (vR (some a))), (2, some (vI (nI fz))), (3, some (vI (nI ez))), (4, some (vI (nI (j + 1))))]) ⟨rfl, rfl, rfl, rfl, congrArg (fun x => some (vI x)) (nI_1 j), trivial⟩ ?_
            exact ih (j + 1) (by omega) (by omega)
          · -- 43: not taken
            have q43 := (not_congr (oI_lt (dO_b w))).mp c43
            obtain ⟨b, hb⟩ := Option.ne_none_iff_exists'.mp q43
            have hbl := (w.2.2.2.2.2.2.1 b hb).1
            refine e_aload_n aX2_settle_46 rfl ?_
            refine e_iload aX2_settle_47 rfl ?_
            refine e_aload_n aX2_settle_49 rfl ?_
            refine e_getIF aX2_settle_50 fX2_30 rfl kd2.2.1 (kd2.2.2.2.2.2.2.2.1.trans (congrArg oI hb)) ?_
            refine e_aload_n aX2_settle_53 rfl ?_
            refine e_getIF aX2_settle_54 fX2_33 rfl kd2.2.1 kd2.2.2.2.2.1 ?_
            refine e_invvV aX2_settle_57 kX2_26 (zX2_give X (h := wI (rwR h (rng fz j (stl d) (hI h 39))) 39 j (gvr (hI (rwR h (rng fz j (stl d) (hI h 39))) 39 j) g (dT d))) F (by omega) hbl w.2.1) rfl rfl (fx_is F rfl) (Nat.le_of_ble_eq_true rfl) (Nat.le_of_ble_eq_true rfl) (Nat.le_refl _) (Nat.le_refl _) (Nat.le_of_ble_eq_true rfl) ?_
            have hfin : wI (wI (rwR h (rng fz j (stl d) (hI h 39))) 39 j (gvr (hI (rwR h (rng fz j (stl d) (hI h 39))) 39 j) g (dT d))) 39 j (gvr (hI (wI (rwR h (rng fz j (stl d) (hI h 39))) 39 j (gvr (hI (rwR h (rng fz j (stl d) (hI h 39))) 39 j) g (dT d))) 39 j) b (dF d)) = (rwR h (rng fz (j + 1) (stl d) (hI h 39))) := by
              have e1 : wI (rwR h (rng fz j (stl d) (hI h 39))) 39 j (gvr (hI (rwR h (rng fz j (stl d) (hI h 39))) 39 j) g (dT d)) = rwR h (fun i => if i = j then gvr (hI (rwR h (rng fz j (stl d) (hI h 39))) 39 j) g (dT d) else rng fz j (stl d) (hI h 39) i) := rwR_w (fun _ => rfl)
              rw [e1]
              refine rwR_w (fun i => ?_)
              rw [rng_s (by omega)]
              by_cases hi9 : i = j
              · subst hi9
                rw [if_pos rfl, if_pos rfl, rwR_39, if_pos rfl, rwR_39]
                unfold stl
                rw [hg, hb]
              · rw [if_neg hi9, if_neg hi9, if_neg hi9]
            refine e_iinc aX2_settle_60 rfl rfl (Nat.le_of_ble_eq_true rfl) ?_
            refine e_goto aX2_settle_63 ?_
            refine e_hp (h2 := (rwR h (rng fz (j + 1) (stl d) (hI h 39)))) hfin ?_
            refine e_ls (ls' := [(0, some (vR (some 38))), (1, some (vR (some a))), (2, some (vI (nI fz))), (3, some (vI (nI ez))), (4, some (vI (nI (j + 1))))]) ⟨rfl, rfl, rfl, rfl, congrArg (fun x => some (vI x)) (nI_1 j), trivial⟩ ?_
            exact ih (j + 1) (by omega) (by omega)
  refine e_aload_n aX2_settle_0 rfl ?_
  refine e_ifnonnull aX2_settle_1 (fun r1 c1 => ?_) (fun c1 => ?_)
  · -- 1: taken
    refine e_iload_n aX2_settle_5 rfl ?_
    refine e_istore aX2_settle_6 (Nat.le_of_ble_eq_true rfl) ?_
    refine e_ls (ls' := [(0, some (vR (some 38))), (1, some (vR (some a))), (2, some (vI (nI fz))), (3, some (vI (nI ez))), (4, some (vI (nI fz)))]) ⟨rfl, rfl, rfl, rfl, rfl, trivial⟩ ?_
    refine e_hp (h2 := (rwR h (rng fz fz (stl d) (hI h 39)))) (rwR_0 (rng_0 _ _ _)) ?_
    exact loop (ez - fz) fz (by omega) (Nat.le_refl _)
  · -- 1: not taken
    exact absurd c1 (by simp)
end
section
/-! contracts: settleAll, clashesUnder, takes, enter (written by wip/whole/g20.py) -/
/-- how one more deal would CLASH under a STANDING: the PICK and the kind -/
def ncl (D : Nat → DD) (n : Nat) (d : DD) (s : Nat) : Option (Nat × Nat) := match gv d s with
  | none => none
  | some g => match cls D n s g (dF d) (dT d), (gb d s).bind (fun b => (cls D n s b (dT d) (dF d)).map (fun w => (b, w))) with
    | none, none => none
    | some w, none => some (g, w)
    | none, some q => some q
    | some w, some q => if g < q.1 then some (g, w) else some q
/-- THE CLASH is told -/
def tl (h : HP) (s p w : Nat) : HP := wI (wI (wI h 75 0 (nI s)) 75 1 (nI p)) 75 2 (nI w)
theorem cls_b {D : Nat → DD} {n s p g t : Nat} : ∀ w, cls D n s p g t = some w → w < 1073741824 := by
  intro w h
  unfold cls at h
  split at h
  · cases h; decide
  · split at h
    · cases h; decide
    · split at h
      · cases h; decide
      · cases h
theorem BkF.up {h h' : HP} {f : Nat} {o : Nat → Nat} (b : BkF h f o) (e1 : ∀ i, hI h' 33 i = hI h 33 i) (e2 : ∀ i, hI h' 35 i = hI h 35 i) : BkF h' f o := ⟨(e1 3).trans b.1, b.2.1, fun y hy => (e2 y).trans (b.2.2.1 y hy), b.2.2.2⟩
theorem BkD.up {h h' : HP} {n : Nat} {A : Nat → Nat} {D : Nat → DD} (b : BkD h n A D) (u : Up h h') (e1 : hI h' 33 1 = hI h 33 1) (e2 : ∀ i, hR h' 34 i = hR h 34 i) : BkD h' n A D := ⟨e1.trans b.1, b.2.1, fun k hk => ⟨(e2 k).trans (b.2.2 k hk).1, (b.2.2 k hk).2.up u⟩⟩
theorem BkF.rw {h : HP} {f : Nat} {o : Nat → Nat} {r : Nat → Int32} (b : BkF h f o) : BkF (rwR h r) f o := b.up (fun _ => rwR_I (by decide)) (fun _ => rwR_I (by decide))
theorem BkD.rw {h : HP} {n : Nat} {A : Nat → Nat} {D : Nat → DD} {r : Nat → Int32} (b : BkD h n A D) : BkD (rwR h r) n A D := b.up Up.rw (rwR_I (by decide)) (fun _ => rfl)
/-- rows of the OPEN STANDINGS hold OWNERS -/
def Own (h : HP) (f : Nat) (o : Nat → Nat) (n : Nat) (D : Nat → DD) : Prop := ∀ s, fo o f ≤ s → s < fo o f + om f → RowC h s (fun p => ow D s p n)
theorem own_step {d : DD} (w : dWf d) {D : Nat → DD} {n s p : Nat} {x : Int32} (hp : p < 12) (e : D n = d) (hx : dgt x p = nI (ow D s p n)) : dgt (stl d s x) p = nI (ow D s p (n + 1)) := by
  rw [stl_dgt w hp]
  conv => rhs; unfold ow
  rw [e]
  cases tk d s p with
  | none => exact hx
  | some t => rfl
theorem DealC.rw {h : HP} {a : Nat} {d : DD} {r : Nat → Int32} (k : DealC h a d) : DealC (rwR h r) a d := k.up Up.rw
theorem rwR_rw {h : HP} {r : Nat → Int32} {f e : Nat} {g : Nat → Int32 → Int32} : rwR (rwR h r) (rng f e g (hI (rwR h r) 39)) = rwR h (rng f e g r) := by
  have e1 : hI (rwR h r) 39 = r := funext fun i => rwR_39
  rw [e1]
  unfold rwR
  congr 1
  funext a i
  by_cases ha : a = 39
  · rw [if_pos ha, if_pos ha]
  · simp [ha]
theorem zX8_settleAll (X : EX) {h : HP} (F : Fx h) {f n : Nat} {o : Nat → Nat} {A : Nat → Nat} {D : Nat → DD} (bf : BkF h f o) (b : BkD h n A D) : Ct X mX8_settleAll 3 0 0 [vR (some 32)] h (fun v h' => v = none ∧ ∃ r, h' = rwR h r ∧ ∀ s, fo o f ≤ s → s < fo o f + om f → ∀ p, p < 12 → dgt (r s) p = nI (ow D s p n)) := by
  refine ct_of rfl (Nat.le_of_ble_eq_true rfl) ?_
  have hb6 := om_fo bf.2.1 bf.2.2.2
  have hn12 := b.2.1
  have loop : ∀ (m : Nat) (k : Nat) (r : Nat → Int32), k + m = n → (∀ s, fo o f ≤ s → s < fo o f + om f → ∀ p, p < 12 → dgt (r s) p = nI (ow D s p k)) → Ev X mX8_settleAll 3 0 0 (fun v h' => v = none ∧ ∃ r, h' = rwR h r ∧ ∀ s, fo o f ≤ s → s < fo o f + om f → ∀ p, p < 12 → dgt (r s) p = nI (ow D s p n)) 0 0 27 [(0, some (vR (some 32))), (1, some (vI (nI (fo o f)))), (2, some (vI (nI (fo o f + om f)))), (3, some (vI (nI k)))] [] (rwR h r) := by
    intro m
    induction m with
    | zero =>
      intro k r hk hr
      obtain rfl : n = k := by omega
      refine e_iload_n aX8_settleAll_27 rfl ?_
      refine e_aload_n aX8_settleAll_28 rfl ?_
      refine e_getRF aX8_settleAll_29 fX8_10 rfl (fx_is F rfl) (fx_r (b := 33) F rfl) ?_
      refine e_getIF aX8_settleAll_32 fX8_101 rfl (fx_is F rfl) ((rwR_I (by decide)).trans b.1) ?_
      refine e_icmp_ge aX8_settleAll_35 (fun c35 => ?_) (fun c35 => ?_)
      · -- 35: taken
        refine e_return aX8_settleAll_61 rfl (Nat.le_refl _) (Nat.le_refl _) ?_
        exact ⟨rfl, r, rfl, hr⟩
      · -- 35: not taken
        exact absurd (nI_le (by omega) (by omega)) c35
    | succ m ih =>
      intro k r hk hr
      refine e_iload_n aX8_settleAll_27 rfl ?_
      refine e_aload_n aX8_settleAll_28 rfl ?_
      refine e_getRF aX8_settleAll_29 fX8_10 rfl (fx_is F rfl) (fx_r (b := 33) F rfl) ?_
      refine e_getIF aX8_settleAll_32 fX8_101 rfl (fx_is F rfl) ((rwR_I (by decide)).trans b.1) ?_
      refine e_icmp_ge aX8_settleAll_35 (fun c35 => ?_) (fun c35 => ?_)
      · -- 35: taken
        exact absurd c35 (nI_ge (by omega) (by omega))
      · -- 35: not taken
        refine e_aload_n aX8_settleAll_38 rfl ?_
        refine e_getRF aX8_settleAll_39 fX8_23 rfl (fx_is F rfl) (fx_r (b := 38) F rfl) ?_
        refine e_aload_n aX8_settleAll_42 rfl ?_
        refine e_getRF aX8_settleAll_43 fX8_10 rfl (fx_is F rfl) (fx_r (b := 33) F rfl) ?_
        refine e_iload_n aX8_settleAll_46 rfl ?_
        refine e_invvT aX8_settleAll_47 kX8_128 (zX0_dealAt_in X (h := rwR h r) F b.rw (by omega)) rfl rfl (fx_is F rfl) (Nat.le_of_ble_eq_true rfl) (Nat.le_of_ble_eq_true rfl) (Nat.le_refl _) (Nat.le_refl _) (Nat.le_of_ble_eq_true rfl) ?_
        refine e_iload_n aX8_settleAll_50 rfl ?_
        refine e_iload_n aX8_settleAll_51 rfl ?_
        refine e_invvV aX8_settleAll_52 kX8_276 (zX2_settle X (h := rwR h r) F (b.2.2 k (by omega)).2.rw (Nat.le_add_right _ _) hb6) rfl rfl (fx_is F rfl) (Nat.le_of_ble_eq_true rfl) (Nat.le_of_ble_eq_true rfl) (Nat.le_refl _) (Nat.le_refl _) (Nat.le_of_ble_eq_true rfl) ?_
        refine e_iinc aX8_settleAll_55 rfl rfl (Nat.le_of_ble_eq_true rfl) ?_
        refine e_goto aX8_settleAll_58 ?_
        refine e_hp (h2 := rwR h (rng (fo o f) (fo o f + om f) (stl (D k)) r)) rwR_rw ?_
        refine e_ls (ls' := [(0, some (vR (some 32))), (1, some (vI (nI (fo o f)))), (2, some (vI (nI (fo o f + om f)))), (3, some (vI (nI (k + 1))))]) ⟨rfl, rfl, rfl, congrArg (fun x => some (vI x)) (nI_1 k), trivial⟩ ?_
        refine ih (k + 1) _ (by omega) (fun s hs1 hs2 p hp => ?_)
        unfold rng
        rw [if_pos ⟨hs1, hs2⟩]
        exact own_step (b.2.2 k (by omega)).2.2.2.1 hp rfl (hr s hs1 hs2 p hp)
  refine e_aload_n aX8_settleAll_0 rfl ?_
  refine e_getRF aX8_settleAll_1 fX8_10 rfl (fx_is F rfl) (fx_r (b := 33) F rfl) ?_
  refine e_invvT aX8_settleAll_4 kX8_84 (zX0_firstOpen X F bf) rfl rfl (fx_is F rfl) (Nat.le_of_ble_eq_true rfl) (Nat.le_of_ble_eq_true rfl) (Nat.le_refl _) (Nat.le_refl _) (Nat.le_of_ble_eq_true rfl) ?_
  refine e_istore_n aX8_settleAll_7 (Nat.le_of_ble_eq_true rfl) ?_
  refine e_aload_n aX8_settleAll_8 rfl ?_
  refine e_getRF aX8_settleAll_9 fX8_10 rfl (fx_is F rfl) (fx_r (b := 33) F rfl) ?_
  refine e_invvT aX8_settleAll_12 kX8_181 (zX0_endOpen X F bf) rfl rfl (fx_is F rfl) (Nat.le_of_ble_eq_true rfl) (Nat.le_of_ble_eq_true rfl) (Nat.le_refl _) (Nat.le_refl _) (Nat.le_of_ble_eq_true rfl) ?_
  refine e_istore_n aX8_settleAll_15 (Nat.le_of_ble_eq_true rfl) ?_
  refine e_aload_n aX8_settleAll_16 rfl ?_
  refine e_getRF aX8_settleAll_17 fX8_23 rfl (fx_is F rfl) (fx_r (b := 38) F rfl) ?_
  refine e_iload_n aX8_settleAll_20 rfl ?_
  refine e_iload_n aX8_settleAll_21 rfl ?_
  refine e_invvV aX8_settleAll_22 kX8_54 (zX2_startAll X F (Nat.le_add_right _ _) hb6) rfl rfl (fx_is F rfl) (Nat.le_of_ble_eq_true rfl) (Nat.le_of_ble_eq_true rfl) (Nat.le_refl _) (Nat.le_refl _) (Nat.le_of_ble_eq_true rfl) ?_
  refine e_iconst (v := 0) aX8_settleAll_25 (by decide) ?_
  refine e_istore_n aX8_settleAll_26 (Nat.le_of_ble_eq_true rfl) ?_
  refine e_ls (ls' := [(0, some (vR (some 32))), (1, some (vI (nI (fo o f)))), (2, some (vI (nI (fo o f + om f)))), (3, some (vI (nI 0)))]) ⟨rfl, rfl, rfl, rfl, trivial⟩ ?_
  refine loop n 0 _ (by omega) (fun s hs1 hs2 p hp => ?_)
  unfold rng
  rw [if_pos ⟨hs1, hs2⟩]
  exact dgt_start p hp
theorem oI_ge {q : Option Nat} (h : ∀ p, q = some p → p < 1073741824) : 0 ≤ oI q ↔ ∃ p, q = some p := by
  rw [← Int32.not_lt, oI_lt h]
  cases q <;> simp
theorem zX8_clashesUnder (X : EX) {h : HP} (F : Fx h) {n : Nat} {A : Nat → Nat} {D : Nat → DD} (b : BkD h n A D) {a : Nat} {d : DD} (kd : DealC h a d) {s : Nat} (hs : s < 1296) : Ct X mX8_clashesUnder 4 0 0 [vR (some 32), vI (nI s), vR (some a)] h (Rt (vI (b2 ((ncl D n d s).isSome = true))) (match ncl D n d s with | none => h | some q => tl h s q.1 q.2)) := by
  refine ct_of rfl (Nat.le_of_ble_eq_true rfl) ?_
  have w := kd.2.2.1
  refine e_aload_n aX8_clashesUnder_0 rfl ?_
  refine e_iload_n aX8_clashesUnder_1 rfl ?_
  refine e_invvT aX8_clashesUnder_2 kX8_160 (zX1_gives X kd hs) rfl rfl kd.2.1 (Nat.le_of_ble_eq_true rfl) (Nat.le_of_ble_eq_true rfl) (Nat.le_refl _) (Nat.le_refl _) (Nat.le_of_ble_eq_true rfl) ?_
  refine e_istore_n aX8_clashesUnder_5 (Nat.le_of_ble_eq_true rfl) ?_
  refine e_iload_n aX8_clashesUnder_6 rfl ?_
  refine e_if_ge aX8_clashesUnder_7 (fun c7 => ?_) (fun c7 => ?_)
  · -- 7: taken
    have q7 := (oI_ge (gv_b w)).mp c7
    obtain ⟨g, hg⟩ := q7
    rw [hg]
    have hgl := (gv_ok w hg).1
    refine e_aload_n aX8_clashesUnder_12 rfl ?_
    refine e_iload_n aX8_clashesUnder_13 rfl ?_
    refine e_invvT aX8_clashesUnder_14 kX8_163 (zX1_getsBack X kd hs) rfl rfl kd.2.1 (Nat.le_of_ble_eq_true rfl) (Nat.le_of_ble_eq_true rfl) (Nat.le_refl _) (Nat.le_refl _) (Nat.le_of_ble_eq_true rfl) ?_
    refine e_istore aX8_clashesUnder_17 (Nat.le_of_ble_eq_true rfl) ?_
    refine e_aload_n aX8_clashesUnder_19 rfl ?_
    refine e_getRF aX8_clashesUnder_20 fX8_10 rfl (fx_is F rfl) (fx_r (b := 33) F rfl) ?_
    refine e_iload_n aX8_clashesUnder_23 rfl ?_
    refine e_iload_n aX8_clashesUnder_24 rfl ?_
    refine e_aload_n aX8_clashesUnder_25 rfl ?_
    refine e_getIF aX8_clashesUnder_26 fX8_134 rfl kd.2.1 kd.2.2.2.2.1 ?_
    refine e_aload_n aX8_clashesUnder_29 rfl ?_
    refine e_getIF aX8_clashesUnder_30 fX8_137 rfl kd.2.1 kd.2.2.2.2.2.1 ?_
    refine e_invvT aX8_clashesUnder_33 kX8_280 (zX0_clashOf X F b hs hgl w.2.1 w.2.2.1) rfl rfl (fx_is F rfl) (Nat.le_of_ble_eq_true rfl) (Nat.le_of_ble_eq_true rfl) (Nat.le_refl _) (Nat.le_refl _) (Nat.le_of_ble_eq_true rfl) ?_
    refine e_istore aX8_clashesUnder_36 (Nat.le_of_ble_eq_true rfl) ?_
    refine e_iload aX8_clashesUnder_38 rfl ?_
    refine e_if_ge aX8_clashesUnder_40 (fun c40 => ?_) (fun c40 => ?_)
    · -- 40: taken
      have q40 := (oI_ge (fun q hq => by have := (gb_ok w hq).1; omega)).mp c40
      obtain ⟨bz, hbz⟩ := q40
      rw [hbz]
      have hbl := (gb_ok w hbz).1
      refine e_aload_n aX8_clashesUnder_47 rfl ?_
      refine e_getRF aX8_clashesUnder_48 fX8_10 rfl (fx_is F rfl) (fx_r (b := 33) F rfl) ?_
      refine e_iload_n aX8_clashesUnder_51 rfl ?_
      refine e_iload aX8_clashesUnder_52 rfl ?_
      refine e_aload_n aX8_clashesUnder_54 rfl ?_
      refine e_getIF aX8_clashesUnder_55 fX8_137 rfl kd.2.1 kd.2.2.2.2.2.1 ?_
      refine e_aload_n aX8_clashesUnder_58 rfl ?_
      refine e_getIF aX8_clashesUnder_59 fX8_134 rfl kd.2.1 kd.2.2.2.2.1 ?_
      refine e_invvT aX8_clashesUnder_62 kX8_280 (zX0_clashOf X F b hs hbl w.2.2.1 w.2.1) rfl rfl (fx_is F rfl) (Nat.le_of_ble_eq_true rfl) (Nat.le_of_ble_eq_true rfl) (Nat.le_refl _) (Nat.le_refl _) (Nat.le_of_ble_eq_true rfl) ?_
      refine e_istore aX8_clashesUnder_65 (Nat.le_of_ble_eq_true rfl) ?_
      refine e_iload aX8_clashesUnder_67 rfl ?_
      refine e_if_ge aX8_clashesUnder_69 (fun c69 => ?_) (fun c69 => ?_)
      · -- 69: taken
        obtain ⟨w1, hw1⟩ := (oI_ge cls_b).mp c69
        refine e_iload aX8_clashesUnder_79 rfl ?_
        refine e_if_lt aX8_clashesUnder_81 (fun c81 => ?_) (fun c81 => ?_)
        · -- 81: taken
          exact absurd c69 (Int32.not_le.mpr c81)
        · -- 81: not taken
          skip
          refine e_iload aX8_clashesUnder_84 rfl ?_
          refine e_if_lt aX8_clashesUnder_86 (fun c86 => ?_) (fun c86 => ?_)
          · -- 86: taken
            have hw2 := (oI_lt cls_b).mp c86
            have hn : ncl D n d s = some (g, w1) := by simp [ncl, hg, hw1, hbz, hw2]
            refine e_iconst (v := 1) aX8_clashesUnder_95 (by decide) ?_
            refine e_goto aX8_clashesUnder_96 ?_
            refine e_istore aX8_clashesUnder_100 (Nat.le_of_ble_eq_true rfl) ?_
            refine e_aload_n aX8_clashesUnder_102 rfl ?_
            refine e_getRF aX8_clashesUnder_103 fX8_46 rfl (fx_is F rfl) (fx_r (b := 75) F rfl) ?_
            refine e_iconst (v := 0) aX8_clashesUnder_106 (by decide) ?_
            refine e_iload_n aX8_clashesUnder_107 rfl ?_
            refine e_iastoreF aX8_clashesUnder_108 (fx_is F rfl) (fx_n (n := 3) F rfl) (vin (n := 0) (by decide)) ?_
            refine e_aload_n aX8_clashesUnder_109 rfl ?_
            refine e_getRF aX8_clashesUnder_110 fX8_46 rfl (fx_is F rfl) (fx_r (b := 75) F rfl) ?_
            refine e_iconst (v := 1) aX8_clashesUnder_113 (by decide) ?_
            refine e_iload aX8_clashesUnder_114 rfl ?_
            refine e_if_eq aX8_clashesUnder_116 (fun c116 => absurd c116 (by decide)) (fun c116 => ?_)
            refine e_iload_n aX8_clashesUnder_119 rfl ?_
            refine e_goto aX8_clashesUnder_120 ?_
            refine e_iastoreF aX8_clashesUnder_125 (fx_is F rfl) (fx_n (n := 3) F rfl) (vin (n := 1) (by decide)) ?_
            refine e_aload_n aX8_clashesUnder_126 rfl ?_
            refine e_getRF aX8_clashesUnder_127 fX8_46 rfl (fx_is F rfl) (fx_r (b := 75) F rfl) ?_
            refine e_iconst (v := 2) aX8_clashesUnder_130 (by decide) ?_
            refine e_iload aX8_clashesUnder_131 rfl ?_
            refine e_if_eq aX8_clashesUnder_133 (fun c133 => absurd c133 (by decide)) (fun c133 => ?_)
            refine e_iload aX8_clashesUnder_136 rfl ?_
            refine e_goto aX8_clashesUnder_138 ?_
            refine e_iastoreF aX8_clashesUnder_143 (fx_is F rfl) (fx_n (n := 3) F rfl) (vin (n := 2) (by decide)) ?_
            refine e_iconst (v := 1) aX8_clashesUnder_144 (by decide) ?_
            refine e_zreturn aX8_clashesUnder_145 rfl (by decide) (Nat.le_refl _) (Nat.le_refl _) ?_
            exact ⟨by rw [hn]; rfl, by rw [hn]; simp only [hw1]; rfl⟩
          · -- 86: not taken
            obtain ⟨w2, hw2⟩ := (oI_ge cls_b).mp (Int32.not_lt.mp c86)
            refine e_iload_n aX8_clashesUnder_89 rfl ?_
            refine e_iload aX8_clashesUnder_90 rfl ?_
            refine e_icmp_ge aX8_clashesUnder_92 (fun c92 => ?_) (fun c92 => ?_)
            · -- 92: taken
              have q92 := (nI_leI (by omega) (by omega)).mp c92
              have hn : ncl D n d s = some (bz, w2) := by simp [ncl, hg, hw1, hbz, hw2, Nat.not_lt.mpr q92]
              refine e_iconst (v := 0) aX8_clashesUnder_99 (by decide) ?_
              refine e_istore aX8_clashesUnder_100 (Nat.le_of_ble_eq_true rfl) ?_
              refine e_aload_n aX8_clashesUnder_102 rfl ?_
              refine e_getRF aX8_clashesUnder_103 fX8_46 rfl (fx_is F rfl) (fx_r (b := 75) F rfl) ?_
              refine e_iconst (v := 0) aX8_clashesUnder_106 (by decide) ?_
              refine e_iload_n aX8_clashesUnder_107 rfl ?_
              refine e_iastoreF aX8_clashesUnder_108 (fx_is F rfl) (fx_n (n := 3) F rfl) (vin (n := 0) (by decide)) ?_
              refine e_aload_n aX8_clashesUnder_109 rfl ?_
              refine e_getRF aX8_clashesUnder_110 fX8_46 rfl (fx_is F rfl) (fx_r (b := 75) F rfl) ?_
              refine e_iconst (v := 1) aX8_clashesUnder_113 (by decide) ?_
              refine e_iload aX8_clashesUnder_114 rfl ?_
              refine e_if_eq aX8_clashesUnder_116 (fun c116 => ?_) (fun c116 => absurd c116 (by decide))
              refine e_iload aX8_clashesUnder_123 rfl ?_
              refine e_iastoreF aX8_clashesUnder_125 (fx_is F rfl) (fx_n (n := 3) F rfl) (vin (n := 1) (by decide)) ?_
              refine e_aload_n aX8_clashesUnder_126 rfl ?_
              refine e_getRF aX8_clashesUnder_127 fX8_46 rfl (fx_is F rfl) (fx_r (b := 75) F rfl) ?_
              refine e_iconst (v := 2) aX8_clashesUnder_130 (by decide) ?_
              refine e_iload aX8_clashesUnder_131 rfl ?_
              refine e_if_eq aX8_clashesUnder_133 (fun c133 => ?_) (fun c133 => absurd c133 (by decide))
              refine e_iload aX8_clashesUnder_141 rfl ?_
              refine e_iastoreF aX8_clashesUnder_143 (fx_is F rfl) (fx_n (n := 3) F rfl) (vin (n := 2) (by decide)) ?_
              refine e_iconst (v := 1) aX8_clashesUnder_144 (by decide) ?_
              refine e_zreturn aX8_clashesUnder_145 rfl (by decide) (Nat.le_refl _) (Nat.le_refl _) ?_
              exact ⟨by rw [hn]; rfl, by rw [hn]; simp only [hbz, hw2]; rfl⟩
            · -- 92: not taken
              have q92 := (not_congr (nI_leI (by omega) (by omega))).mp c92
              have hn : ncl D n d s = some (g, w1) := by simp [ncl, hg, hw1, hbz, hw2, Nat.lt_of_not_le q92]
              refine e_iconst (v := 1) aX8_clashesUnder_95 (by decide) ?_
              refine e_goto aX8_clashesUnder_96 ?_
              refine e_istore aX8_clashesUnder_100 (Nat.le_of_ble_eq_true rfl) ?_
              refine e_aload_n aX8_clashesUnder_102 rfl ?_
              refine e_getRF aX8_clashesUnder_103 fX8_46 rfl (fx_is F rfl) (fx_r (b := 75) F rfl) ?_
              refine e_iconst (v := 0) aX8_clashesUnder_106 (by decide) ?_
              refine e_iload_n aX8_clashesUnder_107 rfl ?_
              refine e_iastoreF aX8_clashesUnder_108 (fx_is F rfl) (fx_n (n := 3) F rfl) (vin (n := 0) (by decide)) ?_
              refine e_aload_n aX8_clashesUnder_109 rfl ?_
              refine e_getRF aX8_clashesUnder_110 fX8_46 rfl (fx_is F rfl) (fx_r (b := 75) F rfl) ?_
              refine e_iconst (v := 1) aX8_clashesUnder_113 (by decide) ?_
              refine e_iload aX8_clashesUnder_114 rfl ?_
              refine e_if_eq aX8_clashesUnder_116 (fun c116 => absurd c116 (by decide)) (fun c116 => ?_)
              refine e_iload_n aX8_clashesUnder_119 rfl ?_
              refine e_goto aX8_clashesUnder_120 ?_
              refine e_iastoreF aX8_clashesUnder_125 (fx_is F rfl) (fx_n (n := 3) F rfl) (vin (n := 1) (by decide)) ?_
              refine e_aload_n aX8_clashesUnder_126 rfl ?_
              refine e_getRF aX8_clashesUnder_127 fX8_46 rfl (fx_is F rfl) (fx_r (b := 75) F rfl) ?_
              refine e_iconst (v := 2) aX8_clashesUnder_130 (by decide) ?_
              refine e_iload aX8_clashesUnder_131 rfl ?_
              refine e_if_eq aX8_clashesUnder_133 (fun c133 => absurd c133 (by decide)) (fun c133 => ?_)
              refine e_iload aX8_clashesUnder_136 rfl ?_
              refine e_goto aX8_clashesUnder_138 ?_
              refine e_iastoreF aX8_clashesUnder_143 (fx_is F rfl) (fx_n (n := 3) F rfl) (vin (n := 2) (by decide)) ?_
              refine e_iconst (v := 1) aX8_clashesUnder_144 (by decide) ?_
              refine e_zreturn aX8_clashesUnder_145 rfl (by decide) (Nat.le_refl _) (Nat.le_refl _) ?_
              exact ⟨by rw [hn]; rfl, by rw [hn]; simp only [hw1]; rfl⟩
      · -- 69: not taken
        have hw1 := (oI_lt cls_b).mp (Int32.not_le.mp c69)
        refine e_iload aX8_clashesUnder_72 rfl ?_
        refine e_if_ge aX8_clashesUnder_74 (fun c74 => ?_) (fun c74 => ?_)
        · -- 74: taken
          obtain ⟨w2, hw2⟩ := (oI_ge cls_b).mp c74
          refine e_iload aX8_clashesUnder_79 rfl ?_
          refine e_if_lt aX8_clashesUnder_81 (fun c81 => ?_) (fun c81 => ?_)
          · -- 81: taken
            skip
            refine e_iconst (v := 0) aX8_clashesUnder_99 (by decide) ?_
            refine e_istore aX8_clashesUnder_100 (Nat.le_of_ble_eq_true rfl) ?_
            refine e_aload_n aX8_clashesUnder_102 rfl ?_
            refine e_getRF aX8_clashesUnder_103 fX8_46 rfl (fx_is F rfl) (fx_r (b := 75) F rfl) ?_
            refine e_iconst (v := 0) aX8_clashesUnder_106 (by decide) ?_
            refine e_iload_n aX8_clashesUnder_107 rfl ?_
            refine e_iastoreF aX8_clashesUnder_108 (fx_is F rfl) (fx_n (n := 3) F rfl) (vin (n := 0) (by decide)) ?_
            refine e_aload_n aX8_clashesUnder_109 rfl ?_
            refine e_getRF aX8_clashesUnder_110 fX8_46 rfl (fx_is F rfl) (fx_r (b := 75) F rfl) ?_
            refine e_iconst (v := 1) aX8_clashesUnder_113 (by decide) ?_
            refine e_iload aX8_clashesUnder_114 rfl ?_
            refine e_if_eq aX8_clashesUnder_116 (fun c116 => ?_) (fun c116 => absurd c116 (by decide))
            refine e_iload aX8_clashesUnder_123 rfl ?_
            refine e_iastoreF aX8_clashesUnder_125 (fx_is F rfl) (fx_n (n := 3) F rfl) (vin (n := 1) (by decide)) ?_
            refine e_aload_n aX8_clashesUnder_126 rfl ?_
            refine e_getRF aX8_clashesUnder_127 fX8_46 rfl (fx_is F rfl) (fx_r (b := 75) F rfl) ?_
            refine e_iconst (v := 2) aX8_clashesUnder_130 (by decide) ?_
            refine e_iload aX8_clashesUnder_131 rfl ?_
            refine e_if_eq aX8_clashesUnder_133 (fun c133 => ?_) (fun c133 => absurd c133 (by decide))
            refine e_iload aX8_clashesUnder_141 rfl ?_
            refine e_iastoreF aX8_clashesUnder_143 (fx_is F rfl) (fx_n (n := 3) F rfl) (vin (n := 2) (by decide)) ?_
            refine e_iconst (v := 1) aX8_clashesUnder_144 (by decide) ?_
            refine e_zreturn aX8_clashesUnder_145 rfl (by decide) (Nat.le_refl _) (Nat.le_refl _) ?_
            have hn : ncl D n d s = some (bz, w2) := by simp [ncl, hg, hw1, hbz, hw2]
            exact ⟨by rw [hn]; rfl, by rw [hn]; simp only [hbz, hw2]; rfl⟩
          · -- 81: not taken
            exact absurd (Int32.not_lt.mp c81) c69
        · -- 74: not taken
          have hw2 := (oI_lt cls_b).mp (Int32.not_le.mp c74)
          have hn : ncl D n d s = none := by simp [ncl, hg, hw1, hbz, hw2]
          refine e_iconst (v := 0) aX8_clashesUnder_77 (by decide) ?_
          refine e_zreturn aX8_clashesUnder_78 rfl (by decide) (Nat.le_refl _) (Nat.le_refl _) ?_
          exact ⟨by rw [hn]; rfl, by rw [hn]⟩
    · -- 40: not taken
      have q40 := (oI_lt (fun q hq => by have := (gb_ok w hq).1; omega)).mp (Int32.not_le.mp c40)
      refine e_iconst (v := -1) aX8_clashesUnder_43 (by decide) ?_
      refine e_goto aX8_clashesUnder_44 ?_
      refine e_istore aX8_clashesUnder_65 (Nat.le_of_ble_eq_true rfl) ?_
      refine e_iload aX8_clashesUnder_67 rfl ?_
      refine e_if_ge aX8_clashesUnder_69 (fun c69 => ?_) (fun c69 => ?_)
      · -- 69: taken
        obtain ⟨w1, hw1⟩ := (oI_ge cls_b).mp c69
        refine e_iload aX8_clashesUnder_79 rfl ?_
        refine e_if_lt aX8_clashesUnder_81 (fun c81 => ?_) (fun c81 => ?_)
        · -- 81: taken
          exact absurd c69 (Int32.not_le.mpr c81)
        · -- 81: not taken
          skip
          refine e_iload aX8_clashesUnder_84 rfl ?_
          refine e_if_lt aX8_clashesUnder_86 (fun c86 => ?_) (fun c86 => absurd c86 (by decide))
          have hn : ncl D n d s = some (g, w1) := by simp [ncl, hg, hw1, q40]
          refine e_iconst (v := 1) aX8_clashesUnder_95 (by decide) ?_
          refine e_goto aX8_clashesUnder_96 ?_
          refine e_istore aX8_clashesUnder_100 (Nat.le_of_ble_eq_true rfl) ?_
          refine e_aload_n aX8_clashesUnder_102 rfl ?_
          refine e_getRF aX8_clashesUnder_103 fX8_46 rfl (fx_is F rfl) (fx_r (b := 75) F rfl) ?_
          refine e_iconst (v := 0) aX8_clashesUnder_106 (by decide) ?_
          refine e_iload_n aX8_clashesUnder_107 rfl ?_
          refine e_iastoreF aX8_clashesUnder_108 (fx_is F rfl) (fx_n (n := 3) F rfl) (vin (n := 0) (by decide)) ?_
          refine e_aload_n aX8_clashesUnder_109 rfl ?_
          refine e_getRF aX8_clashesUnder_110 fX8_46 rfl (fx_is F rfl) (fx_r (b := 75) F rfl) ?_
          refine e_iconst (v := 1) aX8_clashesUnder_113 (by decide) ?_
          refine e_iload aX8_clashesUnder_114 rfl ?_
          refine e_if_eq aX8_clashesUnder_116 (fun c116 => absurd c116 (by decide)) (fun c116 => ?_)
          refine e_iload_n aX8_clashesUnder_119 rfl ?_
          refine e_goto aX8_clashesUnder_120 ?_
          refine e_iastoreF aX8_clashesUnder_125 (fx_is F rfl) (fx_n (n := 3) F rfl) (vin (n := 1) (by decide)) ?_
          refine e_aload_n aX8_clashesUnder_126 rfl ?_
          refine e_getRF aX8_clashesUnder_127 fX8_46 rfl (fx_is F rfl) (fx_r (b := 75) F rfl) ?_
          refine e_iconst (v := 2) aX8_clashesUnder_130 (by decide) ?_
          refine e_iload aX8_clashesUnder_131 rfl ?_
          refine e_if_eq aX8_clashesUnder_133 (fun c133 => absurd c133 (by decide)) (fun c133 => ?_)
          refine e_iload aX8_clashesUnder_136 rfl ?_
          refine e_goto aX8_clashesUnder_138 ?_
          refine e_iastoreF aX8_clashesUnder_143 (fx_is F rfl) (fx_n (n := 3) F rfl) (vin (n := 2) (by decide)) ?_
          refine e_iconst (v := 1) aX8_clashesUnder_144 (by decide) ?_
          refine e_zreturn aX8_clashesUnder_145 rfl (by decide) (Nat.le_refl _) (Nat.le_refl _) ?_
          exact ⟨by rw [hn]; rfl, by rw [hn]; simp only [hw1]; rfl⟩
      · -- 69: not taken
        have hw1 := (oI_lt cls_b).mp (Int32.not_le.mp c69)
        refine e_iload aX8_clashesUnder_72 rfl ?_
        refine e_if_ge aX8_clashesUnder_74 (fun c74 => absurd c74 (by decide)) (fun c74 => ?_)
        have hn : ncl D n d s = none := by simp [ncl, hg, hw1, q40]
        refine e_iconst (v := 0) aX8_clashesUnder_77 (by decide) ?_
        refine e_zreturn aX8_clashesUnder_78 rfl (by decide) (Nat.le_refl _) (Nat.le_refl _) ?_
        exact ⟨by rw [hn]; rfl, by rw [hn]⟩
  · -- 7: not taken
    have q7 := (oI_lt (gv_b w)).mp (Int32.not_le.mp c7)
    have hn : ncl D n d s = none := by simp [ncl, q7]
    refine e_iconst (v := 0) aX8_clashesUnder_10 (by decide) ?_
    refine e_zreturn aX8_clashesUnder_11 rfl (by decide) (Nat.le_refl _) (Nat.le_refl _) ?_
    exact ⟨by rw [hn]; rfl, by rw [hn]⟩
end
section
/-! contracts: takes, enter, sale, swap (written by wip/whole/g21.py) -/
theorem e_aastoreF {X : EX} {y : MD} {d mc ms : Nat} {Q : Option VV → HP → Prop} {cells slots pc pc' : Nat} {ls : ZL} {st : List VV} {h : HP} {a : Nat} {i : Int32} {t b N : Nat} (hd : At y.2.1 pc (.aastore) 1 pc') (ok : Is h a t) (h1 : 16 ≤ t) (h2 : t ≤ 19) (ok2 : Is h b ((rfC t).1 + 1)) (hn : hN h a = N) (hin : vp_in i N) (k : Ev X y d mc ms Q cells slots pc' ls st (wR h a i.toNatClampNeg (some b))) : Ev X y d mc ms Q cells slots pc ls (vR (some b) :: vI i :: vR (some a) :: st) h := e_aastore hd ok h1 h2 ok2 (by rw [hn]; exact hin) k
theorem Fx.wR {h : HP} (F : Fx h) {b i : Nat} {v : Option Nat} (hb : R0l.getD (b - 32) [] = []) : Fx (wR h b i v) := by
  refine ⟨F.1, F.2.1, fun a j hr => ?_⟩
  have hab : a ≠ b := by
    intro e
    subst e
    apply hr
    unfold R0
    rw [hb]
    rfl
  exact (up2_a hab).trans (F.2.2 a j hr)
/-- the first CLASH from s on, among m STANDINGS -/
def fcl (D : Nat → DD) (n : Nat) (d : DD) : Nat → Nat → Option (Nat × Nat × Nat)
  | _, 0 => none
  | s, m + 1 => match ncl D n d s with
    | some q => some (s, q.1, q.2)
    | none => fcl D n d (s + 1) m
/-- one more deal is taken -/
def tkn (h : HP) (n a : Nat) (d : DD) (s0 m : Nat) : HP := rwR (wI (wR h 34 n (some a)) 33 1 (nI (n + 1))) (rng s0 (s0 + m) (stl d) (hI (wI (wR h 34 n (some a)) 33 1 (nI (n + 1))) 39))
/-- a finding -/
def fv (k : Nat) : VV := vI (-1000001 - nI k)
def fnd (h : HP) (k : Nat) : HP := wI h 76 k (hI h 76 k + 1)
theorem zfin (X : EX) {h : HP} (F : Fx h) {k : Nat} (hk : k < 8) : Ct X mX8_finding 0 0 0 [vR (some 32), vI (nI k)] h (Rt (fv k) (fnd h k)) := zX8_finding X F hk
theorem zX8_takes (X : EX) {h : HP} (F : Fx h) {f n : Nat} {o : Nat → Nat} {A : Nat → Nat} {D : Nat → DD} (bf : BkF h f o) (b : BkD h n A D) (hn : n < 12) {a : Nat} {d : DD} (kd : DealC h a d) : Ct X mX8_takes 5 0 0 [vR (some 32), vR (some a)] h (Rt (vI (b2 ((fcl D n d (fo o f) (om f)).isNone = true))) (match fcl D n d (fo o f) (om f) with | some q => tl h q.1 q.2.1 q.2.2 | none => tkn h n a d (fo o f) (om f))) := by
  refine ct_of rfl (Nat.le_of_ble_eq_true rfl) ?_
  have hb6 := om_fo bf.2.1 bf.2.2.2
  have loop : ∀ (m : Nat) (j : Nat), j + m = fo o f + om f → fcl D n d j m = fcl D n d (fo o f) (om f) → Ev X mX8_takes 5 0 0 (Rt (vI (b2 ((fcl D n d (fo o f) (om f)).isNone = true))) (match fcl D n d (fo o f) (om f) with | some q => tl h q.1 q.2.1 q.2.2 | none => tkn h n a d (fo o f) (om f))) 0 0 37 [(0, some (vR (some 32))), (1, some (vR (some a))), (2, some (vI (nI (fo o f)))), (3, some (vI (nI (fo o f + om f)))), (4, some (vI (nI j)))] [] h := by
    intro m
    induction m with
    | zero =>
      intro j hj hR9
      refine e_iload aX8_takes_37 rfl ?_
      refine e_iload_n aX8_takes_39 rfl ?_
      refine e_icmp_ge aX8_takes_40 (fun c40 => ?_) (fun c40 => ?_)
      · -- 40: taken
        refine e_aload_n aX8_takes_61 rfl ?_
        refine e_getRF aX8_takes_62 fX8_10 rfl (fx_is F rfl) (fx_r (b := 33) F rfl) ?_
        refine e_getRF aX8_takes_65 fX8_166 rfl (fx_is F rfl) (fx_r (b := 34) F rfl) ?_
        refine e_aload_n aX8_takes_68 rfl ?_
        refine e_getRF aX8_takes_69 fX8_10 rfl (fx_is F rfl) (fx_r (b := 33) F rfl) ?_
        refine e_getIF aX8_takes_72 fX8_101 rfl (fx_is F rfl) b.1 ?_
        refine e_aload_n aX8_takes_75 rfl ?_
        refine e_aastoreF (t := 17) aX8_takes_76 (fx_is F rfl) (by decide) (by decide) kd.2.1 (fx_n (n := 12) F rfl) (vin (by omega)) ?_
        rw [cl (by omega)]
        have F : Fx (wR h 34 n (some a)) := F.wR rfl
        refine e_aload_n aX8_takes_77 rfl ?_
        refine e_getRF aX8_takes_78 fX8_10 rfl (fx_is F rfl) (fx_r (b := 33) F rfl) ?_
        refine e_dup aX8_takes_81 rfl ?_
        refine e_getIF aX8_takes_82 fX8_101 rfl (fx_is F rfl) b.1 ?_
        refine e_iconst (v := 1) aX8_takes_85 (by decide) ?_
        refine e_iadd aX8_takes_86 ?_
        refine e_top (nI_1 n) ?_
        refine e_putI aX8_takes_87 fX8_101 rfl (fx_is F rfl) (Or.inl rfl) ?_
        refine e_aload_n aX8_takes_90 rfl ?_
        refine e_getRF aX8_takes_91 fX8_23 rfl (fx_is F rfl) (fx_r (b := 38) F rfl) ?_
        refine e_aload_n aX8_takes_94 rfl ?_
        refine e_iload_n aX8_takes_95 rfl ?_
        refine e_iload_n aX8_takes_96 rfl ?_
        refine e_invvV aX8_takes_97 kX8_276 (zX2_settle X (h := (wI (wR h 34 n (some a)) 33 1 (nI (n + 1)))) F ((kd.up (Up.wR (by decide))).up (Up.wI (by decide))) (Nat.le_add_right _ _) hb6) rfl rfl (fx_is F rfl) (Nat.le_of_ble_eq_true rfl) (Nat.le_of_ble_eq_true rfl) (Nat.le_refl _) (Nat.le_refl _) (Nat.le_of_ble_eq_true rfl) ?_
        refine e_iconst (v := 1) aX8_takes_100 (by decide) ?_
        refine e_zreturn aX8_takes_101 rfl (by decide) (Nat.le_refl _) (Nat.le_refl _) ?_
        exact ⟨by rw [← hR9]; rfl, by rw [← hR9]; rfl⟩
      · -- 40: not taken
        exact absurd (nI_le (by omega) (by omega)) c40
    | succ m ih =>
      intro j hj hR9
      refine e_iload aX8_takes_37 rfl ?_
      refine e_iload_n aX8_takes_39 rfl ?_
      refine e_icmp_ge aX8_takes_40 (fun c40 => ?_) (fun c40 => ?_)
      · -- 40: taken
        exact absurd c40 (nI_ge (by omega) (by omega))
      · -- 40: not taken
        refine e_aload_n aX8_takes_43 rfl ?_
        refine e_iload aX8_takes_44 rfl ?_
        refine e_aload_n aX8_takes_46 rfl ?_
        refine e_invvT aX8_takes_47 kX8_272 (zX8_clashesUnder X F b kd (by omega)) rfl rfl (fx_is F rfl) (Nat.le_of_ble_eq_true rfl) (Nat.le_of_ble_eq_true rfl) (Nat.le_refl _) (Nat.le_refl _) (Nat.le_of_ble_eq_true rfl) ?_
        refine e_if_eq aX8_takes_50 (fun c50 => ?_) (fun c50 => ?_)
        · -- 50: taken
          have q50 : ncl D n d j = none := Option.not_isSome_iff_eq_none.mp (fun z => b2_0.mp c50 z)
          refine e_hp (h2 := h) (by rw [q50]) ?_
          refine e_iinc aX8_takes_55 rfl rfl (Nat.le_of_ble_eq_true rfl) ?_
          refine e_goto aX8_takes_58 ?_
          refine e_ls (ls' := [(0, some (vR (some 32))), (1, some (vR (some a))), (2, some (vI (nI (fo o f)))), (3, some (vI (nI (fo o f + om f)))), (4, some (vI (nI (j + 1))))]) ⟨rfl, rfl, rfl, rfl, congrArg (fun x => some (vI x)) (nI_1 j), trivial⟩ ?_
          exact ih (j + 1) (by omega) (by
            rw [← hR9]
            conv => rhs; unfold fcl
            rw [q50])
        · -- 50: not taken
          obtain ⟨q, q50⟩ := Option.isSome_iff_exists.mp (Decidable.of_not_not (fun z => c50 (b2_0.mpr z)))
          refine e_hp (h2 := tl h j q.1 q.2) (by rw [q50]) ?_
          refine e_iconst (v := 0) aX8_takes_53 (by decide) ?_
          refine e_zreturn aX8_takes_54 rfl (by decide) (Nat.le_refl _) (Nat.le_refl _) ?_
          have hR8 : fcl D n d (fo o f) (om f) = some (j, q.1, q.2) := by
            rw [← hR9]
            unfold fcl
            rw [q50]
          exact ⟨by rw [hR8]; rfl, by rw [hR8]⟩
  refine e_aload_n aX8_takes_0 rfl ?_
  refine e_ifnull aX8_takes_1 (fun c1 => ?_) (fun r1 c1 => ?_)
  · -- 1: taken
    exact absurd c1 (by simp)
  · -- 1: not taken
    skip
    refine e_aload_n aX8_takes_4 rfl ?_
    refine e_getRF aX8_takes_5 fX8_10 rfl (fx_is F rfl) (fx_r (b := 33) F rfl) ?_
    refine e_getIF aX8_takes_8 fX8_101 rfl (fx_is F rfl) b.1 ?_
    refine e_bipush (v := 12) aX8_takes_11 (by decide) ?_
    refine e_icmp_lt aX8_takes_13 (fun c13 => ?_) (fun c13 => ?_)
    · -- 13: taken
      skip
      refine e_aload_n aX8_takes_18 rfl ?_
      refine e_getRF aX8_takes_19 fX8_10 rfl (fx_is F rfl) (fx_r (b := 33) F rfl) ?_
      refine e_invvT aX8_takes_22 kX8_84 (zX0_firstOpen X F bf) rfl rfl (fx_is F rfl) (Nat.le_of_ble_eq_true rfl) (Nat.le_of_ble_eq_true rfl) (Nat.le_refl _) (Nat.le_refl _) (Nat.le_of_ble_eq_true rfl) ?_
      refine e_istore_n aX8_takes_25 (Nat.le_of_ble_eq_true rfl) ?_
      refine e_aload_n aX8_takes_26 rfl ?_
      refine e_getRF aX8_takes_27 fX8_10 rfl (fx_is F rfl) (fx_r (b := 33) F rfl) ?_
      refine e_invvT aX8_takes_30 kX8_181 (zX0_endOpen X F bf) rfl rfl (fx_is F rfl) (Nat.le_of_ble_eq_true rfl) (Nat.le_of_ble_eq_true rfl) (Nat.le_refl _) (Nat.le_refl _) (Nat.le_of_ble_eq_true rfl) ?_
      refine e_istore_n aX8_takes_33 (Nat.le_of_ble_eq_true rfl) ?_
      refine e_iload_n aX8_takes_34 rfl ?_
      refine e_istore aX8_takes_35 (Nat.le_of_ble_eq_true rfl) ?_
      refine e_ls (ls' := [(0, some (vR (some 32))), (1, some (vR (some a))), (2, some (vI (nI (fo o f)))), (3, some (vI (nI (fo o f + om f)))), (4, some (vI (nI (fo o f))))]) ⟨rfl, rfl, rfl, rfl, rfl, trivial⟩ ?_
      exact loop (om f) (fo o f) rfl rfl
    · -- 13: not taken
      exact absurd (nI_lt (a := n) (b := 12) hn (by decide)) c13
/-- what enter answers, and the heap behind it -/
def entV (D : Nat → DD) (n : Nat) (d : DD) (f : Nat) (o : Nat → Nat) : VV := if dP d / 3 < f then fv 3 else if 12 ≤ n then fv 1 else match fcl D n d (fo o f) (om f) with
  | some _ => fv 4
  | none => vI (nI n)
def entH (h : HP) (a : Nat) (D : Nat → DD) (n : Nat) (d : DD) (f : Nat) (o : Nat → Nat) : HP := if dP d / 3 < f then fnd h 3 else if 12 ≤ n then fnd h 1 else match fcl D n d (fo o f) (om f) with
  | some q => fnd (tl h q.1 q.2.1 q.2.2) 4
  | none => tkn h n a d (fo o f) (om f)
theorem tkn_33 {h : HP} {n a : Nat} {d : DD} {s0 m : Nat} : hI (tkn h n a d s0 m) 33 1 = nI (n + 1) := (rwR_I (by decide)).trans (up2_s (f := h.1) (a := 33) (i := 1) (v := nI (n + 1)))
theorem zX8_enter (X : EX) {h : HP} (F : Fx h) {f n : Nat} {o : Nat → Nat} {A : Nat → Nat} {D : Nat → DD} (bf : BkF h f o) (b : BkD h n A D) {a : Nat} {d : DD} (kd : DealC h a d) : Ct X mX8_enter 6 0 0 [vR (some 32), vR (some a)] h (Rt (entV D n d f o) (entH h a D n d f o)) := by
  refine ct_of rfl (Nat.le_of_ble_eq_true rfl) ?_
  have hp9 := kd.2.2.1.2.2.2.2.1
  have hf4 := bf.2.1
  have hn12 := b.2.1
  refine e_aload_n aX8_enter_0 rfl ?_
  refine e_getIF aX8_enter_1 fX8_140 rfl kd.2.1 kd.2.2.2.2.2.2.1 ?_
  refine e_iconst (v := 3) aX8_enter_4 (by decide) ?_
  refine e_idiv aX8_enter_5 (by decide) ?_
  refine e_top (nI_div (b := 3) (by omega) (by decide) (by decide)) ?_
  refine e_aload_n aX8_enter_6 rfl ?_
  refine e_getRF aX8_enter_7 fX8_10 rfl (fx_is F rfl) (fx_r (b := 33) F rfl) ?_
  refine e_getIF aX8_enter_10 fX8_73 rfl (fx_is F rfl) bf.1 ?_
  refine e_icmp_ge aX8_enter_13 (fun c13 => ?_) (fun c13 => ?_)
  · -- 13: taken
    have q13 := (not_congr (nI_ltI (a := dP d / 3) (b := f) (by omega) (by omega))).mp (Int32.not_lt.mpr c13)
    refine e_aload_n aX8_enter_22 rfl ?_
    refine e_getRF aX8_enter_23 fX8_10 rfl (fx_is F rfl) (fx_r (b := 33) F rfl) ?_
    refine e_getIF aX8_enter_26 fX8_101 rfl (fx_is F rfl) b.1 ?_
    refine e_bipush (v := 12) aX8_enter_29 (by decide) ?_
    refine e_icmp_lt aX8_enter_31 (fun c31 => ?_) (fun c31 => ?_)
    · -- 31: taken
      have q31 : n < 12 := (nI_ltI (b := 12) (by omega) (by decide)).mp c31
      refine e_aload_n aX8_enter_40 rfl ?_
      refine e_aload_n aX8_enter_41 rfl ?_
      refine e_invvT aX8_enter_42 kX8_121 (zX8_takes X F bf b q31 kd) rfl rfl (fx_is F rfl) (Nat.le_of_ble_eq_true rfl) (Nat.le_of_ble_eq_true rfl) (Nat.le_refl _) (Nat.le_refl _) (Nat.le_of_ble_eq_true rfl) ?_
      refine e_if_eq aX8_enter_45 (fun c45 => ?_) (fun c45 => ?_)
      · -- 45: taken
        obtain ⟨q, q45⟩ := Option.ne_none_iff_exists'.mp (fun z => b2_0.mp c45 (Option.isNone_iff_eq_none.mpr z))
        refine e_hp (h2 := tl h q.1 q.2.1 q.2.2) (by rw [q45]) ?_
        refine e_aload_n aX8_enter_60 rfl ?_
        refine e_iconst (v := 4) aX8_enter_61 (by decide) ?_
        refine e_invvT aX8_enter_62 kX8_62 (zfin X (k := 4) (h := tl h q.1 q.2.1 q.2.2) F (by decide)) rfl rfl (fx_is F rfl) (Nat.le_of_ble_eq_true rfl) (Nat.le_of_ble_eq_true rfl) (Nat.le_refl _) (Nat.le_refl _) (Nat.le_of_ble_eq_true rfl) ?_
        refine e_ireturn aX8_enter_65 rfl (Nat.le_refl _) (Nat.le_refl _) ?_
        exact ⟨by unfold entV; rw [if_neg q13, if_neg (by omega), q45] <;> rfl, by unfold entH; rw [if_neg q13, if_neg (by omega), q45] <;> rfl⟩
      · -- 45: not taken
        have q45 := Option.isNone_iff_eq_none.mp (Decidable.of_not_not (fun z => c45 (b2_0.mpr z)))
        refine e_hp (h2 := tkn h n a d (fo o f) (om f)) (by rw [q45]) ?_
        refine e_aload_n aX8_enter_48 rfl ?_
        refine e_getRF aX8_enter_49 fX8_10 rfl (fx_is F rfl) (fx_r (b := 33) F rfl) ?_
        refine e_getIF aX8_enter_52 fX8_101 rfl (fx_is F rfl) tkn_33 ?_
        refine e_iconst (v := 1) aX8_enter_55 (by decide) ?_
        refine e_isub aX8_enter_56 ?_
        refine e_top (nI_pred n) ?_
        refine e_goto aX8_enter_57 ?_
        refine e_ireturn aX8_enter_65 rfl (Nat.le_refl _) (Nat.le_refl _) ?_
        exact ⟨by unfold entV; rw [if_neg q13, if_neg (by omega), q45] <;> rfl, by unfold entH; rw [if_neg q13, if_neg (by omega), q45] <;> rfl⟩
    · -- 31: not taken
      have q31 : ¬ n < 12 := (not_congr (nI_ltI (b := 12) (by omega) (by decide))).mp c31
      refine e_aload_n aX8_enter_34 rfl ?_
      refine e_iconst (v := 1) aX8_enter_35 (by decide) ?_
      refine e_invvT aX8_enter_36 kX8_62 (zfin X (k := 1) F (by decide)) rfl rfl (fx_is F rfl) (Nat.le_of_ble_eq_true rfl) (Nat.le_of_ble_eq_true rfl) (Nat.le_refl _) (Nat.le_refl _) (Nat.le_of_ble_eq_true rfl) ?_
      refine e_ireturn aX8_enter_39 rfl (Nat.le_refl _) (Nat.le_refl _) ?_
      exact ⟨by unfold entV; rw [if_neg q13, if_pos (by omega)] <;> rfl, by unfold entH; rw [if_neg q13, if_pos (by omega)] <;> rfl⟩
  · -- 13: not taken
    have q13 := (nI_ltI (a := dP d / 3) (b := f) (by omega) (by omega)).mp (Int32.not_le.mp c13)
    refine e_aload_n aX8_enter_16 rfl ?_
    refine e_iconst (v := 3) aX8_enter_17 (by decide) ?_
    refine e_invvT aX8_enter_18 kX8_62 (zfin X (k := 3) F (by decide)) rfl rfl (fx_is F rfl) (Nat.le_of_ble_eq_true rfl) (Nat.le_of_ble_eq_true rfl) (Nat.le_refl _) (Nat.le_refl _) (Nat.le_of_ble_eq_true rfl) ?_
    refine e_ireturn aX8_enter_21 rfl (Nat.le_refl _) (Nat.le_refl _) ?_
    exact ⟨by unfold entV; rw [if_pos q13] <;> rfl, by unfold entH; rw [if_pos q13] <;> rfl⟩
end
section
/-! contracts: small answers of RolledPicks (written by wip/whole/g22.py) -/
/-- a finding is the answer -/
def RF (h : HP) (k : Nat) : Option VV → HP → Prop := Rt (fv k) (fnd h k)
theorem zlfin (X : EX) {h : HP} {k : Nat} (F : Fx h) (hk : k < 8) : Ct X mX8_longFinding 0 0 0 [vR (some 32), vI (nI k)] h (Rt (vL (-1000000000000000001 - lN k)) (fnd h k)) := zX8_longFinding X F hk
def RFL (h : HP) (k : Nat) : Option VV → HP → Prop := Rt (vL (-1000000000000000001 - lN k)) (fnd h k)
theorem ou_of {v : Int32} (N : Nat) (hN : N ≤ 1073741824) (h : ¬ (v < 0 ∨ nI N ≤ v)) : ∃ i, i < N ∧ v = nI i := by
  rcases pk_ix v (n := N) (by omega) with z | z | ⟨j, hj, rfl⟩
  · exact absurd (Or.inl z) h
  · exact absurd (Or.inr z) h
  · exact ⟨j, hj, rfl⟩
theorem wI_s {h : HP} {a i : Nat} {v : Int32} : hI (wI h a i v) a i = v := up2_s
theorem wI_a {h : HP} {a i b j : Nat} {v : Int32} (q : b ≠ a) : hI (wI h a i v) b j = hI h b j := up2_a q
theorem wI_i {h : HP} {a i b j : Nat} {v : Int32} (q : j ≠ i) : hI (wI h a i v) b j = hI h b j := up2_i q
def clubA (a b : Nat) : Nat := [0, 1, 2, 0, 2, 1, 1, 0, 2, 1, 2, 0, 2, 0, 1, 2, 1, 0].getD (a * 3 + b) 0
theorem zX8_order (X : EX) {h : HP} (F : Fx h) (x y : Int32) : Ct X mX8_order 1 0 0 [vR (some 32), vI x, vI y] h (if x < 0 ∨ 6 ≤ x then RF h 0 else if y < 0 ∨ 3 ≤ y then RF h 0 else Rt (vI (nI (clubA x.toNatClampNeg y.toNatClampNeg))) h) := by
  refine ct_of rfl (Nat.le_of_ble_eq_true rfl) ?_
  refine e_iload_n aX8_order_0 rfl ?_
  refine e_bipush (v := 6) aX8_order_1 (by decide) ?_
  refine e_invsT aX8_order_3 kX8_58 (zX8_isOutside X _ _) rfl rfl (Nat.le_of_ble_eq_true rfl) (Nat.le_of_ble_eq_true rfl) (Nat.le_refl _) (Nat.le_refl _) (Nat.le_of_ble_eq_true rfl) ?_
  refine e_if_ne aX8_order_6 (fun c6 => ?_) (fun c6 => ?_)
  · -- 6: taken
    have q6 := Decidable.of_not_not (fun z => c6 (b2_0.mpr z))
    refine e_aload_n aX8_order_17 rfl ?_
    refine e_iconst (v := 0) aX8_order_18 (by decide) ?_
    refine e_invvT aX8_order_19 kX8_62 (zfin X (k := 0) F (by decide)) rfl rfl (fx_is F rfl) (Nat.le_of_ble_eq_true rfl) (Nat.le_of_ble_eq_true rfl) (Nat.le_refl _) (Nat.le_refl _) (Nat.le_of_ble_eq_true rfl) ?_
    refine e_ireturn aX8_order_22 rfl (Nat.le_refl _) (Nat.le_refl _) ?_
    rw [if_pos q6]
    exact ⟨rfl, rfl⟩
  · -- 6: not taken
    have q6 := b2_0.mp c6
    obtain ⟨oz, ho, rfl⟩ := ou_of 6 (by decide) q6
    refine e_iload_n aX8_order_9 rfl ?_
    refine e_iconst (v := 3) aX8_order_10 (by decide) ?_
    refine e_invsT aX8_order_11 kX8_58 (zX8_isOutside X _ _) rfl rfl (Nat.le_of_ble_eq_true rfl) (Nat.le_of_ble_eq_true rfl) (Nat.le_refl _) (Nat.le_refl _) (Nat.le_of_ble_eq_true rfl) ?_
    refine e_if_eq aX8_order_14 (fun c14 => ?_) (fun c14 => ?_)
    · -- 14: taken
      have q14 := b2_0.mp c14
      obtain ⟨pz, hp, rfl⟩ := ou_of 3 (by decide) q14
      refine e_gets (i := 0) aX8_order_23 rfl gX8_66 ?_
      refine e_iload_n aX8_order_26 rfl ?_
      refine e_iconst (v := 3) aX8_order_27 (by decide) ?_
      refine e_imul aX8_order_28 ?_
      refine e_top (nI_mul _ 3) ?_
      refine e_iload_n aX8_order_29 rfl ?_
      refine e_iadd aX8_order_30 ?_
      refine e_top (nI_add _ _) ?_
      refine e_ialoadS aX8_order_31 rfl (vin (N := 18) (by omega)) ?_
      refine e_top (st_club (by omega)) ?_
      refine e_ireturn aX8_order_32 rfl (Nat.le_refl _) (Nat.le_refl _) ?_
      rw [if_neg q6, if_neg q14, cl (by omega), cl (by omega)]
      exact ⟨rfl, rfl⟩
    · -- 14: not taken
      have q14 := Decidable.of_not_not (fun z => c14 (b2_0.mpr z))
      refine e_aload_n aX8_order_17 rfl ?_
      refine e_iconst (v := 0) aX8_order_18 (by decide) ?_
      refine e_invvT aX8_order_19 kX8_62 (zfin X (k := 0) F (by decide)) rfl rfl (fx_is F rfl) (Nat.le_of_ble_eq_true rfl) (Nat.le_of_ble_eq_true rfl) (Nat.le_refl _) (Nat.le_refl _) (Nat.le_of_ble_eq_true rfl) ?_
      refine e_ireturn aX8_order_22 rfl (Nat.le_refl _) (Nat.le_refl _) ?_
      rw [if_neg q6, if_pos q14]
      exact ⟨rfl, rfl⟩
theorem zX8_place (X : EX) {h : HP} (F : Fx h) (x y : Int32) : Ct X mX8_place 1 0 0 [vR (some 32), vI x, vI y] h (if x < 0 ∨ 1296 ≤ x then RF h 0 else if y < 0 ∨ 12 ≤ y then RF h 0 else Rt (vI (nI (pl x.toNatClampNeg y.toNatClampNeg))) h) := by
  refine ct_of rfl (Nat.le_of_ble_eq_true rfl) ?_
  refine e_iload_n aX8_place_0 rfl ?_
  refine e_sipush (v := 1296) aX8_place_1 (by decide) ?_
  refine e_invsT aX8_place_4 kX8_58 (zX8_isOutside X _ _) rfl rfl (Nat.le_of_ble_eq_true rfl) (Nat.le_of_ble_eq_true rfl) (Nat.le_refl _) (Nat.le_refl _) (Nat.le_of_ble_eq_true rfl) ?_
  refine e_if_ne aX8_place_7 (fun c7 => ?_) (fun c7 => ?_)
  · -- 7: taken
    have q7 := Decidable.of_not_not (fun z => c7 (b2_0.mpr z))
    refine e_aload_n aX8_place_19 rfl ?_
    refine e_iconst (v := 0) aX8_place_20 (by decide) ?_
    refine e_invvT aX8_place_21 kX8_62 (zfin X (k := 0) F (by decide)) rfl rfl (fx_is F rfl) (Nat.le_of_ble_eq_true rfl) (Nat.le_of_ble_eq_true rfl) (Nat.le_refl _) (Nat.le_refl _) (Nat.le_of_ble_eq_true rfl) ?_
    refine e_ireturn aX8_place_24 rfl (Nat.le_refl _) (Nat.le_refl _) ?_
    rw [if_pos q7]
    exact ⟨rfl, rfl⟩
  · -- 7: not taken
    have q7 := b2_0.mp c7
    obtain ⟨oz, ho, rfl⟩ := ou_of 1296 (by decide) q7
    refine e_iload_n aX8_place_10 rfl ?_
    refine e_bipush (v := 12) aX8_place_11 (by decide) ?_
    refine e_invsT aX8_place_13 kX8_58 (zX8_isOutside X _ _) rfl rfl (Nat.le_of_ble_eq_true rfl) (Nat.le_of_ble_eq_true rfl) (Nat.le_refl _) (Nat.le_refl _) (Nat.le_of_ble_eq_true rfl) ?_
    refine e_if_eq aX8_place_16 (fun c16 => ?_) (fun c16 => ?_)
    · -- 16: taken
      have q16 := b2_0.mp c16
      obtain ⟨pz, hp, rfl⟩ := ou_of 12 (by decide) q16
      refine e_iload_n aX8_place_25 rfl ?_
      refine e_iload_n aX8_place_26 rfl ?_
      refine e_invsT aX8_place_27 kX8_69 (zX8_placeUnder X ho hp) rfl rfl (Nat.le_of_ble_eq_true rfl) (Nat.le_of_ble_eq_true rfl) (Nat.le_refl _) (Nat.le_refl _) (Nat.le_of_ble_eq_true rfl) ?_
      refine e_ireturn aX8_place_30 rfl (Nat.le_refl _) (Nat.le_refl _) ?_
      rw [if_neg q7, if_neg q16, cl (by omega), cl (by omega)]
      exact ⟨rfl, rfl⟩
    · -- 16: not taken
      have q16 := Decidable.of_not_not (fun z => c16 (b2_0.mpr z))
      refine e_aload_n aX8_place_19 rfl ?_
      refine e_iconst (v := 0) aX8_place_20 (by decide) ?_
      refine e_invvT aX8_place_21 kX8_62 (zfin X (k := 0) F (by decide)) rfl rfl (fx_is F rfl) (Nat.le_of_ble_eq_true rfl) (Nat.le_of_ble_eq_true rfl) (Nat.le_refl _) (Nat.le_refl _) (Nat.le_of_ble_eq_true rfl) ?_
      refine e_ireturn aX8_place_24 rfl (Nat.le_refl _) (Nat.le_refl _) ?_
      rw [if_neg q7, if_pos q16]
      exact ⟨rfl, rfl⟩
theorem zX8_fall (X : EX) {h : HP} (F : Fx h) {f : Nat} {o : Nat → Nat} (bf : BkF h f o) (x : Int32) : Ct X mX8_fall 1 0 0 [vR (some 32), vI x] h (if x < 0 ∨ 6 ≤ x then RF h 0 else if 4 ≤ f then RF h 3 else Rt (vI (nI (f + 1))) (wI (wI h 35 f x) 33 3 (nI (f + 1)))) := by
  refine ct_of rfl (Nat.le_of_ble_eq_true rfl) ?_
  have hf4 := bf.2.1
  refine e_iload_n aX8_fall_0 rfl ?_
  refine e_bipush (v := 6) aX8_fall_1 (by decide) ?_
  refine e_invsT aX8_fall_3 kX8_58 (zX8_isOutside X _ _) rfl rfl (Nat.le_of_ble_eq_true rfl) (Nat.le_of_ble_eq_true rfl) (Nat.le_refl _) (Nat.le_refl _) (Nat.le_of_ble_eq_true rfl) ?_
  refine e_if_eq aX8_fall_6 (fun c6 => ?_) (fun c6 => ?_)
  · -- 6: taken
    have q6 := b2_0.mp c6
    refine e_aload_n aX8_fall_15 rfl ?_
    refine e_getRF aX8_fall_16 fX8_10 rfl (fx_is F rfl) (fx_r (b := 33) F rfl) ?_
    refine e_getIF aX8_fall_19 fX8_73 rfl (fx_is F rfl) bf.1 ?_
    refine e_iconst (v := 4) aX8_fall_22 (by decide) ?_
    refine e_icmp_lt aX8_fall_23 (fun c23 => ?_) (fun c23 => ?_)
    · -- 23: taken
      have q23 : ¬ 4 ≤ f := Nat.not_le.mpr ((nI_ltI (a := f) (b := 4) (by omega) (by decide)).mp c23)
      refine e_aload_n aX8_fall_32 rfl ?_
      refine e_getRF aX8_fall_33 fX8_10 rfl (fx_is F rfl) (fx_r (b := 33) F rfl) ?_
      refine e_getRF aX8_fall_36 fX8_77 rfl (fx_is F rfl) (fx_r (b := 35) F rfl) ?_
      refine e_aload_n aX8_fall_39 rfl ?_
      refine e_getRF aX8_fall_40 fX8_10 rfl (fx_is F rfl) (fx_r (b := 33) F rfl) ?_
      refine e_getIF aX8_fall_43 fX8_73 rfl (fx_is F rfl) bf.1 ?_
      refine e_iload_n aX8_fall_46 rfl ?_
      refine e_iastoreF aX8_fall_47 (fx_is F rfl) (fx_n (n := 4) F rfl) (vin (N := 4) (by omega)) ?_
      rw [cl (by omega)]
      refine e_aload_n aX8_fall_48 rfl ?_
      refine e_getRF aX8_fall_49 fX8_10 rfl (fx_is F rfl) (fx_r (b := 33) F rfl) ?_
      refine e_dup aX8_fall_52 rfl ?_
      refine e_getIF aX8_fall_53 fX8_73 rfl (fx_is F rfl) bf.1 ?_
      refine e_iconst (v := 1) aX8_fall_56 (by decide) ?_
      refine e_iadd aX8_fall_57 ?_
      refine e_top (nI_1 f) ?_
      refine e_putI aX8_fall_58 fX8_73 rfl (fx_is F rfl) (Or.inl rfl) ?_
      refine e_aload_n aX8_fall_61 rfl ?_
      refine e_getRF aX8_fall_62 fX8_10 rfl (fx_is F rfl) (fx_r (b := 33) F rfl) ?_
      refine e_getIF aX8_fall_65 fX8_73 rfl (fx_is F rfl) wI_s ?_
      refine e_ireturn aX8_fall_68 rfl (Nat.le_refl _) (Nat.le_refl _) ?_
      rw [if_neg q6, if_neg q23]
      exact ⟨rfl, rfl⟩
    · -- 23: not taken
      have q23 : 4 ≤ f := Nat.not_lt.mp ((not_congr (nI_ltI (a := f) (b := 4) (by omega) (by decide))).mp c23)
      refine e_aload_n aX8_fall_26 rfl ?_
      refine e_iconst (v := 3) aX8_fall_27 (by decide) ?_
      refine e_invvT aX8_fall_28 kX8_62 (zfin X (k := 3) F (by decide)) rfl rfl (fx_is F rfl) (Nat.le_of_ble_eq_true rfl) (Nat.le_of_ble_eq_true rfl) (Nat.le_refl _) (Nat.le_refl _) (Nat.le_of_ble_eq_true rfl) ?_
      refine e_ireturn aX8_fall_31 rfl (Nat.le_refl _) (Nat.le_refl _) ?_
      rw [if_neg q6, if_pos q23]
      exact ⟨rfl, rfl⟩
  · -- 6: not taken
    have q6 := Decidable.of_not_not (fun z => c6 (b2_0.mpr z))
    refine e_aload_n aX8_fall_9 rfl ?_
    refine e_iconst (v := 0) aX8_fall_10 (by decide) ?_
    refine e_invvT aX8_fall_11 kX8_62 (zfin X (k := 0) F (by decide)) rfl rfl (fx_is F rfl) (Nat.le_of_ble_eq_true rfl) (Nat.le_of_ble_eq_true rfl) (Nat.le_refl _) (Nat.le_refl _) (Nat.le_of_ble_eq_true rfl) ?_
    refine e_ireturn aX8_fall_14 rfl (Nat.le_refl _) (Nat.le_refl _) ?_
    rw [if_pos q6]
    exact ⟨rfl, rfl⟩
theorem zX8_fallen (X : EX) {h : HP} (F : Fx h) {f : Nat} {o : Nat → Nat} (bf : BkF h f o) (x : Int32) : Ct X mX8_fallen 1 0 0 [vR (some 32), vI x] h (if x < 0 ∨ 4 ≤ x then RF h 0 else if x.toNatClampNeg < f then Rt (vI (nI (o x.toNatClampNeg))) h else RF h 3) := by
  refine ct_of rfl (Nat.le_of_ble_eq_true rfl) ?_
  have hf4 := bf.2.1
  refine e_iload_n aX8_fallen_0 rfl ?_
  refine e_iconst (v := 4) aX8_fallen_1 (by decide) ?_
  refine e_invsT aX8_fallen_2 kX8_58 (zX8_isOutside X _ _) rfl rfl (Nat.le_of_ble_eq_true rfl) (Nat.le_of_ble_eq_true rfl) (Nat.le_refl _) (Nat.le_refl _) (Nat.le_of_ble_eq_true rfl) ?_
  refine e_if_eq aX8_fallen_5 (fun c5 => ?_) (fun c5 => ?_)
  · -- 5: taken
    have q5 := b2_0.mp c5
    obtain ⟨yz, hy, rfl⟩ := ou_of 4 (by decide) q5
    refine e_iload_n aX8_fallen_14 rfl ?_
    refine e_aload_n aX8_fallen_15 rfl ?_
    refine e_getRF aX8_fallen_16 fX8_10 rfl (fx_is F rfl) (fx_r (b := 33) F rfl) ?_
    refine e_getIF aX8_fallen_19 fX8_73 rfl (fx_is F rfl) bf.1 ?_
    refine e_icmp_ge aX8_fallen_22 (fun c22 => ?_) (fun c22 => ?_)
    · -- 22: taken
      have q22 := (not_congr (nI_ltI (a := yz) (b := f) (by omega) (by omega))).mp (Int32.not_lt.mpr c22)
      refine e_aload_n aX8_fallen_37 rfl ?_
      refine e_iconst (v := 3) aX8_fallen_38 (by decide) ?_
      refine e_invvT aX8_fallen_39 kX8_62 (zfin X (k := 3) F (by decide)) rfl rfl (fx_is F rfl) (Nat.le_of_ble_eq_true rfl) (Nat.le_of_ble_eq_true rfl) (Nat.le_refl _) (Nat.le_refl _) (Nat.le_of_ble_eq_true rfl) ?_
      refine e_ireturn aX8_fallen_42 rfl (Nat.le_refl _) (Nat.le_refl _) ?_
      rw [if_neg q5, cl (by omega), if_neg q22]
      exact ⟨rfl, rfl⟩
    · -- 22: not taken
      have q22 := (nI_ltI (a := yz) (b := f) (by omega) (by omega)).mp (Int32.not_le.mp c22)
      refine e_aload_n aX8_fallen_25 rfl ?_
      refine e_getRF aX8_fallen_26 fX8_10 rfl (fx_is F rfl) (fx_r (b := 33) F rfl) ?_
      refine e_getRF aX8_fallen_29 fX8_77 rfl (fx_is F rfl) (fx_r (b := 35) F rfl) ?_
      refine e_iload_n aX8_fallen_32 rfl ?_
      refine e_ialoadF aX8_fallen_33 (fx_is F rfl) (fx_n (n := 4) F rfl) (vin (N := 4) (by omega)) (show hI h 35 (nI yz).toNatClampNeg = nI (o yz) by rw [cl (by omega)]; exact bf.2.2.1 _ q22) ?_
      refine e_goto aX8_fallen_34 ?_
      refine e_ireturn aX8_fallen_42 rfl (Nat.le_refl _) (Nat.le_refl _) ?_
      rw [if_neg q5, cl (by omega), if_pos q22]
      exact ⟨rfl, rfl⟩
  · -- 5: not taken
    have q5 := Decidable.of_not_not (fun z => c5 (b2_0.mpr z))
    refine e_aload_n aX8_fallen_8 rfl ?_
    refine e_iconst (v := 0) aX8_fallen_9 (by decide) ?_
    refine e_invvT aX8_fallen_10 kX8_62 (zfin X (k := 0) F (by decide)) rfl rfl (fx_is F rfl) (Nat.le_of_ble_eq_true rfl) (Nat.le_of_ble_eq_true rfl) (Nat.le_refl _) (Nat.le_refl _) (Nat.le_of_ble_eq_true rfl) ?_
    refine e_ireturn aX8_fallen_13 rfl (Nat.le_refl _) (Nat.le_refl _) ?_
    rw [if_pos q5]
    exact ⟨rfl, rfl⟩
theorem om_le {f : Nat} (h : f ≤ 4) : om f < 2 ^ 31 := by
  have : f = 0 ∨ f = 1 ∨ f = 2 ∨ f = 3 ∨ f = 4 := by omega
  rcases this with rfl | rfl | rfl | rfl | rfl <;> decide
/-- one number drawn from z -/
def dz (z : Int32) (a b : Nat) : Int32 := nI a + ((z.toUInt32 >>> ((8 : Int32).toUInt32 &&& Int32.toUInt32 31)).toInt32 - (z.toUInt32 >>> ((8 : Int32).toUInt32 &&& Int32.toUInt32 31)).toInt32 / nI b * nI b)
theorem zX8_draw (X : EX) {h : HP} (F : Fx h) {f : Nat} {o : Nat → Nat} (bf : BkF h f o) : Ct X mX8_draw 1 0 0 [vR (some 32)] h (Rt (vI (dz (hI h 33 5 * 1103515245 + 12345) (fo o f) (om f))) (wI h 33 5 (hI h 33 5 * 1103515245 + 12345))) := by
  refine ct_of rfl (Nat.le_of_ble_eq_true rfl) ?_
  have hf4 := bf.2.1
  have hbf : BkF (wI h 33 5 (hI h 33 5 * 1103515245 + 12345)) f o := ⟨(wI_i (by decide)).trans bf.1, hf4, fun y q => (wI_a (by decide)).trans (bf.2.2.1 y q), bf.2.2.2⟩
  refine e_aload_n aX8_draw_0 rfl ?_
  refine e_getRF aX8_draw_1 fX8_10 rfl (fx_is F rfl) (fx_r (b := 33) F rfl) ?_
  refine e_aload_n aX8_draw_4 rfl ?_
  refine e_getRF aX8_draw_5 fX8_10 rfl (fx_is F rfl) (fx_r (b := 33) F rfl) ?_
  refine e_getI aX8_draw_8 fX8_80 rfl (fx_is F rfl) ?_
  refine e_ldc aX8_draw_11 lX8_83 ?_
  refine e_imul aX8_draw_13 ?_
  refine e_sipush (v := 12345) aX8_draw_14 (by decide) ?_
  refine e_iadd aX8_draw_17 ?_
  refine e_putI aX8_draw_18 fX8_80 rfl (fx_is F rfl) (Or.inl rfl) ?_
  refine e_aload_n aX8_draw_21 rfl ?_
  refine e_getRF aX8_draw_22 fX8_10 rfl (fx_is F rfl) (fx_r (b := 33) F rfl) ?_
  refine e_invvT aX8_draw_25 kX8_84 (zX0_firstOpen X (h := wI h 33 5 (hI h 33 5 * 1103515245 + 12345)) F (f := f) (o := o) hbf) rfl rfl (fx_is F rfl) (Nat.le_of_ble_eq_true rfl) (Nat.le_of_ble_eq_true rfl) (Nat.le_refl _) (Nat.le_refl _) (Nat.le_of_ble_eq_true rfl) ?_
  refine e_aload_n aX8_draw_28 rfl ?_
  refine e_getRF aX8_draw_29 fX8_10 rfl (fx_is F rfl) (fx_r (b := 33) F rfl) ?_
  refine e_getIF aX8_draw_32 fX8_80 rfl (fx_is F rfl) wI_s ?_
  refine e_bipush (v := 8) aX8_draw_35 (by decide) ?_
  refine e_iushr aX8_draw_37 ?_
  refine e_aload_n aX8_draw_38 rfl ?_
  refine e_getRF aX8_draw_39 fX8_10 rfl (fx_is F rfl) (fx_r (b := 33) F rfl) ?_
  refine e_invvT aX8_draw_42 kX8_88 (zX0_openCount X (h := wI h 33 5 (hI h 33 5 * 1103515245 + 12345)) F (f := f) (o := o) hbf) rfl rfl (fx_is F rfl) (Nat.le_of_ble_eq_true rfl) (Nat.le_of_ble_eq_true rfl) (Nat.le_refl _) (Nat.le_refl _) (Nat.le_of_ble_eq_true rfl) ?_
  refine e_irem aX8_draw_45 (nI_ne0 (om_pos hf4) (om_le hf4)) ?_
  refine e_iadd aX8_draw_46 ?_
  refine e_ireturn aX8_draw_47 rfl (Nat.le_refl _) (Nat.le_refl _) ?_
  exact ⟨rfl, rfl⟩
theorem zX8_clash (X : EX) {h : HP} (F : Fx h) (x : Int32) : Ct X mX8_clash 1 0 0 [vR (some 32), vI x] h (if x < 0 ∨ 3 ≤ x then RF h 0 else Rt (vI (hI h 75 x.toNatClampNeg)) h) := by
  refine ct_of rfl (Nat.le_of_ble_eq_true rfl) ?_
  refine e_iload_n aX8_clash_0 rfl ?_
  refine e_aload_n aX8_clash_1 rfl ?_
  refine e_getRF aX8_clash_2 fX8_46 rfl (fx_is F rfl) (fx_r (b := 75) F rfl) ?_
  refine e_alen (t := 13) aX8_clash_5 (fx_is F rfl) (Nat.le_of_ble_eq_true rfl) (Nat.le_of_ble_eq_true rfl) ?_
  refine e_top (show nI (hN h 75) = 3 from congrArg nI (fx_n (a := 75) F rfl)) ?_
  refine e_invsT aX8_clash_6 kX8_58 (zX8_isOutside X _ _) rfl rfl (Nat.le_of_ble_eq_true rfl) (Nat.le_of_ble_eq_true rfl) (Nat.le_refl _) (Nat.le_refl _) (Nat.le_of_ble_eq_true rfl) ?_
  refine e_if_eq aX8_clash_9 (fun c9 => ?_) (fun c9 => ?_)
  · -- 9: taken
    have q9 := b2_0.mp c9
    obtain ⟨wz, hw, rfl⟩ := ou_of 3 (by decide) q9
    refine e_aload_n aX8_clash_20 rfl ?_
    refine e_getRF aX8_clash_21 fX8_46 rfl (fx_is F rfl) (fx_r (b := 75) F rfl) ?_
    refine e_iload_n aX8_clash_24 rfl ?_
    refine e_ialoadF aX8_clash_25 (fx_is F rfl) (fx_n (n := 3) F rfl) (vin hw) rfl ?_
    refine e_ireturn aX8_clash_26 rfl (Nat.le_refl _) (Nat.le_refl _) ?_
    rw [if_neg q9]
    exact ⟨rfl, rfl⟩
  · -- 9: not taken
    have q9 := Decidable.of_not_not (fun z => c9 (b2_0.mpr z))
    refine e_aload_n aX8_clash_12 rfl ?_
    refine e_iconst (v := 0) aX8_clash_13 (by decide) ?_
    refine e_invvT aX8_clash_14 kX8_62 (zfin X (k := 0) F (by decide)) rfl rfl (fx_is F rfl) (Nat.le_of_ble_eq_true rfl) (Nat.le_of_ble_eq_true rfl) (Nat.le_refl _) (Nat.le_refl _) (Nat.le_of_ble_eq_true rfl) ?_
    refine e_goto aX8_clash_17 ?_
    refine e_ireturn aX8_clash_26 rfl (Nat.le_refl _) (Nat.le_refl _) ?_
    rw [if_pos q9]
    exact ⟨rfl, rfl⟩
theorem zX8_price (X : EX) {h : HP} (F : Fx h) (x y : Int32) : Ct X mX8_price 1 0 0 [vR (some 32), vI x, vI y] h (if x < 0 ∨ 3 ≤ x then RF h 0 else if y < 0 ∨ 1000 ≤ y then RF h 0 else Rt (vI (hI h 36 x.toNatClampNeg)) (wI h 36 x.toNatClampNeg y)) := by
  refine ct_of rfl (Nat.le_of_ble_eq_true rfl) ?_
  refine e_iload_n aX8_price_0 rfl ?_
  refine e_iconst (v := 3) aX8_price_1 (by decide) ?_
  refine e_invsT aX8_price_2 kX8_58 (zX8_isOutside X _ _) rfl rfl (Nat.le_of_ble_eq_true rfl) (Nat.le_of_ble_eq_true rfl) (Nat.le_refl _) (Nat.le_refl _) (Nat.le_of_ble_eq_true rfl) ?_
  refine e_if_ne aX8_price_5 (fun c5 => ?_) (fun c5 => ?_)
  · -- 5: taken
    have q5 := Decidable.of_not_not (fun z => c5 (b2_0.mpr z))
    refine e_aload_n aX8_price_18 rfl ?_
    refine e_iconst (v := 0) aX8_price_19 (by decide) ?_
    refine e_invvT aX8_price_20 kX8_62 (zfin X (k := 0) F (by decide)) rfl rfl (fx_is F rfl) (Nat.le_of_ble_eq_true rfl) (Nat.le_of_ble_eq_true rfl) (Nat.le_refl _) (Nat.le_refl _) (Nat.le_of_ble_eq_true rfl) ?_
    refine e_ireturn aX8_price_23 rfl (Nat.le_refl _) (Nat.le_refl _) ?_
    rw [if_pos q5]
    exact ⟨rfl, rfl⟩
  · -- 5: not taken
    have q5 := b2_0.mp c5
    obtain ⟨iz, hi3, rfl⟩ := ou_of 3 (by decide) q5
    refine e_iload_n aX8_price_8 rfl ?_
    refine e_sipush (v := 1000) aX8_price_9 (by decide) ?_
    refine e_invsT aX8_price_12 kX8_58 (zX8_isOutside X _ _) rfl rfl (Nat.le_of_ble_eq_true rfl) (Nat.le_of_ble_eq_true rfl) (Nat.le_refl _) (Nat.le_refl _) (Nat.le_of_ble_eq_true rfl) ?_
    refine e_if_eq aX8_price_15 (fun c15 => ?_) (fun c15 => ?_)
    · -- 15: taken
      have q15 := b2_0.mp c15
      refine e_aload_n aX8_price_24 rfl ?_
      refine e_getRF aX8_price_25 fX8_10 rfl (fx_is F rfl) (fx_r (b := 33) F rfl) ?_
      refine e_getRF aX8_price_28 fX8_184 rfl (fx_is F rfl) (fx_r (b := 36) F rfl) ?_
      refine e_iload_n aX8_price_31 rfl ?_
      refine e_ialoadF aX8_price_32 (fx_is F rfl) (fx_n (n := 3) F rfl) (vin (N := 3) hi3) rfl ?_
      refine e_istore_n aX8_price_33 (Nat.le_of_ble_eq_true rfl) ?_
      refine e_aload_n aX8_price_34 rfl ?_
      refine e_getRF aX8_price_35 fX8_10 rfl (fx_is F rfl) (fx_r (b := 33) F rfl) ?_
      refine e_getRF aX8_price_38 fX8_184 rfl (fx_is F rfl) (fx_r (b := 36) F rfl) ?_
      refine e_iload_n aX8_price_41 rfl ?_
      refine e_iload_n aX8_price_42 rfl ?_
      refine e_iastoreF aX8_price_43 (fx_is F rfl) (fx_n (n := 3) F rfl) (vin hi3) ?_
      refine e_iload_n aX8_price_44 rfl ?_
      refine e_ireturn aX8_price_45 rfl (Nat.le_refl _) (Nat.le_refl _) ?_
      rw [if_neg q5, if_neg q15]
      exact ⟨rfl, rfl⟩
    · -- 15: not taken
      have q15 := Decidable.of_not_not (fun z => c15 (b2_0.mpr z))
      refine e_aload_n aX8_price_18 rfl ?_
      refine e_iconst (v := 0) aX8_price_19 (by decide) ?_
      refine e_invvT aX8_price_20 kX8_62 (zfin X (k := 0) F (by decide)) rfl rfl (fx_is F rfl) (Nat.le_of_ble_eq_true rfl) (Nat.le_of_ble_eq_true rfl) (Nat.le_refl _) (Nat.le_refl _) (Nat.le_of_ble_eq_true rfl) ?_
      refine e_ireturn aX8_price_23 rfl (Nat.le_refl _) (Nat.le_refl _) ?_
      rw [if_neg q5, if_pos q15]
      exact ⟨rfl, rfl⟩
theorem zX8_seed (X : EX) {h : HP} (F : Fx h) (x : Int32) : Ct X mX8_seed 0 0 0 [vR (some 32), vI x] h (Rt (vI (hI h 33 5)) (wI h 33 5 x)) := by
  refine ct_of rfl (Nat.le_of_ble_eq_true rfl) ?_
  refine e_aload_n aX8_seed_0 rfl ?_
  refine e_getRF aX8_seed_1 fX8_10 rfl (fx_is F rfl) (fx_r (b := 33) F rfl) ?_
  refine e_getI aX8_seed_4 fX8_80 rfl (fx_is F rfl) ?_
  refine e_istore_n aX8_seed_7 (Nat.le_of_ble_eq_true rfl) ?_
  refine e_aload_n aX8_seed_8 rfl ?_
  refine e_getRF aX8_seed_9 fX8_10 rfl (fx_is F rfl) (fx_r (b := 33) F rfl) ?_
  refine e_iload_n aX8_seed_12 rfl ?_
  refine e_putI aX8_seed_13 fX8_80 rfl (fx_is F rfl) (Or.inl rfl) ?_
  refine e_iload_n aX8_seed_16 rfl ?_
  refine e_ireturn aX8_seed_17 rfl (Nat.le_refl _) (Nat.le_refl _) ?_
  exact ⟨rfl, rfl⟩
theorem zX8_wipe (X : EX) {h : HP} (F : Fx h) : Ct X mX8_wipe 0 0 0 [vR (some 32)] h (Rt (vI (hI h 41 1)) (wI h 41 1 0)) := by
  refine ct_of rfl (Nat.le_of_ble_eq_true rfl) ?_
  refine e_aload_n aX8_wipe_0 rfl ?_
  refine e_getRF aX8_wipe_1 fX8_30 rfl (fx_is F rfl) (fx_r (b := 40) F rfl) ?_
  refine e_getRF aX8_wipe_4 fX8_108 rfl (fx_is F rfl) (fx_r (b := 41) F rfl) ?_
  refine e_getI aX8_wipe_7 fX8_112 rfl (fx_is F rfl) ?_
  refine e_istore_n aX8_wipe_10 (Nat.le_of_ble_eq_true rfl) ?_
  refine e_aload_n aX8_wipe_11 rfl ?_
  refine e_getRF aX8_wipe_12 fX8_30 rfl (fx_is F rfl) (fx_r (b := 40) F rfl) ?_
  refine e_getRF aX8_wipe_15 fX8_108 rfl (fx_is F rfl) (fx_r (b := 41) F rfl) ?_
  refine e_iconst (v := 0) aX8_wipe_18 (by decide) ?_
  refine e_putI aX8_wipe_19 fX8_112 rfl (fx_is F rfl) (Or.inl rfl) ?_
  refine e_iload_n aX8_wipe_22 rfl ?_
  refine e_ireturn aX8_wipe_23 rfl (Nat.le_refl _) (Nat.le_refl _) ?_
  exact ⟨rfl, rfl⟩
def fsum (h : HP) : Nat → Int32
  | 0 => 0
  | i + 1 => fsum h i + hI h 76 i
theorem zX8_status (X : EX) {h : HP} (F : Fx h) (x : Int32) : Ct X mX8_status 1 0 0 [vR (some 32), vI x] h (if x = -1 then Rt (vI (fsum h 8)) h else if x < 0 ∨ 8 ≤ x then RF h 0 else Rt (vI (hI h 76 x.toNatClampNeg)) h) := by
  refine ct_of rfl (Nat.le_of_ble_eq_true rfl) ?_
  have loop : x = -1 → ∀ (m : Nat) (k : Nat), k + m = 8 → Ev X mX8_status 1 0 0 (if x = -1 then Rt (vI (fsum h 8)) h else if x < 0 ∨ 8 ≤ x then RF h 0 else Rt (vI (hI h 76 x.toNatClampNeg)) h) 0 0 9 [(0, some (vR (some 32))), (1, some (vI x)), (2, some (vI (fsum h k))), (3, some (vI (nI k)))] [] h := by
    intro q2 m
    induction m with
    | zero =>
      intro k hk
      obtain rfl : k = 8 := by omega
      refine e_iload_n aX8_status_9 rfl ?_
      refine e_bipush (v := 8) aX8_status_10 (by decide) ?_
      refine e_icmp_ge aX8_status_12 (fun c12 => ?_) (fun c12 => ?_)
      · -- 12: taken
        refine e_iload_n aX8_status_30 rfl ?_
        refine e_ireturn aX8_status_31 rfl (Nat.le_refl _) (Nat.le_refl _) ?_
        rw [if_pos q2]
        exact ⟨rfl, rfl⟩
      · -- 12: not taken
        exact absurd (nI_le (a := 8) (b := 8) (by decide) (by decide)) c12
    | succ m ih =>
      intro k hk
      refine e_iload_n aX8_status_9 rfl ?_
      refine e_bipush (v := 8) aX8_status_10 (by decide) ?_
      refine e_icmp_ge aX8_status_12 (fun c12 => ?_) (fun c12 => ?_)
      · -- 12: taken
        exact absurd c12 (nI_ge (a := k) (b := 8) (by omega) (by decide))
      · -- 12: not taken
        refine e_iload_n aX8_status_15 rfl ?_
        refine e_aload_n aX8_status_16 rfl ?_
        refine e_getRF aX8_status_17 fX8_50 rfl (fx_is F rfl) (fx_r (b := 76) F rfl) ?_
        refine e_iload_n aX8_status_20 rfl ?_
        refine e_ialoadF aX8_status_21 (fx_is F rfl) (fx_n (n := 8) F rfl) (vin (N := 8) (by omega)) (show hI h 76 (nI k).toNatClampNeg = hI h 76 k by rw [cl (by omega)]) ?_
        refine e_iadd aX8_status_22 ?_
        refine e_istore_n aX8_status_23 (Nat.le_of_ble_eq_true rfl) ?_
        refine e_iinc aX8_status_24 rfl rfl (Nat.le_of_ble_eq_true rfl) ?_
        refine e_goto aX8_status_27 ?_
        refine e_ls (ls' := [(0, some (vR (some 32))), (1, some (vI x)), (2, some (vI (fsum h (k + 1)))), (3, some (vI (nI (k + 1))))]) ⟨rfl, rfl, rfl, congrArg (fun x => some (vI x)) (nI_1 k), trivial⟩ ?_
        exact ih (k + 1) (by omega)
  refine e_iload_n aX8_status_0 rfl ?_
  refine e_iconst (v := -1) aX8_status_1 (by decide) ?_
  refine e_icmp_ne aX8_status_2 (fun c2 => ?_) (fun c2 => ?_)
  · -- 2: taken
    have q2 := c2
    refine e_iload_n aX8_status_32 rfl ?_
    refine e_bipush (v := 8) aX8_status_33 (by decide) ?_
    refine e_invsT aX8_status_35 kX8_58 (zX8_isOutside X _ _) rfl rfl (Nat.le_of_ble_eq_true rfl) (Nat.le_of_ble_eq_true rfl) (Nat.le_refl _) (Nat.le_refl _) (Nat.le_of_ble_eq_true rfl) ?_
    refine e_if_eq aX8_status_38 (fun c38 => ?_) (fun c38 => ?_)
    · -- 38: taken
      have q38 := b2_0.mp c38
      obtain ⟨iz, hi8, rfl⟩ := ou_of 8 (by decide) q38
      refine e_aload_n aX8_status_49 rfl ?_
      refine e_getRF aX8_status_50 fX8_50 rfl (fx_is F rfl) (fx_r (b := 76) F rfl) ?_
      refine e_iload_n aX8_status_53 rfl ?_
      refine e_ialoadF aX8_status_54 (fx_is F rfl) (fx_n (n := 8) F rfl) (vin hi8) rfl ?_
      refine e_ireturn aX8_status_55 rfl (Nat.le_refl _) (Nat.le_refl _) ?_
      rw [if_neg q2, if_neg q38]
      exact ⟨rfl, rfl⟩
    · -- 38: not taken
      have q38 := Decidable.of_not_not (fun z => c38 (b2_0.mpr z))
      refine e_aload_n aX8_status_41 rfl ?_
      refine e_iconst (v := 0) aX8_status_42 (by decide) ?_
      refine e_invvT aX8_status_43 kX8_62 (zfin X (k := 0) F (by decide)) rfl rfl (fx_is F rfl) (Nat.le_of_ble_eq_true rfl) (Nat.le_of_ble_eq_true rfl) (Nat.le_refl _) (Nat.le_refl _) (Nat.le_of_ble_eq_true rfl) ?_
      refine e_goto aX8_status_46 ?_
      refine e_ireturn aX8_status_55 rfl (Nat.le_refl _) (Nat.le_refl _) ?_
      rw [if_neg q2, if_pos q38]
      exact ⟨rfl, rfl⟩
  · -- 2: not taken
    have q2 : x = -1 := c2
    refine e_iconst (v := 0) aX8_status_5 (by decide) ?_
    refine e_istore_n aX8_status_6 (Nat.le_of_ble_eq_true rfl) ?_
    refine e_iconst (v := 0) aX8_status_7 (by decide) ?_
    refine e_istore_n aX8_status_8 (Nat.le_of_ble_eq_true rfl) ?_
    refine e_ls (ls' := [(0, some (vR (some 32))), (1, some (vI x)), (2, some (vI (fsum h 0))), (3, some (vI (nI 0)))]) ⟨rfl, rfl, rfl, rfl, trivial⟩ ?_
    exact loop q2 8 0 (by omega)
end
section
/-! contracts: counts, deals told (written by wip/whole/g23.py) -/
/-- how many, and the first, of a run -/
def cnW (P : Nat → Bool) (a : Nat) : Nat → Nat
  | 0 => 0
  | m + 1 => cnW P a m + (if P (a + m) = true then 1 else 0)
def frW (P : Nat → Bool) (a : Nat) : Nat → Option Nat
  | 0 => none
  | m + 1 => if P a = true then some a else frW P (a + 1) m
theorem cnW_le {P : Nat → Bool} {a : Nat} : ∀ m, cnW P a m ≤ m := by
  intro m
  induction m with
  | zero => exact Nat.le_refl _
  | succ m ih =>
    unfold cnW
    split <;> omega
theorem cnW_t {P : Nat → Bool} {a m : Nat} (z : P (a + m) = true) : cnW P a (m + 1) = cnW P a m + 1 := by
  show _ + _ = _
  rw [if_pos z]
theorem cnW_f {P : Nat → Bool} {a m : Nat} (z : P (a + m) = false) : cnW P a (m + 1) = cnW P a m := by
  show _ + _ = _
  rw [if_neg (by rw [z]; decide)]
  rfl
theorem sw_out {x v : Int32} {hi9 : Int} (hh : hi9 < v.toInt) (q : x < 0 ∨ v ≤ x) : x.toInt < 0 ∨ hi9 < x.toInt := by
  rcases q with z | z
  · left
    have := Int32.lt_iff_toInt_lt.mp z
    exact this
  · right
    have := Int32.le_iff_toInt_le.mp z
    omega
theorem frW_some {P : Nat → Bool} : ∀ {m a j : Nat}, frW P a m = some j → P j = true ∧ a ≤ j ∧ j < a + m := by
  intro m
  induction m with
  | zero => intro a j z; cases z
  | succ m ih =>
    intro a j z
    unfold frW at z
    split at z
    · cases z
      exact ⟨by assumption, Nat.le_refl _, by omega⟩
    · have := ih z
      exact ⟨this.1, by omega, by omega⟩
theorem opn_of {a b : Nat} {s : Int32} (hab : a ≤ b) (hb : b ≤ 1296) (h : nI a ≤ s ∧ s < nI b) : ∃ i, a ≤ i ∧ i < b ∧ s = nI i := by
  rcases pk_ix s (n := b) (by omega) with z | z | ⟨j, hj, rfl⟩
  · exact absurd (Int32.lt_of_le_of_lt h.1 z) (Int32.not_lt.mpr (nI_pos' (by omega)))
  · exact absurd h.2 (Int32.not_lt.mpr z)
  · exact ⟨j, (nI_leI (by omega) (by omega)).mp h.1, hj, rfl⟩
def dl (A : Nat → Nat) (n : Nat) (x : Int32) : Option Nat := if x < 0 ∨ nI n ≤ x then none else some (A x.toNatClampNeg)
theorem dl_none {A : Nat → Nat} {n : Nat} {x : Int32} (z : dl A n x = none) : x < 0 ∨ nI n ≤ x := by
  unfold dl at z
  split at z
  · assumption
  · cases z
theorem dl_some {A : Nat → Nat} {n r : Nat} {x : Int32} (hn : n ≤ 12) (z : dl A n x = some r) : ¬ (x < 0 ∨ nI n ≤ x) ∧ ∃ j, j < n ∧ x = nI j ∧ r = A j := by
  unfold dl at z
  split at z
  · cases z
  · rename_i hq
    refine ⟨hq, ?_⟩
    obtain ⟨j, hj, rfl⟩ := ou_of n (by omega) hq
    cases z
    exact ⟨j, hj, rfl, by rw [cl (by omega)]⟩
theorem zdl (X : EX) {h : HP} (F : Fx h) {n : Nat} {A : Nat → Nat} {D : Nat → DD} (b : BkD h n A D) (x : Int32) : Ct X mX0_dealAt 1 0 0 [vR (some 33), vI x] h (Rt (vR (dl A n x)) h) := by
  have e : dl A n x = if x < 0 ∨ nI n ≤ x then none else hR h 34 x.toNatClampNeg := by
    unfold dl
    split
    · rfl
    · rename_i hq
      obtain ⟨j, hj, rfl⟩ := ou_of n (by have := b.2.1; omega) hq
      have hn := b.2.1
      rw [cl (by omega)]
      exact (b.2.2 j hj).1.symm
  rw [e]
  exact zX0_dealAt X F b x
/-- a PICK, or the finding that there is none -/
def rO (h : HP) : Option Nat → Option VV → HP → Prop
  | none => RF h 3
  | some p => Rt (vI (nI p)) h
def hld (h : HP) : Nat := cnW (fun i => (hR h 74 i).isSome) 0 4
theorem zX8_countHeld (X : EX) {h : HP} (F : Fx h) : Ct X mX8_countHeld 0 0 0 [vR (some 32)] h (Rt (vI (nI (hld h))) h) := by
  refine ct_of rfl (Nat.le_of_ble_eq_true rfl) ?_
  have loop : ∀ (m : Nat) (k : Nat), k + m = 4 → Ev X mX8_countHeld 0 0 0 (Rt (vI (nI (hld h))) h) 0 0 4 [(0, some (vR (some 32))), (1, some (vI (nI (cnW (fun i => (hR h 74 i).isSome) 0 k)))), (2, some (vI (nI k)))] [] h := by
    intro m
    induction m with
    | zero =>
      intro k hk
      obtain rfl : k = 4 := by omega
      refine e_iload_n aX8_countHeld_4 rfl ?_
      refine e_iconst (v := 4) aX8_countHeld_5 (by decide) ?_
      refine e_icmp_ge aX8_countHeld_6 (fun c6 => ?_) (fun c6 => ?_)
      · -- 6: taken
        refine e_iload_n aX8_countHeld_27 rfl ?_
        refine e_ireturn aX8_countHeld_28 rfl (Nat.le_refl _) (Nat.le_refl _) ?_
        exact ⟨rfl, rfl⟩
      · -- 6: not taken
        exact absurd (nI_le (a := 4) (b := 4) (by decide) (by decide)) c6
    | succ m ih =>
      intro k hk
      refine e_iload_n aX8_countHeld_4 rfl ?_
      refine e_iconst (v := 4) aX8_countHeld_5 (by decide) ?_
      refine e_icmp_ge aX8_countHeld_6 (fun c6 => ?_) (fun c6 => ?_)
      · -- 6: taken
        exact absurd c6 (nI_ge (a := k) (b := 4) (by omega) (by decide))
      · -- 6: not taken
        refine e_aload_n aX8_countHeld_9 rfl ?_
        refine e_getRF aX8_countHeld_10 fX8_42 rfl (fx_is F rfl) (fx_r (b := 74) F rfl) ?_
        refine e_iload_n aX8_countHeld_13 rfl ?_
        refine e_aaloadF (t := 17) aX8_countHeld_14 (fx_is F rfl) (by decide) (by decide) (fx_n (n := 4) F rfl) (vin (N := 4) (by omega)) (show hR h 74 (nI k).toNatClampNeg = hR h 74 k by rw [cl (by omega)]) ?_
        refine e_ifnull aX8_countHeld_15 (fun c15 => ?_) (fun r15 c15 => ?_)
        · -- 15: taken
          have ck := cnW_f (P := fun i => (hR h 74 i).isSome) (a := 0) (m := k) (by rw [Nat.zero_add]; show (hR h 74 k).isSome = false; rw [c15]; rfl)
          refine e_iinc aX8_countHeld_21 rfl rfl (Nat.le_of_ble_eq_true rfl) ?_
          refine e_goto aX8_countHeld_24 ?_
          refine e_ls (ls' := [(0, some (vR (some 32))), (1, some (vI (nI (cnW (fun i => (hR h 74 i).isSome) 0 (k + 1))))), (2, some (vI (nI (k + 1))))]) ⟨rfl, congrArg (fun x => some (vI x)) (show nI (cnW (fun i => (hR h 74 i).isSome) 0 k) = nI (cnW (fun i => (hR h 74 i).isSome) 0 (k + 1)) by rw [ck]), congrArg (fun x => some (vI x)) (nI_1 k), trivial⟩ ?_
          exact ih (k + 1) (by omega)
        · -- 15: not taken
          have ck := cnW_t (P := fun i => (hR h 74 i).isSome) (a := 0) (m := k) (by rw [Nat.zero_add]; show (hR h 74 k).isSome = true; rw [c15]; rfl)
          refine e_iinc aX8_countHeld_18 rfl rfl (Nat.le_of_ble_eq_true rfl) ?_
          refine e_iinc aX8_countHeld_21 rfl rfl (Nat.le_of_ble_eq_true rfl) ?_
          refine e_goto aX8_countHeld_24 ?_
          refine e_ls (ls' := [(0, some (vR (some 32))), (1, some (vI (nI (cnW (fun i => (hR h 74 i).isSome) 0 (k + 1))))), (2, some (vI (nI (k + 1))))]) ⟨rfl, congrArg (fun x => some (vI x)) ((nI_1 (cnW (fun i => (hR h 74 i).isSome) 0 k)).trans (by rw [ck])), congrArg (fun x => some (vI x)) (nI_1 k), trivial⟩ ?_
          exact ih (k + 1) (by omega)
  refine e_iconst (v := 0) aX8_countHeld_0 (by decide) ?_
  refine e_istore_n aX8_countHeld_1 (Nat.le_of_ble_eq_true rfl) ?_
  refine e_iconst (v := 0) aX8_countHeld_2 (by decide) ?_
  refine e_istore_n aX8_countHeld_3 (Nat.le_of_ble_eq_true rfl) ?_
  refine e_ls (ls' := [(0, some (vR (some 32))), (1, some (vI (nI (cnW (fun i => (hR h 74 i).isSome) 0 0)))), (2, some (vI (nI 0)))]) ⟨rfl, rfl, rfl, trivial⟩ ?_
  exact loop 4 0 rfl
def cntV (h : HP) (f n : Nat) : Nat → Int32
  | 0 => nI n
  | 1 => nI f
  | 2 => nI (om f)
  | 3 => hI h 32 2
  | 4 => hI h 33 5
  | 5 => hI h 41 1
  | _ => nI (hld h)
theorem zX8_count (X : EX) {h : HP} (F : Fx h) {f n : Nat} {o : Nat → Nat} {A : Nat → Nat} {D : Nat → DD} (bf : BkF h f o) (b : BkD h n A D) (x : Int32) : Ct X mX8_count 1 0 0 [vR (some 32), vI x] h (if x < 0 ∨ nI 7 ≤ x then RF h 0 else Rt (vI (cntV h f n x.toNatClampNeg)) h) := by
  refine ct_of rfl (Nat.le_of_ble_eq_true rfl) ?_
  refine e_iload_n aX8_count_0 rfl ?_
  by_cases q1 : x < 0 ∨ nI 7 ≤ x
  rotate_left
  obtain ⟨iz, hi7, rfl⟩ := ou_of 7 (by decide) q1
  rw [if_neg q1, cl (by omega)]
  rcases (show iz = 0 ∨ iz = 1 ∨ iz = 2 ∨ iz = 3 ∨ iz = 4 ∨ iz = 5 ∨ iz = 6 by omega) with rfl | rfl | rfl | rfl | rfl | rfl | rfl
  rotate_left 7
  rw [if_pos q1]
  rotate_right 7
  · -- switch
    refine e_tableIn (tgt := 44) aX8_count_1 (by decide) (by decide) rfl (by decide) ?_
    refine e_aload_n aX8_count_44 rfl ?_
    refine e_getRF aX8_count_45 fX8_10 rfl (fx_is F rfl) (fx_r (b := 33) F rfl) ?_
    refine e_getIF aX8_count_48 fX8_101 rfl (fx_is F rfl) b.1 ?_
    refine e_ireturn aX8_count_51 rfl (Nat.le_refl _) (Nat.le_refl _) ?_
    exact ⟨rfl, rfl⟩
  · -- switch
    refine e_tableIn (tgt := 52) aX8_count_1 (by decide) (by decide) rfl (by decide) ?_
    refine e_aload_n aX8_count_52 rfl ?_
    refine e_getRF aX8_count_53 fX8_10 rfl (fx_is F rfl) (fx_r (b := 33) F rfl) ?_
    refine e_getIF aX8_count_56 fX8_73 rfl (fx_is F rfl) bf.1 ?_
    refine e_ireturn aX8_count_59 rfl (Nat.le_refl _) (Nat.le_refl _) ?_
    exact ⟨rfl, rfl⟩
  · -- switch
    refine e_tableIn (tgt := 60) aX8_count_1 (by decide) (by decide) rfl (by decide) ?_
    refine e_aload_n aX8_count_60 rfl ?_
    refine e_getRF aX8_count_61 fX8_10 rfl (fx_is F rfl) (fx_r (b := 33) F rfl) ?_
    refine e_invvT aX8_count_64 kX8_88 (zX0_openCount X F bf) rfl rfl (fx_is F rfl) (Nat.le_of_ble_eq_true rfl) (Nat.le_of_ble_eq_true rfl) (Nat.le_refl _) (Nat.le_refl _) (Nat.le_of_ble_eq_true rfl) ?_
    refine e_ireturn aX8_count_67 rfl (Nat.le_refl _) (Nat.le_refl _) ?_
    exact ⟨rfl, rfl⟩
  · -- switch
    refine e_tableIn (tgt := 68) aX8_count_1 (by decide) (by decide) rfl (by decide) ?_
    refine e_aload_n aX8_count_68 rfl ?_
    refine e_getI aX8_count_69 fX8_254 rfl (fx_is F rfl) ?_
    refine e_ireturn aX8_count_72 rfl (Nat.le_refl _) (Nat.le_refl _) ?_
    exact ⟨rfl, rfl⟩
  · -- switch
    refine e_tableIn (tgt := 73) aX8_count_1 (by decide) (by decide) rfl (by decide) ?_
    refine e_aload_n aX8_count_73 rfl ?_
    refine e_getRF aX8_count_74 fX8_10 rfl (fx_is F rfl) (fx_r (b := 33) F rfl) ?_
    refine e_getI aX8_count_77 fX8_80 rfl (fx_is F rfl) ?_
    refine e_ireturn aX8_count_80 rfl (Nat.le_refl _) (Nat.le_refl _) ?_
    exact ⟨rfl, rfl⟩
  · -- switch
    refine e_tableIn (tgt := 81) aX8_count_1 (by decide) (by decide) rfl (by decide) ?_
    refine e_aload_n aX8_count_81 rfl ?_
    refine e_getRF aX8_count_82 fX8_30 rfl (fx_is F rfl) (fx_r (b := 40) F rfl) ?_
    refine e_getRF aX8_count_85 fX8_108 rfl (fx_is F rfl) (fx_r (b := 41) F rfl) ?_
    refine e_getI aX8_count_88 fX8_112 rfl (fx_is F rfl) ?_
    refine e_ireturn aX8_count_91 rfl (Nat.le_refl _) (Nat.le_refl _) ?_
    exact ⟨rfl, rfl⟩
  · -- switch
    refine e_tableIn (tgt := 92) aX8_count_1 (by decide) (by decide) rfl (by decide) ?_
    refine e_aload_n aX8_count_92 rfl ?_
    refine e_invvT aX8_count_93 kX8_260 (zX8_countHeld X F) rfl rfl (fx_is F rfl) (Nat.le_of_ble_eq_true rfl) (Nat.le_of_ble_eq_true rfl) (Nat.le_refl _) (Nat.le_refl _) (Nat.le_of_ble_eq_true rfl) ?_
    refine e_ireturn aX8_count_96 rfl (Nat.le_refl _) (Nat.le_refl _) ?_
    exact ⟨rfl, rfl⟩
  · -- switch
    refine e_tableOut (tgt := 97) aX8_count_1 (sw_out (v := nI 7) (by decide) q1) (by decide) ?_
    refine e_aload_n aX8_count_97 rfl ?_
    refine e_iconst (v := 0) aX8_count_98 (by decide) ?_
    refine e_invvT aX8_count_99 kX8_62 (zfin X (k := 0) F (by decide)) rfl rfl (fx_is F rfl) (Nat.le_of_ble_eq_true rfl) (Nat.le_of_ble_eq_true rfl) (Nat.le_refl _) (Nat.le_refl _) (Nat.le_of_ble_eq_true rfl) ?_
    refine e_ireturn aX8_count_102 rfl (Nat.le_refl _) (Nat.le_refl _) ?_
    exact ⟨rfl, rfl⟩
theorem zX8_owner (X : EX) {h : HP} (F : Fx h) {f : Nat} {o : Nat → Nat} (bf : BkF h f o) (x y : Int32) : Ct X mX8_owner 3 0 0 [vR (some 32), vI x, vI y] h (if nI (fo o f) ≤ x ∧ x < nI (fo o f + om f) then if y < 0 ∨ 12 ≤ y then RF h 0 else Rt (vI (dgt (hI h 39 x.toNatClampNeg) y.toNatClampNeg)) h else RF h 0) := by
  refine ct_of rfl (Nat.le_of_ble_eq_true rfl) ?_
  have hb6 := om_fo bf.2.1 bf.2.2.2
  refine e_aload_n aX8_owner_0 rfl ?_
  refine e_getRF aX8_owner_1 fX8_10 rfl (fx_is F rfl) (fx_r (b := 33) F rfl) ?_
  refine e_iload_n aX8_owner_4 rfl ?_
  refine e_invvT aX8_owner_5 kX8_169 (zX0_isOpen X F bf _) rfl rfl (fx_is F rfl) (Nat.le_of_ble_eq_true rfl) (Nat.le_of_ble_eq_true rfl) (Nat.le_refl _) (Nat.le_refl _) (Nat.le_of_ble_eq_true rfl) ?_
  refine e_if_eq aX8_owner_8 (fun c8 => ?_) (fun c8 => ?_)
  · -- 8: taken
    have q8 := b2_0.mp c8
    refine e_aload_n aX8_owner_20 rfl ?_
    refine e_iconst (v := 0) aX8_owner_21 (by decide) ?_
    refine e_invvT aX8_owner_22 kX8_62 (zfin X (k := 0) F (by decide)) rfl rfl (fx_is F rfl) (Nat.le_of_ble_eq_true rfl) (Nat.le_of_ble_eq_true rfl) (Nat.le_refl _) (Nat.le_refl _) (Nat.le_of_ble_eq_true rfl) ?_
    refine e_ireturn aX8_owner_25 rfl (Nat.le_refl _) (Nat.le_refl _) ?_
    rw [if_neg q8]
    exact ⟨rfl, rfl⟩
  · -- 8: not taken
    have q8 := Decidable.of_not_not (fun z => c8 (b2_0.mpr z))
    obtain ⟨sz, hs1, hs2, rfl⟩ := opn_of (Nat.le_add_right _ _) hb6 q8
    refine e_iload_n aX8_owner_11 rfl ?_
    refine e_bipush (v := 12) aX8_owner_12 (by decide) ?_
    refine e_invsT aX8_owner_14 kX8_58 (zX8_isOutside X _ _) rfl rfl (Nat.le_of_ble_eq_true rfl) (Nat.le_of_ble_eq_true rfl) (Nat.le_refl _) (Nat.le_refl _) (Nat.le_of_ble_eq_true rfl) ?_
    refine e_if_eq aX8_owner_17 (fun c17 => ?_) (fun c17 => ?_)
    · -- 17: taken
      have q17 := b2_0.mp c17
      obtain ⟨pz, hp, rfl⟩ := ou_of 12 (by decide) q17
      refine e_aload_n aX8_owner_26 rfl ?_
      refine e_getRF aX8_owner_27 fX8_23 rfl (fx_is F rfl) (fx_r (b := 38) F rfl) ?_
      refine e_iload_n aX8_owner_30 rfl ?_
      refine e_iload_n aX8_owner_31 rfl ?_
      refine e_invvT aX8_owner_32 kX8_172 (zX2_at X F (s := sz) (by omega) hp) rfl rfl (fx_is F rfl) (Nat.le_of_ble_eq_true rfl) (Nat.le_of_ble_eq_true rfl) (Nat.le_refl _) (Nat.le_refl _) (Nat.le_of_ble_eq_true rfl) ?_
      refine e_ireturn aX8_owner_35 rfl (Nat.le_refl _) (Nat.le_refl _) ?_
      rw [if_pos q8, if_neg q17, cl (by omega), cl (by omega)]
      exact ⟨rfl, rfl⟩
    · -- 17: not taken
      have q17 := Decidable.of_not_not (fun z => c17 (b2_0.mpr z))
      refine e_aload_n aX8_owner_20 rfl ?_
      refine e_iconst (v := 0) aX8_owner_21 (by decide) ?_
      refine e_invvT aX8_owner_22 kX8_62 (zfin X (k := 0) F (by decide)) rfl rfl (fx_is F rfl) (Nat.le_of_ble_eq_true rfl) (Nat.le_of_ble_eq_true rfl) (Nat.le_refl _) (Nat.le_refl _) (Nat.le_of_ble_eq_true rfl) ?_
      refine e_ireturn aX8_owner_25 rfl (Nat.le_refl _) (Nat.le_refl _) ?_
      rw [if_pos q8, if_pos q17]
      exact ⟨rfl, rfl⟩
theorem zX8_holds (X : EX) {h : HP} (F : Fx h) {n : Nat} {A : Nat → Nat} {D : Nat → DD} (b : BkD h n A D) (x y : Int32) : Ct X mX8_holds 2 0 0 [vR (some 32), vI x, vI y] h (if x < 0 ∨ nI n ≤ x then RF h 0 else if y < 0 ∨ 1296 ≤ y then RF h 0 else Rt (vI (b2 (dB (D x.toNatClampNeg) y.toNatClampNeg = true))) h) := by
  refine ct_of rfl (Nat.le_of_ble_eq_true rfl) ?_
  have hn12 := b.2.1
  refine e_aload_n aX8_holds_0 rfl ?_
  refine e_getRF aX8_holds_1 fX8_10 rfl (fx_is F rfl) (fx_r (b := 33) F rfl) ?_
  refine e_iload_n aX8_holds_4 rfl ?_
  refine e_invvT aX8_holds_5 kX8_128 (zdl X F b x) rfl rfl (fx_is F rfl) (Nat.le_of_ble_eq_true rfl) (Nat.le_of_ble_eq_true rfl) (Nat.le_refl _) (Nat.le_refl _) (Nat.le_of_ble_eq_true rfl) ?_
  refine e_astore_n aX8_holds_8 (Nat.le_of_ble_eq_true rfl) ?_
  refine e_aload_n aX8_holds_9 rfl ?_
  refine e_ifnull aX8_holds_10 (fun c10 => ?_) (fun r10 c10 => ?_)
  · -- 10: taken
    have q10 := dl_none c10
    refine e_aload_n aX8_holds_23 rfl ?_
    refine e_iconst (v := 0) aX8_holds_24 (by decide) ?_
    refine e_invvT aX8_holds_25 kX8_62 (zfin X (k := 0) F (by decide)) rfl rfl (fx_is F rfl) (Nat.le_of_ble_eq_true rfl) (Nat.le_of_ble_eq_true rfl) (Nat.le_refl _) (Nat.le_refl _) (Nat.le_of_ble_eq_true rfl) ?_
    refine e_ireturn aX8_holds_28 rfl (Nat.le_refl _) (Nat.le_refl _) ?_
    rw [if_pos q10]
    exact ⟨rfl, rfl⟩
  · -- 10: not taken
    rw [c10]
    obtain ⟨q10, kz, hk, rfl, rfl⟩ := dl_some hn12 c10
    refine e_iload_n aX8_holds_13 rfl ?_
    refine e_sipush (v := 1296) aX8_holds_14 (by decide) ?_
    refine e_invsT aX8_holds_17 kX8_58 (zX8_isOutside X _ _) rfl rfl (Nat.le_of_ble_eq_true rfl) (Nat.le_of_ble_eq_true rfl) (Nat.le_refl _) (Nat.le_refl _) (Nat.le_of_ble_eq_true rfl) ?_
    refine e_if_eq aX8_holds_20 (fun c20 => ?_) (fun c20 => ?_)
    · -- 20: taken
      have q20 := b2_0.mp c20
      obtain ⟨sz, hs, rfl⟩ := ou_of 1296 (by decide) q20
      refine e_aload_n aX8_holds_29 rfl ?_
      refine e_iload_n aX8_holds_30 rfl ?_
      refine e_invvT aX8_holds_31 kX8_156 (zX1_isMet X (b.2.2 kz hk).2 hs) rfl rfl (b.2.2 kz hk).2.2.1 (Nat.le_of_ble_eq_true rfl) (Nat.le_of_ble_eq_true rfl) (Nat.le_refl _) (Nat.le_refl _) (Nat.le_of_ble_eq_true rfl) ?_
      refine e_if_eq aX8_holds_34 (fun c34 => ?_) (fun c34 => ?_)
      · -- 34: taken
        have q34 := b2_0.mp c34
        refine e_iconst (v := 0) aX8_holds_41 (by decide) ?_
        refine e_ireturn aX8_holds_42 rfl (Nat.le_refl _) (Nat.le_refl _) ?_
        rw [if_neg q10, if_neg q20, cl (by omega), cl (by omega)]
        exact ⟨by rw [b2_f q34] <;> rfl, rfl⟩
      · -- 34: not taken
        have q34 := Decidable.of_not_not (fun z => c34 (b2_0.mpr z))
        refine e_iconst (v := 1) aX8_holds_37 (by decide) ?_
        refine e_goto aX8_holds_38 ?_
        refine e_ireturn aX8_holds_42 rfl (Nat.le_refl _) (Nat.le_refl _) ?_
        rw [if_neg q10, if_neg q20, cl (by omega), cl (by omega)]
        exact ⟨by rw [b2_t q34] <;> rfl, rfl⟩
    · -- 20: not taken
      have q20 := Decidable.of_not_not (fun z => c20 (b2_0.mpr z))
      refine e_aload_n aX8_holds_23 rfl ?_
      refine e_iconst (v := 0) aX8_holds_24 (by decide) ?_
      refine e_invvT aX8_holds_25 kX8_62 (zfin X (k := 0) F (by decide)) rfl rfl (fx_is F rfl) (Nat.le_of_ble_eq_true rfl) (Nat.le_of_ble_eq_true rfl) (Nat.le_refl _) (Nat.le_refl _) (Nat.le_of_ble_eq_true rfl) ?_
      refine e_ireturn aX8_holds_28 rfl (Nat.le_refl _) (Nat.le_refl _) ?_
      rw [if_neg q10, if_pos q20]
      exact ⟨rfl, rfl⟩
end
section
/-! contracts: runs over standings (written by wip/whole/g24.py) -/
def gvS (d : DD) (s : Nat) : Bool := (gv d s).isSome
theorem oI_neg {q : Option Nat} (hb : ∀ p, q = some p → p < 1073741824) : oI q < 0 ↔ q = none := by
  cases q with
  | none => exact ⟨fun _ => rfl, fun _ => by decide⟩
  | some p => exact ⟨fun z => absurd z (Int32.not_lt.mpr (nI_pos' (by have := hb p rfl; omega))), fun z => by cases z⟩
theorem zX8_countConveying (X : EX) {h : HP} (F : Fx h) {f : Nat} {o : Nat → Nat} (bf : BkF h f o) {a : Nat} {d : DD} (kd : DealC h a d) : Ct X mX8_countConveying 2 0 0 [vR (some 32), vR (some a)] h (Rt (vI (nI (cnW (gvS d) (fo o f) (om f)))) h) := by
  refine ct_of rfl (Nat.le_of_ble_eq_true rfl) ?_
  have hb6 := om_fo bf.2.1 bf.2.2.2
  have loop : ∀ (m : Nat) (k : Nat), k + m = om f → Ev X mX8_countConveying 2 0 0 (Rt (vI (nI (cnW (gvS d) (fo o f) (om f)))) h) 0 0 19 [(0, some (vR (some 32))), (1, some (vR (some a))), (2, some (vI (nI (cnW (gvS d) (fo o f) k)))), (3, some (vI (nI (fo o f + om f)))), (4, some (vI (nI (fo o f + k))))] [] h := by
    intro m
    induction m with
    | zero =>
      intro k hk
      obtain rfl : k = om f := by omega
      refine e_iload aX8_countConveying_19 rfl ?_
      refine e_iload_n aX8_countConveying_21 rfl ?_
      refine e_icmp_ge aX8_countConveying_22 (fun c22 => ?_) (fun c22 => ?_)
      · -- 22: taken
        refine e_iload_n aX8_countConveying_43 rfl ?_
        refine e_ireturn aX8_countConveying_44 rfl (Nat.le_refl _) (Nat.le_refl _) ?_
        exact ⟨rfl, rfl⟩
      · -- 22: not taken
        exact absurd (nI_le (by omega) (by omega)) c22
    | succ m ih =>
      intro k hk
      have hgb : ∀ p, gv d (fo o f + k) = some p → p < 1073741824 := fun p q => by have := (gv_ok kd.2.2.1 q).1; omega
      refine e_iload aX8_countConveying_19 rfl ?_
      refine e_iload_n aX8_countConveying_21 rfl ?_
      refine e_icmp_ge aX8_countConveying_22 (fun c22 => ?_) (fun c22 => ?_)
      · -- 22: taken
        exact absurd c22 (nI_ge (by omega) (by omega))
      · -- 22: not taken
        refine e_aload_n aX8_countConveying_25 rfl ?_
        refine e_iload aX8_countConveying_26 rfl ?_
        refine e_invvT aX8_countConveying_28 kX8_160 (zX1_gives X kd (s := fo o f + k) (by omega)) rfl rfl kd.2.1 (Nat.le_of_ble_eq_true rfl) (Nat.le_of_ble_eq_true rfl) (Nat.le_refl _) (Nat.le_refl _) (Nat.le_of_ble_eq_true rfl) ?_
        refine e_if_lt aX8_countConveying_31 (fun c31 => ?_) (fun c31 => ?_)
        · -- 31: taken
          have q31 := (oI_neg (q := gv d (fo o f + k)) hgb).mp c31
          refine e_iinc aX8_countConveying_37 rfl rfl (Nat.le_of_ble_eq_true rfl) ?_
          refine e_goto aX8_countConveying_40 ?_
          refine e_ls (ls' := [(0, some (vR (some 32))), (1, some (vR (some a))), (2, some (vI (nI (cnW (gvS d) (fo o f) (k + 1))))), (3, some (vI (nI (fo o f + om f)))), (4, some (vI (nI (fo o f + (k + 1)))))]) ⟨rfl, rfl, congrArg (fun x => some (vI x)) (congrArg nI (cnW_f (P := gvS d) (a := fo o f) (m := k) (by unfold gvS; rw [q31]; rfl)).symm), rfl, congrArg (fun x => some (vI x)) (nI_1 (fo o f + k)), trivial⟩ ?_
          exact ih (k + 1) (by omega)
        · -- 31: not taken
          have q31 := (not_congr (oI_neg (q := gv d (fo o f + k)) hgb)).mp (Int32.not_lt.mpr (Int32.not_lt.mp c31))
          refine e_iinc aX8_countConveying_34 rfl rfl (Nat.le_of_ble_eq_true rfl) ?_
          refine e_iinc aX8_countConveying_37 rfl rfl (Nat.le_of_ble_eq_true rfl) ?_
          refine e_goto aX8_countConveying_40 ?_
          refine e_ls (ls' := [(0, some (vR (some 32))), (1, some (vR (some a))), (2, some (vI (nI (cnW (gvS d) (fo o f) (k + 1))))), (3, some (vI (nI (fo o f + om f)))), (4, some (vI (nI (fo o f + (k + 1)))))]) ⟨rfl, rfl, congrArg (fun x => some (vI x)) ((nI_1 _).trans (congrArg nI (cnW_t (P := gvS d) (a := fo o f) (m := k) (by unfold gvS; exact Option.isSome_iff_ne_none.mpr q31)).symm)), rfl, congrArg (fun x => some (vI x)) (nI_1 (fo o f + k)), trivial⟩ ?_
          exact ih (k + 1) (by omega)
  refine e_iconst (v := 0) aX8_countConveying_0 (by decide) ?_
  refine e_istore_n aX8_countConveying_1 (Nat.le_of_ble_eq_true rfl) ?_
  refine e_aload_n aX8_countConveying_2 rfl ?_
  refine e_getRF aX8_countConveying_3 fX8_10 rfl (fx_is F rfl) (fx_r (b := 33) F rfl) ?_
  refine e_invvT aX8_countConveying_6 kX8_181 (zX0_endOpen X F bf) rfl rfl (fx_is F rfl) (Nat.le_of_ble_eq_true rfl) (Nat.le_of_ble_eq_true rfl) (Nat.le_refl _) (Nat.le_refl _) (Nat.le_of_ble_eq_true rfl) ?_
  refine e_istore_n aX8_countConveying_9 (Nat.le_of_ble_eq_true rfl) ?_
  refine e_aload_n aX8_countConveying_10 rfl ?_
  refine e_getRF aX8_countConveying_11 fX8_10 rfl (fx_is F rfl) (fx_r (b := 33) F rfl) ?_
  refine e_invvT aX8_countConveying_14 kX8_84 (zX0_firstOpen X F bf) rfl rfl (fx_is F rfl) (Nat.le_of_ble_eq_true rfl) (Nat.le_of_ble_eq_true rfl) (Nat.le_refl _) (Nat.le_refl _) (Nat.le_of_ble_eq_true rfl) ?_
  refine e_istore aX8_countConveying_17 (Nat.le_of_ble_eq_true rfl) ?_
  refine e_ls (ls' := [(0, some (vR (some 32))), (1, some (vR (some a))), (2, some (vI (nI (cnW (gvS d) (fo o f) 0)))), (3, some (vI (nI (fo o f + om f)))), (4, some (vI (nI (fo o f + 0))))]) ⟨rfl, rfl, rfl, rfl, rfl, trivial⟩ ?_
  exact loop (om f) 0 (by omega)
theorem zX8_conveys (X : EX) {h : HP} (F : Fx h) {n : Nat} {A : Nat → Nat} {D : Nat → DD} (b : BkD h n A D) (x y w : Int32) : Ct X mX8_conveys 3 0 0 [vR (some 32), vI x, vI y, vI w] h (if x < 0 ∨ nI n ≤ x then RF h 0 else if y < 0 ∨ 1296 ≤ y then RF h 0 else if w < 0 ∨ 2 ≤ w then RF h 0 else rO h (if w = 0 then gv (D x.toNatClampNeg) y.toNatClampNeg else gb (D x.toNatClampNeg) y.toNatClampNeg)) := by
  refine ct_of rfl (Nat.le_of_ble_eq_true rfl) ?_
  have hn12 := b.2.1
  refine e_aload_n aX8_conveys_0 rfl ?_
  refine e_getRF aX8_conveys_1 fX8_10 rfl (fx_is F rfl) (fx_r (b := 33) F rfl) ?_
  refine e_iload_n aX8_conveys_4 rfl ?_
  refine e_invvT aX8_conveys_5 kX8_128 (zdl X F b x) rfl rfl (fx_is F rfl) (Nat.le_of_ble_eq_true rfl) (Nat.le_of_ble_eq_true rfl) (Nat.le_refl _) (Nat.le_refl _) (Nat.le_of_ble_eq_true rfl) ?_
  refine e_astore aX8_conveys_8 (Nat.le_of_ble_eq_true rfl) ?_
  refine e_aload aX8_conveys_10 rfl ?_
  refine e_ifnull aX8_conveys_12 (fun c12 => ?_) (fun r12 c12 => ?_)
  · -- 12: taken
    have q12 := dl_none c12
    refine e_aload_n aX8_conveys_33 rfl ?_
    refine e_iconst (v := 0) aX8_conveys_34 (by decide) ?_
    refine e_invvT aX8_conveys_35 kX8_62 (zfin X (k := 0) F (by decide)) rfl rfl (fx_is F rfl) (Nat.le_of_ble_eq_true rfl) (Nat.le_of_ble_eq_true rfl) (Nat.le_refl _) (Nat.le_refl _) (Nat.le_of_ble_eq_true rfl) ?_
    refine e_ireturn aX8_conveys_38 rfl (Nat.le_refl _) (Nat.le_refl _) ?_
    rw [if_pos q12]
    exact ⟨rfl, rfl⟩
  · -- 12: not taken
    rw [c12]
    obtain ⟨q12, kz, hk, rfl, rfl⟩ := dl_some hn12 c12
    refine e_iload_n aX8_conveys_15 rfl ?_
    refine e_sipush (v := 1296) aX8_conveys_16 (by decide) ?_
    refine e_invsT aX8_conveys_19 kX8_58 (zX8_isOutside X _ _) rfl rfl (Nat.le_of_ble_eq_true rfl) (Nat.le_of_ble_eq_true rfl) (Nat.le_refl _) (Nat.le_refl _) (Nat.le_of_ble_eq_true rfl) ?_
    refine e_if_ne aX8_conveys_22 (fun c22 => ?_) (fun c22 => ?_)
    · -- 22: taken
      have q22 := Decidable.of_not_not (fun z => c22 (b2_0.mpr z))
      refine e_aload_n aX8_conveys_33 rfl ?_
      refine e_iconst (v := 0) aX8_conveys_34 (by decide) ?_
      refine e_invvT aX8_conveys_35 kX8_62 (zfin X (k := 0) F (by decide)) rfl rfl (fx_is F rfl) (Nat.le_of_ble_eq_true rfl) (Nat.le_of_ble_eq_true rfl) (Nat.le_refl _) (Nat.le_refl _) (Nat.le_of_ble_eq_true rfl) ?_
      refine e_ireturn aX8_conveys_38 rfl (Nat.le_refl _) (Nat.le_refl _) ?_
      rw [if_neg q12, if_pos q22]
      exact ⟨rfl, rfl⟩
    · -- 22: not taken
      have q22 := b2_0.mp c22
      obtain ⟨sz, hs, rfl⟩ := ou_of 1296 (by decide) q22
      refine e_iload_n aX8_conveys_25 rfl ?_
      refine e_iconst (v := 2) aX8_conveys_26 (by decide) ?_
      refine e_invsT aX8_conveys_27 kX8_58 (zX8_isOutside X _ _) rfl rfl (Nat.le_of_ble_eq_true rfl) (Nat.le_of_ble_eq_true rfl) (Nat.le_refl _) (Nat.le_refl _) (Nat.le_of_ble_eq_true rfl) ?_
      refine e_if_eq aX8_conveys_30 (fun c30 => ?_) (fun c30 => ?_)
      · -- 30: taken
        have q30 := b2_0.mp c30
        have wf := (b.2.2 kz hk).2.2.2.1
        have hgv : ∀ p, gv (D kz) sz = some p → p < 1073741824 := fun p q => by have := (gv_ok wf q).1; omega
        have hgb : ∀ p, gb (D kz) sz = some p → p < 1073741824 := fun p q => by have := (gb_ok wf q).1; omega
        refine e_iload_n aX8_conveys_39 rfl ?_
        refine e_if_ne aX8_conveys_40 (fun c40 => ?_) (fun c40 => ?_)
        · -- 40: taken
          have q40 : ¬ w = 0 := c40
          refine e_aload aX8_conveys_52 rfl ?_
          refine e_iload_n aX8_conveys_54 rfl ?_
          refine e_invvT aX8_conveys_55 kX8_163 (zX1_getsBack X (b.2.2 kz hk).2 hs) rfl rfl (b.2.2 kz hk).2.2.1 (Nat.le_of_ble_eq_true rfl) (Nat.le_of_ble_eq_true rfl) (Nat.le_refl _) (Nat.le_refl _) (Nat.le_of_ble_eq_true rfl) ?_
          refine e_istore aX8_conveys_58 (Nat.le_of_ble_eq_true rfl) ?_
          refine e_iload aX8_conveys_60 rfl ?_
          refine e_if_ge aX8_conveys_62 (fun c62 => ?_) (fun c62 => ?_)
          · -- 62: taken
            have q62 := (not_congr (oI_neg (q := gb (D kz) sz) hgb)).mp (Int32.not_lt.mpr c62)
            obtain ⟨pz, q63⟩ := Option.ne_none_iff_exists'.mp q62
            refine e_iload aX8_conveys_73 rfl ?_
            refine e_ireturn aX8_conveys_75 rfl (Nat.le_refl _) (Nat.le_refl _) ?_
            rw [if_neg q12, if_neg q22, if_neg q30, cl (by omega), cl (by omega), if_neg q40, q63]
            exact ⟨rfl, rfl⟩
          · -- 62: not taken
            have q62 := (oI_neg (q := gb (D kz) sz) hgb).mp (Int32.not_le.mp c62)
            refine e_aload_n aX8_conveys_65 rfl ?_
            refine e_iconst (v := 3) aX8_conveys_66 (by decide) ?_
            refine e_invvT aX8_conveys_67 kX8_62 (zfin X (k := 3) F (by decide)) rfl rfl (fx_is F rfl) (Nat.le_of_ble_eq_true rfl) (Nat.le_of_ble_eq_true rfl) (Nat.le_refl _) (Nat.le_refl _) (Nat.le_of_ble_eq_true rfl) ?_
            refine e_goto aX8_conveys_70 ?_
            refine e_ireturn aX8_conveys_75 rfl (Nat.le_refl _) (Nat.le_refl _) ?_
            rw [if_neg q12, if_neg q22, if_neg q30, cl (by omega), cl (by omega), if_neg q40, q62]
            exact ⟨rfl, rfl⟩
        · -- 40: not taken
          have q40 : w = 0 := c40
          refine e_aload aX8_conveys_43 rfl ?_
          refine e_iload_n aX8_conveys_45 rfl ?_
          refine e_invvT aX8_conveys_46 kX8_160 (zX1_gives X (b.2.2 kz hk).2 hs) rfl rfl (b.2.2 kz hk).2.2.1 (Nat.le_of_ble_eq_true rfl) (Nat.le_of_ble_eq_true rfl) (Nat.le_refl _) (Nat.le_refl _) (Nat.le_of_ble_eq_true rfl) ?_
          refine e_goto aX8_conveys_49 ?_
          refine e_istore aX8_conveys_58 (Nat.le_of_ble_eq_true rfl) ?_
          refine e_iload aX8_conveys_60 rfl ?_
          refine e_if_ge aX8_conveys_62 (fun c62 => ?_) (fun c62 => ?_)
          · -- 62: taken
            have q62 := (not_congr (oI_neg (q := gv (D kz) sz) hgv)).mp (Int32.not_lt.mpr c62)
            obtain ⟨pz, q63⟩ := Option.ne_none_iff_exists'.mp q62
            refine e_iload aX8_conveys_73 rfl ?_
            refine e_ireturn aX8_conveys_75 rfl (Nat.le_refl _) (Nat.le_refl _) ?_
            rw [if_neg q12, if_neg q22, if_neg q30, cl (by omega), cl (by omega), if_pos q40, q63]
            exact ⟨rfl, rfl⟩
          · -- 62: not taken
            have q62 := (oI_neg (q := gv (D kz) sz) hgv).mp (Int32.not_le.mp c62)
            refine e_aload_n aX8_conveys_65 rfl ?_
            refine e_iconst (v := 3) aX8_conveys_66 (by decide) ?_
            refine e_invvT aX8_conveys_67 kX8_62 (zfin X (k := 3) F (by decide)) rfl rfl (fx_is F rfl) (Nat.le_of_ble_eq_true rfl) (Nat.le_of_ble_eq_true rfl) (Nat.le_refl _) (Nat.le_refl _) (Nat.le_of_ble_eq_true rfl) ?_
            refine e_goto aX8_conveys_70 ?_
            refine e_ireturn aX8_conveys_75 rfl (Nat.le_refl _) (Nat.le_refl _) ?_
            rw [if_neg q12, if_neg q22, if_neg q30, cl (by omega), cl (by omega), if_pos q40, q62]
            exact ⟨rfl, rfl⟩
      · -- 30: not taken
        have q30 := Decidable.of_not_not (fun z => c30 (b2_0.mpr z))
        refine e_aload_n aX8_conveys_33 rfl ?_
        refine e_iconst (v := 0) aX8_conveys_34 (by decide) ?_
        refine e_invvT aX8_conveys_35 kX8_62 (zfin X (k := 0) F (by decide)) rfl rfl (fx_is F rfl) (Nat.le_of_ble_eq_true rfl) (Nat.le_of_ble_eq_true rfl) (Nat.le_refl _) (Nat.le_refl _) (Nat.le_of_ble_eq_true rfl) ?_
        refine e_ireturn aX8_conveys_38 rfl (Nat.le_refl _) (Nat.le_refl _) ?_
        rw [if_neg q12, if_neg q22, if_pos q30]
        exact ⟨rfl, rfl⟩
def ofV (d : DD) (a m : Nat) : Nat → Int32
  | 0 => nI (dK d)
  | 1 => nI (dF d)
  | 2 => nI (dT d)
  | 3 => nI (dP d)
  | 4 => oI (dO d)
  | 5 => nI (dN d)
  | 6 => b2 (dC d = true)
  | _ => nI (cnW (gvS d) a m)
theorem zX8_of (X : EX) {h : HP} (F : Fx h) {f n : Nat} {o : Nat → Nat} {A : Nat → Nat} {D : Nat → DD} (bf : BkF h f o) (b : BkD h n A D) (x y : Int32) : Ct X mX8_of 3 0 0 [vR (some 32), vI x, vI y] h (if x < 0 ∨ nI n ≤ x then RF h 0 else if y < 0 ∨ nI 8 ≤ y then RF h 0 else Rt (vI (ofV (D x.toNatClampNeg) (fo o f) (om f) y.toNatClampNeg)) h) := by
  refine ct_of rfl (Nat.le_of_ble_eq_true rfl) ?_
  have hn12 := b.2.1
  refine e_aload_n aX8_of_0 rfl ?_
  refine e_getRF aX8_of_1 fX8_10 rfl (fx_is F rfl) (fx_r (b := 33) F rfl) ?_
  refine e_iload_n aX8_of_4 rfl ?_
  refine e_invvT aX8_of_5 kX8_128 (zdl X F b x) rfl rfl (fx_is F rfl) (Nat.le_of_ble_eq_true rfl) (Nat.le_of_ble_eq_true rfl) (Nat.le_refl _) (Nat.le_refl _) (Nat.le_of_ble_eq_true rfl) ?_
  refine e_astore_n aX8_of_8 (Nat.le_of_ble_eq_true rfl) ?_
  refine e_aload_n aX8_of_9 rfl ?_
  refine e_ifnonnull aX8_of_10 (fun r10 c10 => ?_) (fun c10 => ?_)
  · -- 10: taken
    rw [c10]
    obtain ⟨q10, kz, hk, rfl, rfl⟩ := dl_some hn12 c10
    refine e_iload_n aX8_of_19 rfl ?_
    have kd := (b.2.2 kz hk).2
    obtain ⟨k134, kI9, wf9, e0, e1, e2, e3, e4, e5, e6⟩ := id kd
    rw [if_neg q10]
    by_cases q1 : y < 0 ∨ nI 8 ≤ y
    rotate_left
    obtain ⟨iz, hi8, rfl⟩ := ou_of 8 (by decide) q1
    rw [if_neg q1, cl (n := iz) (by omega), cl (by omega)]
    rcases (show iz = 0 ∨ iz = 1 ∨ iz = 2 ∨ iz = 3 ∨ iz = 4 ∨ iz = 5 ∨ iz = 6 ∨ iz = 7 by omega) with rfl | rfl | rfl | rfl | rfl | rfl | rfl | rfl
    rotate_left 8
    rw [if_pos q1]
    rotate_right 8
    · -- switch
      refine e_tableIn (tgt := 68) aX8_of_20 (by decide) (by decide) rfl (by decide) ?_
      refine e_aload_n aX8_of_68 rfl ?_
      refine e_getIF aX8_of_69 fX8_131 rfl kI9 e0 ?_
      refine e_ireturn aX8_of_72 rfl (Nat.le_refl _) (Nat.le_refl _) ?_
      exact ⟨rfl, rfl⟩
    · -- switch
      refine e_tableIn (tgt := 73) aX8_of_20 (by decide) (by decide) rfl (by decide) ?_
      refine e_aload_n aX8_of_73 rfl ?_
      refine e_getIF aX8_of_74 fX8_134 rfl kI9 e1 ?_
      refine e_ireturn aX8_of_77 rfl (Nat.le_refl _) (Nat.le_refl _) ?_
      exact ⟨rfl, rfl⟩
    · -- switch
      refine e_tableIn (tgt := 78) aX8_of_20 (by decide) (by decide) rfl (by decide) ?_
      refine e_aload_n aX8_of_78 rfl ?_
      refine e_getIF aX8_of_79 fX8_137 rfl kI9 e2 ?_
      refine e_ireturn aX8_of_82 rfl (Nat.le_refl _) (Nat.le_refl _) ?_
      exact ⟨rfl, rfl⟩
    · -- switch
      refine e_tableIn (tgt := 83) aX8_of_20 (by decide) (by decide) rfl (by decide) ?_
      refine e_aload_n aX8_of_83 rfl ?_
      refine e_getIF aX8_of_84 fX8_140 rfl kI9 e3 ?_
      refine e_ireturn aX8_of_87 rfl (Nat.le_refl _) (Nat.le_refl _) ?_
      exact ⟨rfl, rfl⟩
    · -- switch
      refine e_tableIn (tgt := 88) aX8_of_20 (by decide) (by decide) rfl (by decide) ?_
      refine e_aload_n aX8_of_88 rfl ?_
      refine e_getIF aX8_of_89 fX8_143 rfl kI9 e4 ?_
      refine e_ireturn aX8_of_92 rfl (Nat.le_refl _) (Nat.le_refl _) ?_
      exact ⟨rfl, rfl⟩
    · -- switch
      refine e_tableIn (tgt := 93) aX8_of_20 (by decide) (by decide) rfl (by decide) ?_
      refine e_aload_n aX8_of_93 rfl ?_
      refine e_getIF aX8_of_94 fX8_146 rfl kI9 e5 ?_
      refine e_ireturn aX8_of_97 rfl (Nat.le_refl _) (Nat.le_refl _) ?_
      exact ⟨rfl, rfl⟩
    · -- switch
      refine e_tableIn (tgt := 98) aX8_of_20 (by decide) (by decide) rfl (by decide) ?_
      refine e_aload_n aX8_of_98 rfl ?_
      refine e_getR aX8_of_99 fX8_149 rfl kI9 ?_
      refine e_ifnull aX8_of_102 (fun c102 => ?_) (fun r102 c102 => ?_)
      · -- 102: taken
        rcases e6 with e6 | e6
        rotate_left
        obtain ⟨-, sb9, e7, -⟩ := e6
        rw [e7] at c102
        cases c102
        refine e_iconst (v := 0) aX8_of_109 (by decide) ?_
        refine e_ireturn aX8_of_110 rfl (Nat.le_refl _) (Nat.le_refl _) ?_
        exact ⟨by show _ = some (vI (b2 (dC (D kz) = true))); rw [b2_f (by rw [e6.1]; decide)], rfl⟩
      · -- 102: not taken
        rcases e6 with e6 | e6
        rw [e6.2] at c102
        cases c102
        refine e_iconst (v := 1) aX8_of_105 (by decide) ?_
        refine e_goto aX8_of_106 ?_
        refine e_ireturn aX8_of_110 rfl (Nat.le_refl _) (Nat.le_refl _) ?_
        exact ⟨by show _ = some (vI (b2 (dC (D kz) = true))); rw [b2_t (by rw [e6.1])], rfl⟩
    · -- switch
      refine e_tableIn (tgt := 111) aX8_of_20 (by decide) (by decide) rfl (by decide) ?_
      refine e_aload_n aX8_of_111 rfl ?_
      refine e_aload_n aX8_of_112 rfl ?_
      refine e_invvT aX8_of_113 kX8_153 (zX8_countConveying X F bf kd) rfl rfl (fx_is F rfl) (Nat.le_of_ble_eq_true rfl) (Nat.le_of_ble_eq_true rfl) (Nat.le_refl _) (Nat.le_refl _) (Nat.le_of_ble_eq_true rfl) ?_
      refine e_ireturn aX8_of_116 rfl (Nat.le_refl _) (Nat.le_refl _) ?_
      exact ⟨rfl, rfl⟩
    · -- switch
      refine e_tableOut (tgt := 117) aX8_of_20 (sw_out (v := nI 8) (by decide) q1) (by decide) ?_
      refine e_aload_n aX8_of_117 rfl ?_
      refine e_iconst (v := 0) aX8_of_118 (by decide) ?_
      refine e_invvT aX8_of_119 kX8_62 (zfin X (k := 0) F (by decide)) rfl rfl (fx_is F rfl) (Nat.le_of_ble_eq_true rfl) (Nat.le_of_ble_eq_true rfl) (Nat.le_refl _) (Nat.le_refl _) (Nat.le_of_ble_eq_true rfl) ?_
      refine e_ireturn aX8_of_122 rfl (Nat.le_refl _) (Nat.le_refl _) ?_
      exact ⟨rfl, rfl⟩
  · -- 10: not taken
    have q10 := dl_none c10
    refine e_aload_n aX8_of_13 rfl ?_
    refine e_iconst (v := 0) aX8_of_14 (by decide) ?_
    refine e_invvT aX8_of_15 kX8_62 (zfin X (k := 0) F (by decide)) rfl rfl (fx_is F rfl) (Nat.le_of_ble_eq_true rfl) (Nat.le_of_ble_eq_true rfl) (Nat.le_refl _) (Nat.le_refl _) (Nat.le_of_ble_eq_true rfl) ?_
    refine e_ireturn aX8_of_18 rfl (Nat.le_refl _) (Nat.le_refl _) ?_
    rw [if_pos q10]
    exact ⟨rfl, rfl⟩
theorem nI_pred9 {n : Nat} (z : 1 ≤ n) : nI n - 1 = nI (n - 1) := nI_subN z
/-- the heap behind a settling: rows of the OPEN STANDINGS hold OWNERS -/
def setH (h : HP) (f n : Nat) (o : Nat → Nat) (D : Nat → DD) (h' : HP) : Prop := ∃ r, h' = rwR h r ∧ ∀ s, fo o f ≤ s → s < fo o f + om f → ∀ p, p < 12 → dgt (r s) p = nI (ow D s p n)
theorem zX8_drop (X : EX) {h : HP} (F : Fx h) {f n : Nat} {o : Nat → Nat} {A : Nat → Nat} {D : Nat → DD} (bf : BkF h f o) (b : BkD h n A D) : Ct X mX8_drop 4 0 0 [vR (some 32)] h (if n = 0 then RF h 3 else fun v h' => v = some (vI (nI (n - 1))) ∧ setH (wI h 33 1 (nI (n - 1))) f (n - 1) o D h') := by
  refine ct_of rfl (Nat.le_of_ble_eq_true rfl) ?_
  have hn12 := b.2.1
  refine e_aload_n aX8_drop_0 rfl ?_
  refine e_getRF aX8_drop_1 fX8_10 rfl (fx_is F rfl) (fx_r (b := 33) F rfl) ?_
  refine e_getIF aX8_drop_4 fX8_101 rfl (fx_is F rfl) b.1 ?_
  refine e_if_gt aX8_drop_7 (fun c7 => ?_) (fun c7 => ?_)
  · -- 7: taken
    have q7 : ¬ n = 0 := fun z => by subst z; exact absurd c7 (by decide)
    refine e_aload_n aX8_drop_16 rfl ?_
    refine e_getRF aX8_drop_17 fX8_10 rfl (fx_is F rfl) (fx_r (b := 33) F rfl) ?_
    refine e_dup aX8_drop_20 rfl ?_
    refine e_getIF aX8_drop_21 fX8_101 rfl (fx_is F rfl) b.1 ?_
    refine e_iconst (v := 1) aX8_drop_24 (by decide) ?_
    refine e_isub aX8_drop_25 ?_
    refine e_top (nI_pred9 (by omega)) ?_
    refine e_putI aX8_drop_26 fX8_101 rfl (fx_is F rfl) (Or.inl rfl) ?_
    refine e_aload_n aX8_drop_29 rfl ?_
    refine e_invv aX8_drop_30 kX8_125 (zX8_settleAll X (h := wI h 33 1 (nI (n - 1))) F (n := n - 1) (A := A) (D := D) ⟨(wI_i (by decide)).trans bf.1, bf.2.1, fun y q => (wI_a (by decide)).trans (bf.2.2.1 y q), bf.2.2.2⟩ ⟨wI_s, by omega, fun k q => ⟨(b.2.2 k (by omega)).1, (b.2.2 k (by omega)).2.up (Up.wI (by decide))⟩⟩) rfl rfl (fx_is F rfl) (Nat.le_of_ble_eq_true rfl) (Nat.le_of_ble_eq_true rfl) (Nat.le_refl _) (Nat.le_refl _) (Nat.le_of_ble_eq_true rfl) ?_
    rintro v h2 ⟨rfl, r, rfl, hr⟩
    refine e_aload_n aX8_drop_33 rfl ?_
    refine e_getRF aX8_drop_34 fX8_10 rfl (fx_is F rfl) (fx_r (b := 33) F rfl) ?_
    refine e_getIF aX8_drop_37 fX8_101 rfl (fx_is F rfl) ((rwR_I (by decide)).trans wI_s) ?_
    refine e_ireturn aX8_drop_40 rfl (Nat.le_refl _) (Nat.le_refl _) ?_
    rw [if_neg q7]
    exact ⟨rfl, r, rfl, hr⟩
  · -- 7: not taken
    have q7 : n = 0 := by
      rcases Nat.eq_zero_or_pos n with z | z
      · exact z
      · exact absurd (nI_lt (a := 0) z (by omega)) c7
    refine e_aload_n aX8_drop_10 rfl ?_
    refine e_iconst (v := 3) aX8_drop_11 (by decide) ?_
    refine e_invvT aX8_drop_12 kX8_62 (zfin X (k := 3) F (by decide)) rfl rfl (fx_is F rfl) (Nat.le_of_ble_eq_true rfl) (Nat.le_of_ble_eq_true rfl) (Nat.le_refl _) (Nat.le_refl _) (Nat.le_of_ble_eq_true rfl) ?_
    refine e_ireturn aX8_drop_15 rfl (Nat.le_refl _) (Nat.le_refl _) ?_
    rw [if_pos q7]
    exact ⟨rfl, rfl⟩
end
section
/-! contracts: prune, chain, hand, owners, sure, chance, least (written by wip/whole/g25.py) -/
def kA {α : Type} (P : Nat → Bool) (A : Nat → α) : Nat → Nat → α
  | 0 => A
  | k + 1 => if P k = true then fun j => if j = cnW P 0 k then A k else kA P A k j else kA P A k
theorem kA_ge {α : Type} {P : Nat → Bool} {A : Nat → α} : ∀ (k j : Nat), k ≤ j → kA P A k j = A j := by
  intro k
  induction k with
  | zero => intro j _; rfl
  | succ k ih =>
    intro j hj
    unfold kA
    have := cnW_le (P := P) (a := 0) k
    split
    · show (if j = cnW P 0 k then A k else kA P A k j) = A j
      rw [if_neg (by omega)]
      exact ih j (by omega)
    · exact ih j (by omega)
def prH (h : HP) (P : Nat → Bool) (A : Nat → Nat) : Nat → HP
  | 0 => h
  | k + 1 => if P k = true then wR (prH h P A k) 34 (cnW P 0 k) (some (A k)) else prH h P A k
theorem prH_F {h : HP} (F : Fx h) {P : Nat → Bool} {A : Nat → Nat} : ∀ k, Fx (prH h P A k) := by
  intro k
  induction k with
  | zero => exact F
  | succ k ih =>
    unfold prH
    split
    · exact ih.wR rfl
    · exact ih
theorem prH_I {h : HP} {P : Nat → Bool} {A : Nat → Nat} : ∀ k, hI (prH h P A k) = hI h := by
  intro k
  induction k with
  | zero => rfl
  | succ k ih =>
    unfold prH
    split
    · exact ih
    · exact ih
theorem prH_B {h : HP} {P : Nat → Bool} {A : Nat → Nat} {D : Nat → DD} {n : Nat} (b : BkD h n A D) : ∀ k, k ≤ n → BkD (prH h P A k) n (kA P A k) (kA P D k) := by
  intro k
  induction k with
  | zero => intro _; exact b
  | succ k ih =>
    intro hk
    have z := ih (by omega)
    have zk := z.2.2 k (by omega)
    rw [kA_ge k k (Nat.le_refl _), kA_ge k k (Nat.le_refl _)] at zk
    have hc := cnW_le (P := P) (a := 0) k
    by_cases q : P k = true
    · have e1 : prH h P A (k + 1) = wR (prH h P A k) 34 (cnW P 0 k) (some (A k)) := if_pos q
      have e2 : kA P A (k + 1) = fun j => if j = cnW P 0 k then A k else kA P A k j := if_pos q
      have e3 : kA P D (k + 1) = fun j => if j = cnW P 0 k then D k else kA P D k j := if_pos q
      rw [e1, e2, e3]
      refine ⟨z.1, z.2.1, fun j hj => ?_⟩
      by_cases qj : j = cnW P 0 k
      · simp only [if_pos qj]
        subst qj
        exact ⟨up2_s, zk.2.up (Up.wR (by decide))⟩
      · simp only [if_neg qj]
        exact ⟨(up2_i qj).trans (z.2.2 j hj).1, (z.2.2 j hj).2.up (Up.wR (by decide))⟩
    · have e1 : prH h P A (k + 1) = prH h P A k := if_neg q
      have e2 : kA P A (k + 1) = kA P A k := if_neg q
      have e3 : kA P D (k + 1) = kA P D k := if_neg q
      rw [e1, e2, e3]
      exact z
/-- a DEAL conveys somewhere under an OPEN STANDING -/
def kpP (D : Nat → DD) (a m : Nat) (k : Nat) : Bool := decide (0 < cnW (gvS (D k)) a m)
theorem zX8_prune (X : EX) {h : HP} (F : Fx h) {f n : Nat} {o : Nat → Nat} {A : Nat → Nat} {D : Nat → DD} (bf : BkF h f o) (b : BkD h n A D) : Ct X mX8_prune 3 0 0 [vR (some 32)] h (Rt (vI (nI (n - cnW (kpP D (fo o f) (om f)) 0 n))) (wI (prH h (kpP D (fo o f) (om f)) A n) 33 1 (nI (cnW (kpP D (fo o f) (om f)) 0 n)))) := by
  refine ct_of rfl (Nat.le_of_ble_eq_true rfl) ?_
  have hb6 := om_fo bf.2.1 bf.2.2.2
  have hn12 := b.2.1
  have loop : ∀ (m : Nat) (k : Nat), k + m = n → Ev X mX8_prune 3 0 0 (Rt (vI (nI (n - cnW (kpP D (fo o f) (om f)) 0 n))) (wI (prH h (kpP D (fo o f) (om f)) A n) 33 1 (nI (cnW (kpP D (fo o f) (om f)) 0 n)))) 0 0 12 [(0, some (vR (some 32))), (1, some (vI (nI (cnW (kpP D (fo o f) (om f)) 0 k)))), (2, some (vI (nI n))), (3, some (vI (nI k)))] [] (prH h (kpP D (fo o f) (om f)) A k) := by
    intro m
    induction m with
    | zero =>
      intro k hk
      obtain rfl : k = n := by omega
      have hkn := cnW_le (P := (kpP D (fo o f) (om f))) (a := 0) k
      have FP := prH_F (P := (kpP D (fo o f) (om f))) (A := A) F k
      refine e_iload_n aX8_prune_12 rfl ?_
      refine e_iload_n aX8_prune_13 rfl ?_
      refine e_icmp_ge aX8_prune_14 (fun c14 => ?_) (fun c14 => ?_)
      · -- 14: taken
        refine e_aload_n aX8_prune_61 rfl ?_
        refine e_getRF aX8_prune_62 fX8_10 rfl (fx_is FP rfl) (fx_r (b := 33) FP rfl) ?_
        refine e_iload_n aX8_prune_65 rfl ?_
        refine e_putI aX8_prune_66 fX8_101 rfl (fx_is FP rfl) (Or.inl rfl) ?_
        refine e_iload_n aX8_prune_69 rfl ?_
        refine e_iload_n aX8_prune_70 rfl ?_
        refine e_isub aX8_prune_71 ?_
        refine e_top (nI_subN (cnW_le _)) ?_
        refine e_ireturn aX8_prune_72 rfl (Nat.le_refl _) (Nat.le_refl _) ?_
        exact ⟨rfl, rfl⟩
      · -- 14: not taken
        exact absurd (nI_le (by omega) (by omega)) c14
    | succ m ih =>
      intro k hk
      have hkn := cnW_le (P := (kpP D (fo o f) (om f))) (a := 0) k
      have hkm := cnW_le (P := gvS (D k)) (a := fo o f) (om f)
      have FP := prH_F (P := (kpP D (fo o f) (om f))) (A := A) F k
      have BP := prH_B (P := (kpP D (fo o f) (om f))) b k (by omega)
      have bfP : BkF (prH h (kpP D (fo o f) (om f)) A k) f o := bf.up (fun j => by rw [prH_I]) (fun j => by rw [prH_I])
      have kdP := (BP.2.2 k (by omega)).2
      rw [kA_ge k k (Nat.le_refl _), kA_ge k k (Nat.le_refl _)] at kdP
      refine e_iload_n aX8_prune_12 rfl ?_
      refine e_iload_n aX8_prune_13 rfl ?_
      refine e_icmp_ge aX8_prune_14 (fun c14 => ?_) (fun c14 => ?_)
      · -- 14: taken
        exact absurd c14 (nI_ge (by omega) (by omega))
      · -- 14: not taken
        refine e_aload_n aX8_prune_17 rfl ?_
        refine e_getRF aX8_prune_18 fX8_10 rfl (fx_is FP rfl) (fx_r (b := 33) FP rfl) ?_
        refine e_iload_n aX8_prune_21 rfl ?_
        refine e_invvT aX8_prune_22 kX8_128 (zX0_dealAt_in X FP BP (k := k) (by omega)) rfl rfl (fx_is FP rfl) (Nat.le_of_ble_eq_true rfl) (Nat.le_of_ble_eq_true rfl) (Nat.le_refl _) (Nat.le_refl _) (Nat.le_of_ble_eq_true rfl) ?_
        rw [kA_ge k k (Nat.le_refl _)]
        refine e_astore aX8_prune_25 (Nat.le_of_ble_eq_true rfl) ?_
        refine e_aload aX8_prune_27 rfl ?_
        refine e_ifnull aX8_prune_29 (fun c29 => ?_) (fun r29 c29 => ?_)
        · -- 29: taken
          exact absurd c29 (by simp)
        · -- 29: not taken
          refine e_aload_n aX8_prune_32 rfl ?_
          refine e_aload aX8_prune_33 rfl ?_
          refine e_invvT aX8_prune_35 kX8_153 (zX8_countConveying X FP bfP kdP) rfl rfl (fx_is FP rfl) (Nat.le_of_ble_eq_true rfl) (Nat.le_of_ble_eq_true rfl) (Nat.le_refl _) (Nat.le_refl _) (Nat.le_of_ble_eq_true rfl) ?_
          refine e_if_le aX8_prune_38 (fun c38 => ?_) (fun c38 => ?_)
          · -- 38: taken
            have q38 : (kpP D (fo o f) (om f)) k = false := decide_eq_false (fun z => absurd c38 (Int32.not_le.mpr (nI_lt (a := 0) z (by omega))))
            refine e_iinc aX8_prune_55 rfl rfl (Nat.le_of_ble_eq_true rfl) ?_
            refine e_goto aX8_prune_58 ?_
            refine e_ls (ls' := [(0, some (vR (some 32))), (1, some (vI (nI (cnW (kpP D (fo o f) (om f)) 0 (k + 1))))), (2, some (vI (nI n))), (3, some (vI (nI (k + 1))))]) ⟨rfl, congrArg (fun x => some (vI x)) (congrArg nI (cnW_f (P := (kpP D (fo o f) (om f))) (a := 0) (m := k) (by rw [Nat.zero_add]; exact q38)).symm), rfl, congrArg (fun x => some (vI x)) (nI_1 k), trivial⟩ ?_
            refine e_hp (h2 := (prH h (kpP D (fo o f) (om f)) A (k + 1))) (if_neg (by rw [q38]; decide)).symm ?_
            exact ih (k + 1) (by omega)
          · -- 38: not taken
            have q38 : (kpP D (fo o f) (om f)) k = true := decide_eq_true (by
              rcases Nat.eq_zero_or_pos (cnW (gvS (D k)) (fo o f) (om f)) with z | z
              · exact absurd (by rw [z]; decide) c38
              · exact z)
            refine e_aload_n aX8_prune_41 rfl ?_
            refine e_getRF aX8_prune_42 fX8_10 rfl (fx_is FP rfl) (fx_r (b := 33) FP rfl) ?_
            refine e_getRF aX8_prune_45 fX8_166 rfl (fx_is FP rfl) (fx_r (b := 34) FP rfl) ?_
            refine e_iload_n aX8_prune_48 rfl ?_
            refine e_aload aX8_prune_49 rfl ?_
            refine e_aastoreF (t := 17) aX8_prune_51 (fx_is FP rfl) (by decide) (by decide) kdP.2.1 (fx_n (n := 12) FP rfl) (vin (N := 12) (by omega)) ?_
            rw [cl (by omega)]
            refine e_iinc aX8_prune_52 rfl rfl (Nat.le_of_ble_eq_true rfl) ?_
            refine e_iinc aX8_prune_55 rfl rfl (Nat.le_of_ble_eq_true rfl) ?_
            refine e_goto aX8_prune_58 ?_
            refine e_ls (ls' := [(0, some (vR (some 32))), (1, some (vI (nI (cnW (kpP D (fo o f) (om f)) 0 (k + 1))))), (2, some (vI (nI n))), (3, some (vI (nI (k + 1))))]) ⟨rfl, congrArg (fun x => some (vI x)) ((nI_1 _).trans (congrArg nI (cnW_t (P := (kpP D (fo o f) (om f))) (a := 0) (m := k) (by rw [Nat.zero_add]; exact q38)).symm)), rfl, congrArg (fun x => some (vI x)) (nI_1 k), trivial⟩ ?_
            refine e_hp (h2 := (prH h (kpP D (fo o f) (om f)) A (k + 1))) (if_pos q38).symm ?_
            exact ih (k + 1) (by omega)
  refine e_iconst (v := 0) aX8_prune_0 (by decide) ?_
  refine e_istore_n aX8_prune_1 (Nat.le_of_ble_eq_true rfl) ?_
  refine e_aload_n aX8_prune_2 rfl ?_
  refine e_getRF aX8_prune_3 fX8_10 rfl (fx_is F rfl) (fx_r (b := 33) F rfl) ?_
  refine e_getIF aX8_prune_6 fX8_101 rfl (fx_is F rfl) b.1 ?_
  refine e_istore_n aX8_prune_9 (Nat.le_of_ble_eq_true rfl) ?_
  refine e_iconst (v := 0) aX8_prune_10 (by decide) ?_
  refine e_istore_n aX8_prune_11 (Nat.le_of_ble_eq_true rfl) ?_
  refine e_ls (ls' := [(0, some (vR (some 32))), (1, some (vI (nI (cnW (kpP D (fo o f) (om f)) 0 0)))), (2, some (vI (nI n))), (3, some (vI (nI 0)))]) ⟨rfl, rfl, rfl, rfl, trivial⟩ ?_
  exact loop n 0 (by omega)
/-- the last CLUB and the length of a chain, walked until it is x long -/
def chn (D : Nat → DD) (s p : Nat) (x : Int32) : Nat → Nat → Nat → Nat → Nat × Nat
  | _, 0, c, l => (c, l)
  | k, m + 1, c, l => if nI l = x then (c, l) else match tk (D k) s p with
    | none => chn D s p x (k + 1) m c l
    | some t => chn D s p x (k + 1) m t (l + 1)
theorem chn_s {D : Nat → DD} {s p : Nat} {x : Int32} {k m cz lz : Nat} : chn D s p x k (m + 1) cz lz = if nI lz = x then (cz, lz) else match tk (D k) s p with
    | none => chn D s p x (k + 1) m cz lz
    | some t => chn D s p x (k + 1) m t (lz + 1) := rfl
theorem zX8_chain (X : EX) {h : HP} (F : Fx h) {f n : Nat} {o : Nat → Nat} {A : Nat → Nat} {D : Nat → DD} (bf : BkF h f o) (b : BkD h n A D) (x y w : Int32) : Ct X mX8_chain 3 0 0 [vR (some 32), vI x, vI y, vI w] h (if nI (fo o f) ≤ x ∧ x < nI (fo o f + om f) then if y < 0 ∨ 12 ≤ y then RF h 0 else (if w = -1 then Rt (vI (nI (chn D x.toNatClampNeg y.toNatClampNeg (w + 1) 0 n (y.toNatClampNeg % 3) 1).2)) h else if nI (chn D x.toNatClampNeg y.toNatClampNeg (w + 1) 0 n (y.toNatClampNeg % 3) 1).2 = w + 1 then Rt (vI (nI (chn D x.toNatClampNeg y.toNatClampNeg (w + 1) 0 n (y.toNatClampNeg % 3) 1).1)) h else RF h 3) else RF h 0) := by
  refine ct_of rfl (Nat.le_of_ble_eq_true rfl) ?_
  have hb6 := om_fo bf.2.1 bf.2.2.2
  have hn12 := b.2.1
  refine e_aload_n aX8_chain_0 rfl ?_
  refine e_getRF aX8_chain_1 fX8_10 rfl (fx_is F rfl) (fx_r (b := 33) F rfl) ?_
  refine e_iload_n aX8_chain_4 rfl ?_
  refine e_invvT aX8_chain_5 kX8_169 (zX0_isOpen X F bf _) rfl rfl (fx_is F rfl) (Nat.le_of_ble_eq_true rfl) (Nat.le_of_ble_eq_true rfl) (Nat.le_refl _) (Nat.le_refl _) (Nat.le_of_ble_eq_true rfl) ?_
  refine e_if_eq aX8_chain_8 (fun c8 => ?_) (fun c8 => ?_)
  · -- 8: taken
    have q8 := b2_0.mp c8
    refine e_aload_n aX8_chain_20 rfl ?_
    refine e_iconst (v := 0) aX8_chain_21 (by decide) ?_
    refine e_invvT aX8_chain_22 kX8_62 (zfin X (k := 0) F (by decide)) rfl rfl (fx_is F rfl) (Nat.le_of_ble_eq_true rfl) (Nat.le_of_ble_eq_true rfl) (Nat.le_refl _) (Nat.le_refl _) (Nat.le_of_ble_eq_true rfl) ?_
    refine e_ireturn aX8_chain_25 rfl (Nat.le_refl _) (Nat.le_refl _) ?_
    rw [if_neg q8]
    exact ⟨rfl, rfl⟩
  · -- 8: not taken
    have q8 := Decidable.of_not_not (fun z => c8 (b2_0.mpr z))
    obtain ⟨sz, hs1, hs2, rfl⟩ := opn_of (Nat.le_add_right _ _) hb6 q8
    refine e_iload_n aX8_chain_11 rfl ?_
    refine e_bipush (v := 12) aX8_chain_12 (by decide) ?_
    refine e_invsT aX8_chain_14 kX8_58 (zX8_isOutside X _ _) rfl rfl (Nat.le_of_ble_eq_true rfl) (Nat.le_of_ble_eq_true rfl) (Nat.le_refl _) (Nat.le_refl _) (Nat.le_of_ble_eq_true rfl) ?_
    refine e_if_eq aX8_chain_17 (fun c17 => ?_) (fun c17 => ?_)
    · -- 17: taken
      have q17 := b2_0.mp c17
      obtain ⟨pz, hp, rfl⟩ := ou_of 12 (by decide) q17
      rw [if_pos q8, if_neg q17, cl (by omega), cl (by omega)]
      have hs : sz < 1296 := by omega
      have tail : ∀ (cz lz : Nat), (chn D sz pz (w + 1) 0 n (pz % 3) 1) = (cz, lz) → Ev X mX8_chain 3 0 0 (if w = -1 then Rt (vI (nI (chn D sz pz (w + 1) 0 n (pz % 3) 1).2)) h else if nI (chn D sz pz (w + 1) 0 n (pz % 3) 1).2 = w + 1 then Rt (vI (nI (chn D sz pz (w + 1) 0 n (pz % 3) 1).1)) h else RF h 3) 0 0 104 [(0, some (vR (some 32))), (3, some (vI w)), (4, some (vI (nI cz))), (5, some (vI (nI lz)))] [] h := by
        intro cz lz hR9
        refine e_iload_n aX8_chain_104 rfl ?_
        refine e_iconst (v := -1) aX8_chain_105 (by decide) ?_
        refine e_icmp_ne aX8_chain_106 (fun c106 => ?_) (fun c106 => ?_)
        · -- 106: taken
          have q106 : ¬ w = -1 := c106
          refine e_iload aX8_chain_112 rfl ?_
          refine e_iload_n aX8_chain_114 rfl ?_
          refine e_iconst (v := 1) aX8_chain_115 (by decide) ?_
          refine e_iadd aX8_chain_116 ?_
          refine e_icmp_ne aX8_chain_117 (fun c117 => ?_) (fun c117 => ?_)
          · -- 117: taken
            have q117 : ¬ nI lz = w + 1 := c117
            refine e_aload_n aX8_chain_125 rfl ?_
            refine e_iconst (v := 3) aX8_chain_126 (by decide) ?_
            refine e_invvT aX8_chain_127 kX8_62 (zfin X (k := 3) F (by decide)) rfl rfl (fx_is F rfl) (Nat.le_of_ble_eq_true rfl) (Nat.le_of_ble_eq_true rfl) (Nat.le_refl _) (Nat.le_refl _) (Nat.le_of_ble_eq_true rfl) ?_
            refine e_ireturn aX8_chain_130 rfl (Nat.le_refl _) (Nat.le_refl _) ?_
            rw [hR9, if_neg q106, if_neg q117]
            exact ⟨rfl, rfl⟩
          · -- 117: not taken
            have q117 : nI lz = w + 1 := c117
            refine e_iload aX8_chain_120 rfl ?_
            refine e_goto aX8_chain_122 ?_
            refine e_ireturn aX8_chain_130 rfl (Nat.le_refl _) (Nat.le_refl _) ?_
            rw [hR9, if_neg q106, if_pos q117]
            exact ⟨rfl, rfl⟩
        · -- 106: not taken
          have q106 : w = -1 := c106
          refine e_iload aX8_chain_109 rfl ?_
          refine e_ireturn aX8_chain_111 rfl (Nat.le_refl _) (Nat.le_refl _) ?_
          rw [hR9, if_pos q106]
          exact ⟨rfl, rfl⟩
      have loop : ∀ (m : Nat) (k cz lz : Nat), k + m = n → chn D sz pz (w + 1) k m cz lz = (chn D sz pz (w + 1) 0 n (pz % 3) 1) → Ev X mX8_chain 3 0 0 (if w = -1 then Rt (vI (nI (chn D sz pz (w + 1) 0 n (pz % 3) 1).2)) h else if nI (chn D sz pz (w + 1) 0 n (pz % 3) 1).2 = w + 1 then Rt (vI (nI (chn D sz pz (w + 1) 0 n (pz % 3) 1).1)) h else RF h 3) 0 0 37 [(0, some (vR (some 32))), (1, some (vI (nI sz))), (2, some (vI (nI pz))), (3, some (vI w)), (4, some (vI (nI cz))), (5, some (vI (nI lz))), (6, some (vI (nI k)))] [] h := by
        intro m
        induction m with
        | zero =>
          intro k cz lz hk hR9
          obtain rfl : n = k := by omega
          refine e_iload aX8_chain_37 rfl ?_
          refine e_aload_n aX8_chain_39 rfl ?_
          refine e_getRF aX8_chain_40 fX8_10 rfl (fx_is F rfl) (fx_r (b := 33) F rfl) ?_
          refine e_getIF aX8_chain_43 fX8_101 rfl (fx_is F rfl) b.1 ?_
          refine e_icmp_ge aX8_chain_46 (fun c46 => ?_) (fun c46 => ?_)
          · -- 46: taken
            refine e_ls (ls' := [(0, some (vR (some 32))), (3, some (vI w)), (4, some (vI (nI cz))), (5, some (vI (nI lz)))]) ⟨rfl, rfl, rfl, rfl, trivial⟩ ?_
            exact tail cz lz hR9.symm
          · -- 46: not taken
            exact absurd (nI_le (by omega) (by omega)) c46
        | succ m ih =>
          intro k cz lz hk hR9
          have htk : ∀ p, tk (D k) sz pz = some p → p < 1073741824 := fun p q => by have := (tk_lt (b.2.2 k (by omega)).2.2.2.1 q).1; omega
          refine e_iload aX8_chain_37 rfl ?_
          refine e_aload_n aX8_chain_39 rfl ?_
          refine e_getRF aX8_chain_40 fX8_10 rfl (fx_is F rfl) (fx_r (b := 33) F rfl) ?_
          refine e_getIF aX8_chain_43 fX8_101 rfl (fx_is F rfl) b.1 ?_
          refine e_icmp_ge aX8_chain_46 (fun c46 => ?_) (fun c46 => ?_)
          · -- 46: taken
            exact absurd c46 (nI_ge (by omega) (by omega))
          · -- 46: not taken
            refine e_iload aX8_chain_49 rfl ?_
            refine e_iload_n aX8_chain_51 rfl ?_
            refine e_iconst (v := 1) aX8_chain_52 (by decide) ?_
            refine e_iadd aX8_chain_53 ?_
            refine e_icmp_eq aX8_chain_54 (fun c54 => ?_) (fun c54 => ?_)
            · -- 54: taken
              have q54 : nI lz = w + 1 := c54
              refine e_ls (ls' := [(0, some (vR (some 32))), (3, some (vI w)), (4, some (vI (nI cz))), (5, some (vI (nI lz)))]) ⟨rfl, rfl, rfl, rfl, trivial⟩ ?_
              exact tail cz lz (by rw [← hR9, chn_s, if_pos q54])
            · -- 54: not taken
              have q54 : ¬ nI lz = w + 1 := c54
              refine e_aload_n aX8_chain_57 rfl ?_
              refine e_getRF aX8_chain_58 fX8_10 rfl (fx_is F rfl) (fx_r (b := 33) F rfl) ?_
              refine e_iload aX8_chain_61 rfl ?_
              refine e_invvT aX8_chain_63 kX8_128 (zX0_dealAt_in X F b (k := k) (by omega)) rfl rfl (fx_is F rfl) (Nat.le_of_ble_eq_true rfl) (Nat.le_of_ble_eq_true rfl) (Nat.le_refl _) (Nat.le_refl _) (Nat.le_of_ble_eq_true rfl) ?_
              refine e_astore aX8_chain_66 (Nat.le_of_ble_eq_true rfl) ?_
              refine e_aload aX8_chain_68 rfl ?_
              refine e_ifnonnull aX8_chain_70 (fun r70 c70 => ?_) (fun c70 => ?_)
              · -- 70: taken
                refine e_aload aX8_chain_77 rfl ?_
                refine e_iload_n aX8_chain_79 rfl ?_
                refine e_iload_n aX8_chain_80 rfl ?_
                refine e_invvT aX8_chain_81 kX8_175 (zX1_takerOf X (b.2.2 k (by omega)).2 hs hp) rfl rfl (b.2.2 k (by omega)).2.2.1 (Nat.le_of_ble_eq_true rfl) (Nat.le_of_ble_eq_true rfl) (Nat.le_refl _) (Nat.le_refl _) (Nat.le_of_ble_eq_true rfl) ?_
                refine e_istore aX8_chain_84 (Nat.le_of_ble_eq_true rfl) ?_
                refine e_iload aX8_chain_86 rfl ?_
                refine e_if_lt aX8_chain_88 (fun c88 => ?_) (fun c88 => ?_)
                · -- 88: taken
                  have q88 := (oI_neg (q := tk (D k) sz pz) htk).mp c88
                  refine e_iinc aX8_chain_98 rfl rfl (Nat.le_of_ble_eq_true rfl) ?_
                  refine e_goto aX8_chain_101 ?_
                  refine e_ls (ls' := [(0, some (vR (some 32))), (1, some (vI (nI sz))), (2, some (vI (nI pz))), (3, some (vI w)), (4, some (vI (nI cz))), (5, some (vI (nI lz))), (6, some (vI (nI (k + 1))))]) ⟨rfl, rfl, rfl, rfl, rfl, rfl, congrArg (fun x => some (vI x)) (nI_1 k), trivial⟩ ?_
                  exact ih (k + 1) cz lz (by omega) (by rw [← hR9, chn_s, if_neg q54, q88])
                · -- 88: not taken
                  obtain ⟨tz, q88⟩ := Option.ne_none_iff_exists'.mp ((not_congr (oI_neg (q := tk (D k) sz pz) htk)).mp c88)
                  refine e_iload aX8_chain_91 rfl ?_
                  refine e_istore aX8_chain_93 (Nat.le_of_ble_eq_true rfl) ?_
                  refine e_iinc aX8_chain_95 rfl rfl (Nat.le_of_ble_eq_true rfl) ?_
                  refine e_iinc aX8_chain_98 rfl rfl (Nat.le_of_ble_eq_true rfl) ?_
                  refine e_goto aX8_chain_101 ?_
                  refine e_ls (ls' := [(0, some (vR (some 32))), (1, some (vI (nI sz))), (2, some (vI (nI pz))), (3, some (vI w)), (4, some (vI (nI tz))), (5, some (vI (nI (lz + 1)))), (6, some (vI (nI (k + 1))))]) ⟨rfl, rfl, rfl, rfl, congrArg (fun x => some (vI (oI x))) q88, congrArg (fun x => some (vI x)) (nI_1 lz), congrArg (fun x => some (vI x)) (nI_1 k), trivial⟩ ?_
                  exact ih (k + 1) tz (lz + 1) (by omega) (by rw [← hR9, chn_s, if_neg q54, q88])
              · -- 70: not taken
                exact absurd c70 (by simp)
      refine e_iload_n aX8_chain_26 rfl ?_
      refine e_iconst (v := 3) aX8_chain_27 (by decide) ?_
      refine e_irem aX8_chain_28 (by decide) ?_
      refine e_top (nI_rem (b := 3) (by omega) (by decide) (by decide)) ?_
      refine e_istore aX8_chain_29 (Nat.le_of_ble_eq_true rfl) ?_
      refine e_iconst (v := 1) aX8_chain_31 (by decide) ?_
      refine e_istore aX8_chain_32 (Nat.le_of_ble_eq_true rfl) ?_
      refine e_iconst (v := 0) aX8_chain_34 (by decide) ?_
      refine e_istore aX8_chain_35 (Nat.le_of_ble_eq_true rfl) ?_
      refine e_ls (ls' := [(0, some (vR (some 32))), (1, some (vI (nI sz))), (2, some (vI (nI pz))), (3, some (vI w)), (4, some (vI (nI (pz % 3)))), (5, some (vI (nI 1))), (6, some (vI (nI 0)))]) ⟨rfl, rfl, rfl, rfl, rfl, rfl, rfl, trivial⟩ ?_
      exact loop n 0 (pz % 3) 1 (by omega) rfl
    · -- 17: not taken
      have q17 := Decidable.of_not_not (fun z => c17 (b2_0.mpr z))
      refine e_aload_n aX8_chain_20 rfl ?_
      refine e_iconst (v := 0) aX8_chain_21 (by decide) ?_
      refine e_invvT aX8_chain_22 kX8_62 (zfin X (k := 0) F (by decide)) rfl rfl (fx_is F rfl) (Nat.le_of_ble_eq_true rfl) (Nat.le_of_ble_eq_true rfl) (Nat.le_refl _) (Nat.le_refl _) (Nat.le_of_ble_eq_true rfl) ?_
      refine e_ireturn aX8_chain_25 rfl (Nat.le_refl _) (Nat.le_refl _) ?_
      rw [if_pos q8, if_pos q17]
      exact ⟨rfl, rfl⟩
end
section
/-! contracts: hand, owners, sure, chance, least, what it is worth (written by wip/whole/g26.py) -/
/-- sets of PICKS and CLUBS, sums of worths -/
def hnR (P : Nat → Bool) : Nat → Int32
  | 0 => 0
  | p + 1 => if P p = true then hnR P p ||| ((1 : Int32) <<< (nI p &&& 31)) else hnR P p
def evR (g : Nat → Int32) (a : Nat) : Nat → Int32
  | 0 => 0
  | m + 1 => evR g a m ||| ((1 : Int32) <<< (g (a + m) &&& 31))
def atB (h : HP) (s : Nat) (y : Int32) (p : Nat) : Bool := decide (dgt (hI h 39 s) p = y)
def atS (h : HP) (p : Nat) (y : Int32) (s : Nat) : Bool := decide (dgt (hI h 39 s) p = y)
def wuR (h : HP) (s : Nat) (y : Int32) : Nat → Int32
  | 0 => 0
  | p + 1 => if dgt (hI h 39 s) p = y then wuR h s y p + hI h 36 (pl s p) else wuR h s y p
def woR (h : HP) (y : Int32) (a : Nat) : Nat → Int64
  | 0 => 0
  | m + 1 => woR h y a m + (wuR h (a + m) y 12).toInt64
def bsR (h : HP) (y w : Int32) : Nat → Nat → Nat → Int32 → Nat
  | _, 0, c, _ => c
  | k, m + 1, c, v => if (if w = 0 then v < wuR h k y 12 else wuR h k y 12 < v) then bsR h y w (k + 1) m k (wuR h k y 12) else bsR h y w (k + 1) m c v
def hpR (h : HP) (y : Int32) (a q : Nat) : Nat → Nat → Nat → Int64 → Nat
  | _, 0, c, _ => c
  | k, m + 1, c, v => if lg_cmp (woR h y (a + k * q) q) v ≤ 0 then hpR h y a q (k + 1) m c v else hpR h y a q (k + 1) m k (woR h y (a + k * q) q)
theorem hnR_s {P : Nat → Bool} {p : Nat} : hnR P (p + 1) = if P p = true then hnR P p ||| ((1 : Int32) <<< (nI p &&& 31)) else hnR P p := rfl
theorem wuR_s {h : HP} {s p : Nat} {y : Int32} : wuR h s y (p + 1) = if dgt (hI h 39 s) p = y then wuR h s y p + hI h 36 (pl s p) else wuR h s y p := rfl
theorem bsR_s {h : HP} {y w v : Int32} {k m cz : Nat} : bsR h y w k (m + 1) cz v = if (if w = 0 then v < wuR h k y 12 else wuR h k y 12 < v) then bsR h y w (k + 1) m k (wuR h k y 12) else bsR h y w (k + 1) m cz v := rfl
theorem hpR_s {h : HP} {y : Int32} {a9 qz k m cz : Nat} {v : Int64} : hpR h y a9 qz k (m + 1) cz v = if lg_cmp (woR h y (a9 + k * qz) qz) v ≤ 0 then hpR h y a9 qz (k + 1) m cz v else hpR h y a9 qz (k + 1) m k (woR h y (a9 + k * qz) qz) := rfl
theorem zX8_hand (X : EX) {h : HP} (F : Fx h) {f : Nat} {o : Nat → Nat} (bf : BkF h f o) (x y : Int32) : Ct X mX8_hand 3 0 0 [vR (some 32), vI x, vI y] h (if nI (fo o f) ≤ x ∧ x < nI (fo o f + om f) then if y < 0 ∨ 3 ≤ y then RF h 0 else Rt (vI (hnR (atB h x.toNatClampNeg y) 12)) h else RF h 0) := by
  refine ct_of rfl (Nat.le_of_ble_eq_true rfl) ?_
  have hb6 := om_fo bf.2.1 bf.2.2.2
  refine e_aload_n aX8_hand_0 rfl ?_
  refine e_getRF aX8_hand_1 fX8_10 rfl (fx_is F rfl) (fx_r (b := 33) F rfl) ?_
  refine e_iload_n aX8_hand_4 rfl ?_
  refine e_invvT aX8_hand_5 kX8_169 (zX0_isOpen X F bf _) rfl rfl (fx_is F rfl) (Nat.le_of_ble_eq_true rfl) (Nat.le_of_ble_eq_true rfl) (Nat.le_refl _) (Nat.le_refl _) (Nat.le_of_ble_eq_true rfl) ?_
  refine e_if_eq aX8_hand_8 (fun c8 => ?_) (fun c8 => ?_)
  · -- 8: taken
    have q8 := b2_0.mp c8
    refine e_aload_n aX8_hand_19 rfl ?_
    refine e_iconst (v := 0) aX8_hand_20 (by decide) ?_
    refine e_invvT aX8_hand_21 kX8_62 (zfin X (k := 0) F (by decide)) rfl rfl (fx_is F rfl) (Nat.le_of_ble_eq_true rfl) (Nat.le_of_ble_eq_true rfl) (Nat.le_refl _) (Nat.le_refl _) (Nat.le_of_ble_eq_true rfl) ?_
    refine e_ireturn aX8_hand_24 rfl (Nat.le_refl _) (Nat.le_refl _) ?_
    rw [if_neg q8]
    exact ⟨rfl, rfl⟩
  · -- 8: not taken
    have q8 := Decidable.of_not_not (fun z => c8 (b2_0.mpr z))
    obtain ⟨sz, hs1, hs2, rfl⟩ := opn_of (Nat.le_add_right _ _) hb6 q8
    refine e_iload_n aX8_hand_11 rfl ?_
    refine e_iconst (v := 3) aX8_hand_12 (by decide) ?_
    refine e_invsT aX8_hand_13 kX8_58 (zX8_isOutside X _ _) rfl rfl (Nat.le_of_ble_eq_true rfl) (Nat.le_of_ble_eq_true rfl) (Nat.le_refl _) (Nat.le_refl _) (Nat.le_of_ble_eq_true rfl) ?_
    refine e_if_eq aX8_hand_16 (fun c16 => ?_) (fun c16 => ?_)
    · -- 16: taken
      have q16 := b2_0.mp c16
      obtain ⟨iz, hi3, rfl⟩ := ou_of 3 (by decide) q16
      rw [if_pos q8, if_neg q16, cl (by omega)]
      have hs : sz < 1296 := by omega
      have loop : ∀ (m : Nat) (k : Nat), k + m = 12 → Ev X mX8_hand 3 0 0 (Rt (vI (hnR (atB h sz (nI iz)) 12)) h) 0 0 30 [(0, some (vR (some 32))), (1, some (vI (nI sz))), (2, some (vI (nI iz))), (3, some (vI (hnR (atB h sz (nI iz)) k))), (4, some (vI (nI k)))] [] h := by
        intro m
        induction m with
        | zero =>
          intro k hk
          obtain rfl : k = 12 := by omega
          refine e_iload aX8_hand_30 rfl ?_
          refine e_bipush (v := 12) aX8_hand_32 (by decide) ?_
          refine e_icmp_ge aX8_hand_34 (fun c34 => ?_) (fun c34 => ?_)
          · -- 34: taken
            refine e_iload_n aX8_hand_64 rfl ?_
            refine e_ireturn aX8_hand_65 rfl (Nat.le_refl _) (Nat.le_refl _) ?_
            exact ⟨rfl, rfl⟩
          · -- 34: not taken
            exact absurd (nI_le (a := 12) (b := 12) (by decide) (by decide)) c34
        | succ m ih =>
          intro k hk
          refine e_iload aX8_hand_30 rfl ?_
          refine e_bipush (v := 12) aX8_hand_32 (by decide) ?_
          refine e_icmp_ge aX8_hand_34 (fun c34 => ?_) (fun c34 => ?_)
          · -- 34: taken
            exact absurd c34 (nI_ge (a := k) (b := 12) (by omega) (by decide))
          · -- 34: not taken
            refine e_aload_n aX8_hand_37 rfl ?_
            refine e_getRF aX8_hand_38 fX8_23 rfl (fx_is F rfl) (fx_r (b := 38) F rfl) ?_
            refine e_iload_n aX8_hand_41 rfl ?_
            refine e_iload aX8_hand_42 rfl ?_
            refine e_invvT aX8_hand_44 kX8_172 (zX2_at X F (s := sz) (p := k) hs (by omega)) rfl rfl (fx_is F rfl) (Nat.le_of_ble_eq_true rfl) (Nat.le_of_ble_eq_true rfl) (Nat.le_refl _) (Nat.le_refl _) (Nat.le_of_ble_eq_true rfl) ?_
            refine e_iload_n aX8_hand_47 rfl ?_
            refine e_icmp_ne aX8_hand_48 (fun c48 => ?_) (fun c48 => ?_)
            · -- 48: taken
              refine e_iinc aX8_hand_58 rfl rfl (Nat.le_of_ble_eq_true rfl) ?_
              refine e_goto aX8_hand_61 ?_
              refine e_ls (ls' := [(0, some (vR (some 32))), (1, some (vI (nI sz))), (2, some (vI (nI iz))), (3, some (vI (hnR (atB h sz (nI iz)) (k + 1)))), (4, some (vI (nI (k + 1))))]) ⟨rfl, rfl, rfl, congrArg (fun x => some (vI x)) ((hnR_s.trans (if_neg (fun z => c48 (of_decide_eq_true z)))).symm), congrArg (fun x => some (vI x)) (nI_1 k), trivial⟩ ?_
              exact ih (k + 1) (by omega)
            · -- 48: not taken
              refine e_iload_n aX8_hand_51 rfl ?_
              refine e_iconst (v := 1) aX8_hand_52 (by decide) ?_
              refine e_iload aX8_hand_53 rfl ?_
              refine e_ishl aX8_hand_55 ?_
              refine e_ior aX8_hand_56 ?_
              refine e_istore_n aX8_hand_57 (Nat.le_of_ble_eq_true rfl) ?_
              refine e_iinc aX8_hand_58 rfl rfl (Nat.le_of_ble_eq_true rfl) ?_
              refine e_goto aX8_hand_61 ?_
              refine e_ls (ls' := [(0, some (vR (some 32))), (1, some (vI (nI sz))), (2, some (vI (nI iz))), (3, some (vI (hnR (atB h sz (nI iz)) (k + 1)))), (4, some (vI (nI (k + 1))))]) ⟨rfl, rfl, rfl, congrArg (fun x => some (vI x)) ((hnR_s.trans (if_pos (decide_eq_true c48))).symm), congrArg (fun x => some (vI x)) (nI_1 k), trivial⟩ ?_
              exact ih (k + 1) (by omega)
      refine e_iconst (v := 0) aX8_hand_25 (by decide) ?_
      refine e_istore_n aX8_hand_26 (Nat.le_of_ble_eq_true rfl) ?_
      refine e_iconst (v := 0) aX8_hand_27 (by decide) ?_
      refine e_istore aX8_hand_28 (Nat.le_of_ble_eq_true rfl) ?_
      refine e_ls (ls' := [(0, some (vR (some 32))), (1, some (vI (nI sz))), (2, some (vI (nI iz))), (3, some (vI (hnR (atB h sz (nI iz)) 0))), (4, some (vI (nI 0)))]) ⟨rfl, rfl, rfl, rfl, rfl, trivial⟩ ?_
      exact loop 12 0 rfl
    · -- 16: not taken
      have q16 := Decidable.of_not_not (fun z => c16 (b2_0.mpr z))
      refine e_aload_n aX8_hand_19 rfl ?_
      refine e_iconst (v := 0) aX8_hand_20 (by decide) ?_
      refine e_invvT aX8_hand_21 kX8_62 (zfin X (k := 0) F (by decide)) rfl rfl (fx_is F rfl) (Nat.le_of_ble_eq_true rfl) (Nat.le_of_ble_eq_true rfl) (Nat.le_refl _) (Nat.le_refl _) (Nat.le_of_ble_eq_true rfl) ?_
      refine e_ireturn aX8_hand_24 rfl (Nat.le_refl _) (Nat.le_refl _) ?_
      rw [if_pos q8, if_pos q16]
      exact ⟨rfl, rfl⟩
theorem zX8_everOwners (X : EX) {h : HP} (F : Fx h) {f : Nat} {o : Nat → Nat} (bf : BkF h f o) {pz : Nat} (hp : pz < 12) : Ct X mX8_everOwners 2 0 0 [vR (some 32), vI (nI pz)] h (Rt (vI (evR (fun s => dgt (hI h 39 s) pz) (fo o f) (om f))) h) := by
  refine ct_of rfl (Nat.le_of_ble_eq_true rfl) ?_
  have hb6 := om_fo bf.2.1 bf.2.2.2
  have loop : ∀ (m : Nat) (k : Nat), k + m = om f → Ev X mX8_everOwners 2 0 0 (Rt (vI (evR (fun s => dgt (hI h 39 s) pz) (fo o f) (om f))) h) 0 0 19 [(0, some (vR (some 32))), (1, some (vI (nI pz))), (2, some (vI (evR (fun s => dgt (hI h 39 s) pz) (fo o f) k))), (3, some (vI (nI (fo o f + om f)))), (4, some (vI (nI (fo o f + k))))] [] h := by
    intro m
    induction m with
    | zero =>
      intro k hk
      obtain rfl : k = om f := by omega
      refine e_iload aX8_everOwners_19 rfl ?_
      refine e_iload_n aX8_everOwners_21 rfl ?_
      refine e_icmp_ge aX8_everOwners_22 (fun c22 => ?_) (fun c22 => ?_)
      · -- 22: taken
        refine e_iload_n aX8_everOwners_46 rfl ?_
        refine e_ireturn aX8_everOwners_47 rfl (Nat.le_refl _) (Nat.le_refl _) ?_
        exact ⟨rfl, rfl⟩
      · -- 22: not taken
        exact absurd (nI_le (by omega) (by omega)) c22
    | succ m ih =>
      intro k hk
      refine e_iload aX8_everOwners_19 rfl ?_
      refine e_iload_n aX8_everOwners_21 rfl ?_
      refine e_icmp_ge aX8_everOwners_22 (fun c22 => ?_) (fun c22 => ?_)
      · -- 22: taken
        exact absurd c22 (nI_ge (by omega) (by omega))
      · -- 22: not taken
        refine e_iload_n aX8_everOwners_25 rfl ?_
        refine e_iconst (v := 1) aX8_everOwners_26 (by decide) ?_
        refine e_aload_n aX8_everOwners_27 rfl ?_
        refine e_getRF aX8_everOwners_28 fX8_23 rfl (fx_is F rfl) (fx_r (b := 38) F rfl) ?_
        refine e_iload aX8_everOwners_31 rfl ?_
        refine e_iload_n aX8_everOwners_33 rfl ?_
        refine e_invvT aX8_everOwners_34 kX8_172 (zX2_at X F (s := fo o f + k) (by omega) hp) rfl rfl (fx_is F rfl) (Nat.le_of_ble_eq_true rfl) (Nat.le_of_ble_eq_true rfl) (Nat.le_refl _) (Nat.le_refl _) (Nat.le_of_ble_eq_true rfl) ?_
        refine e_ishl aX8_everOwners_37 ?_
        refine e_ior aX8_everOwners_38 ?_
        refine e_istore_n aX8_everOwners_39 (Nat.le_of_ble_eq_true rfl) ?_
        refine e_iinc aX8_everOwners_40 rfl rfl (Nat.le_of_ble_eq_true rfl) ?_
        refine e_goto aX8_everOwners_43 ?_
        refine e_ls (ls' := [(0, some (vR (some 32))), (1, some (vI (nI pz))), (2, some (vI (evR (fun s => dgt (hI h 39 s) pz) (fo o f) (k + 1)))), (3, some (vI (nI (fo o f + om f)))), (4, some (vI (nI (fo o f + (k + 1)))))]) ⟨rfl, rfl, rfl, rfl, congrArg (fun x => some (vI x)) (nI_1 (fo o f + k)), trivial⟩ ?_
        exact ih (k + 1) (by omega)
  refine e_iconst (v := 0) aX8_everOwners_0 (by decide) ?_
  refine e_istore_n aX8_everOwners_1 (Nat.le_of_ble_eq_true rfl) ?_
  refine e_aload_n aX8_everOwners_2 rfl ?_
  refine e_getRF aX8_everOwners_3 fX8_10 rfl (fx_is F rfl) (fx_r (b := 33) F rfl) ?_
  refine e_invvT aX8_everOwners_6 kX8_181 (zX0_endOpen X F bf) rfl rfl (fx_is F rfl) (Nat.le_of_ble_eq_true rfl) (Nat.le_of_ble_eq_true rfl) (Nat.le_refl _) (Nat.le_refl _) (Nat.le_of_ble_eq_true rfl) ?_
  refine e_istore_n aX8_everOwners_9 (Nat.le_of_ble_eq_true rfl) ?_
  refine e_aload_n aX8_everOwners_10 rfl ?_
  refine e_getRF aX8_everOwners_11 fX8_10 rfl (fx_is F rfl) (fx_r (b := 33) F rfl) ?_
  refine e_invvT aX8_everOwners_14 kX8_84 (zX0_firstOpen X F bf) rfl rfl (fx_is F rfl) (Nat.le_of_ble_eq_true rfl) (Nat.le_of_ble_eq_true rfl) (Nat.le_refl _) (Nat.le_refl _) (Nat.le_of_ble_eq_true rfl) ?_
  refine e_istore aX8_everOwners_17 (Nat.le_of_ble_eq_true rfl) ?_
  refine e_ls (ls' := [(0, some (vR (some 32))), (1, some (vI (nI pz))), (2, some (vI (evR (fun s => dgt (hI h 39 s) pz) (fo o f) 0))), (3, some (vI (nI (fo o f + om f)))), (4, some (vI (nI (fo o f + 0))))]) ⟨rfl, rfl, rfl, rfl, rfl, trivial⟩ ?_
  exact loop (om f) 0 (by omega)
theorem zX8_owners (X : EX) {h : HP} (F : Fx h) {f : Nat} {o : Nat → Nat} (bf : BkF h f o) (x : Int32) : Ct X mX8_owners 3 0 0 [vR (some 32), vI x] h (if x < 0 ∨ 12 ≤ x then RF h 0 else Rt (vI (evR (fun s => dgt (hI h 39 s) x.toNatClampNeg) (fo o f) (om f))) h) := by
  refine ct_of rfl (Nat.le_of_ble_eq_true rfl) ?_
  refine e_iload_n aX8_owners_0 rfl ?_
  refine e_bipush (v := 12) aX8_owners_1 (by decide) ?_
  refine e_invsT aX8_owners_3 kX8_58 (zX8_isOutside X _ _) rfl rfl (Nat.le_of_ble_eq_true rfl) (Nat.le_of_ble_eq_true rfl) (Nat.le_refl _) (Nat.le_refl _) (Nat.le_of_ble_eq_true rfl) ?_
  refine e_if_eq aX8_owners_6 (fun c6 => ?_) (fun c6 => ?_)
  · -- 6: taken
    have q6 := b2_0.mp c6
    obtain ⟨pz, hp, rfl⟩ := ou_of 12 (by decide) q6
    refine e_aload_n aX8_owners_17 rfl ?_
    refine e_iload_n aX8_owners_18 rfl ?_
    refine e_invvT aX8_owners_19 kX8_178 (zX8_everOwners X F bf hp) rfl rfl (fx_is F rfl) (Nat.le_of_ble_eq_true rfl) (Nat.le_of_ble_eq_true rfl) (Nat.le_refl _) (Nat.le_refl _) (Nat.le_of_ble_eq_true rfl) ?_
    refine e_ireturn aX8_owners_22 rfl (Nat.le_refl _) (Nat.le_refl _) ?_
    rw [if_neg q6, cl (by omega)]
    exact ⟨rfl, rfl⟩
  · -- 6: not taken
    have q6 := Decidable.of_not_not (fun z => c6 (b2_0.mpr z))
    refine e_aload_n aX8_owners_9 rfl ?_
    refine e_iconst (v := 0) aX8_owners_10 (by decide) ?_
    refine e_invvT aX8_owners_11 kX8_62 (zfin X (k := 0) F (by decide)) rfl rfl (fx_is F rfl) (Nat.le_of_ble_eq_true rfl) (Nat.le_of_ble_eq_true rfl) (Nat.le_refl _) (Nat.le_refl _) (Nat.le_of_ble_eq_true rfl) ?_
    refine e_goto aX8_owners_14 ?_
    refine e_ireturn aX8_owners_22 rfl (Nat.le_refl _) (Nat.le_refl _) ?_
    rw [if_pos q6]
    exact ⟨rfl, rfl⟩
theorem frW_t {P : Nat → Bool} {a m : Nat} (z : P a = true) : frW P a (m + 1) = some a := if_pos z
theorem frW_f {P : Nat → Bool} {a m : Nat} (z : ¬ P a = true) : frW P a (m + 1) = frW P (a + 1) m := if_neg z
theorem zX8_sure (X : EX) {h : HP} (F : Fx h) {f : Nat} {o : Nat → Nat} (bf : BkF h f o) (x : Int32) : Ct X mX8_sure 3 0 0 [vR (some 32), vI x] h (if x < 0 ∨ 12 ≤ x then RF h 0 else rO h (frW (fun k => decide ((evR (fun s => dgt (hI h 39 s) x.toNatClampNeg) (fo o f) (om f)) = (1 : Int32) <<< (nI k &&& 31))) 0 3)) := by
  refine ct_of rfl (Nat.le_of_ble_eq_true rfl) ?_
  refine e_iload_n aX8_sure_0 rfl ?_
  refine e_bipush (v := 12) aX8_sure_1 (by decide) ?_
  refine e_invsT aX8_sure_3 kX8_58 (zX8_isOutside X _ _) rfl rfl (Nat.le_of_ble_eq_true rfl) (Nat.le_of_ble_eq_true rfl) (Nat.le_refl _) (Nat.le_refl _) (Nat.le_of_ble_eq_true rfl) ?_
  refine e_if_eq aX8_sure_6 (fun c6 => ?_) (fun c6 => ?_)
  · -- 6: taken
    have q6 := b2_0.mp c6
    obtain ⟨pz, hp, rfl⟩ := ou_of 12 (by decide) q6
    rw [if_neg q6, cl (by omega)]
    have loop : ∀ (m : Nat) (k : Nat), k + m = 3 → frW (fun k => decide ((evR (fun s => dgt (hI h 39 s) pz) (fo o f) (om f)) = (1 : Int32) <<< (nI k &&& 31))) k m = frW (fun k => decide ((evR (fun s => dgt (hI h 39 s) pz) (fo o f) (om f)) = (1 : Int32) <<< (nI k &&& 31))) 0 3 → Ev X mX8_sure 3 0 0 (rO h (frW (fun k => decide ((evR (fun s => dgt (hI h 39 s) pz) (fo o f) (om f)) = (1 : Int32) <<< (nI k &&& 31))) 0 3)) 0 0 23 [(0, some (vR (some 32))), (2, some (vI (evR (fun s => dgt (hI h 39 s) pz) (fo o f) (om f)))), (3, some (vI (nI k)))] [] h := by
      intro m
      induction m with
      | zero =>
        intro k hk hR9
        obtain rfl : k = 3 := by omega
        refine e_iload_n aX8_sure_23 rfl ?_
        refine e_iconst (v := 3) aX8_sure_24 (by decide) ?_
        refine e_icmp_ge aX8_sure_25 (fun c25 => ?_) (fun c25 => ?_)
        · -- 25: taken
          refine e_aload_n aX8_sure_43 rfl ?_
          refine e_iconst (v := 3) aX8_sure_44 (by decide) ?_
          refine e_invvT aX8_sure_45 kX8_62 (zfin X (k := 3) F (by decide)) rfl rfl (fx_is F rfl) (Nat.le_of_ble_eq_true rfl) (Nat.le_of_ble_eq_true rfl) (Nat.le_refl _) (Nat.le_refl _) (Nat.le_of_ble_eq_true rfl) ?_
          refine e_ireturn aX8_sure_48 rfl (Nat.le_refl _) (Nat.le_refl _) ?_
          rw [← hR9]
          exact ⟨rfl, rfl⟩
        · -- 25: not taken
          exact absurd (nI_le (a := 3) (b := 3) (by decide) (by decide)) c25
      | succ m ih =>
        intro k hk hR9
        refine e_iload_n aX8_sure_23 rfl ?_
        refine e_iconst (v := 3) aX8_sure_24 (by decide) ?_
        refine e_icmp_ge aX8_sure_25 (fun c25 => ?_) (fun c25 => ?_)
        · -- 25: taken
          exact absurd c25 (nI_ge (a := k) (b := 3) (by omega) (by decide))
        · -- 25: not taken
          refine e_iload_n aX8_sure_28 rfl ?_
          refine e_iconst (v := 1) aX8_sure_29 (by decide) ?_
          refine e_iload_n aX8_sure_30 rfl ?_
          refine e_ishl aX8_sure_31 ?_
          refine e_icmp_ne aX8_sure_32 (fun c32 => ?_) (fun c32 => ?_)
          · -- 32: taken
            refine e_iinc aX8_sure_37 rfl rfl (Nat.le_of_ble_eq_true rfl) ?_
            refine e_goto aX8_sure_40 ?_
            refine e_ls (ls' := [(0, some (vR (some 32))), (2, some (vI (evR (fun s => dgt (hI h 39 s) pz) (fo o f) (om f)))), (3, some (vI (nI (k + 1))))]) ⟨rfl, rfl, congrArg (fun x => some (vI x)) (nI_1 k), trivial⟩ ?_
            exact ih (k + 1) (by omega) (by rw [← hR9, frW_f (fun z => c32 (of_decide_eq_true z))])
          · -- 32: not taken
            refine e_iload_n aX8_sure_35 rfl ?_
            refine e_ireturn aX8_sure_36 rfl (Nat.le_refl _) (Nat.le_refl _) ?_
            rw [← hR9, frW_t (decide_eq_true c32)]
            exact ⟨rfl, rfl⟩
    refine e_aload_n aX8_sure_15 rfl ?_
    refine e_iload_n aX8_sure_16 rfl ?_
    refine e_invvT aX8_sure_17 kX8_178 (zX8_everOwners X F bf hp) rfl rfl (fx_is F rfl) (Nat.le_of_ble_eq_true rfl) (Nat.le_of_ble_eq_true rfl) (Nat.le_refl _) (Nat.le_refl _) (Nat.le_of_ble_eq_true rfl) ?_
    refine e_istore_n aX8_sure_20 (Nat.le_of_ble_eq_true rfl) ?_
    refine e_iconst (v := 0) aX8_sure_21 (by decide) ?_
    refine e_istore_n aX8_sure_22 (Nat.le_of_ble_eq_true rfl) ?_
    refine e_ls (ls' := [(0, some (vR (some 32))), (2, some (vI (evR (fun s => dgt (hI h 39 s) pz) (fo o f) (om f)))), (3, some (vI (nI 0)))]) ⟨rfl, rfl, rfl, trivial⟩ ?_
    exact loop 3 0 rfl rfl
  · -- 6: not taken
    have q6 := Decidable.of_not_not (fun z => c6 (b2_0.mpr z))
    refine e_aload_n aX8_sure_9 rfl ?_
    refine e_iconst (v := 0) aX8_sure_10 (by decide) ?_
    refine e_invvT aX8_sure_11 kX8_62 (zfin X (k := 0) F (by decide)) rfl rfl (fx_is F rfl) (Nat.le_of_ble_eq_true rfl) (Nat.le_of_ble_eq_true rfl) (Nat.le_refl _) (Nat.le_refl _) (Nat.le_of_ble_eq_true rfl) ?_
    refine e_ireturn aX8_sure_14 rfl (Nat.le_refl _) (Nat.le_refl _) ?_
    rw [if_pos q6]
    exact ⟨rfl, rfl⟩
theorem zX8_chance (X : EX) {h : HP} (F : Fx h) {f : Nat} {o : Nat → Nat} (bf : BkF h f o) (x y : Int32) : Ct X mX8_chance 2 0 0 [vR (some 32), vI x, vI y] h (if x < 0 ∨ 12 ≤ x then RF h 0 else if y < 0 ∨ 3 ≤ y then RF h 0 else Rt (vI (nI (cnW (atS h x.toNatClampNeg y) (fo o f) (om f)))) h) := by
  refine ct_of rfl (Nat.le_of_ble_eq_true rfl) ?_
  have hb6 := om_fo bf.2.1 bf.2.2.2
  refine e_iload_n aX8_chance_0 rfl ?_
  refine e_bipush (v := 12) aX8_chance_1 (by decide) ?_
  refine e_invsT aX8_chance_3 kX8_58 (zX8_isOutside X _ _) rfl rfl (Nat.le_of_ble_eq_true rfl) (Nat.le_of_ble_eq_true rfl) (Nat.le_refl _) (Nat.le_refl _) (Nat.le_of_ble_eq_true rfl) ?_
  refine e_if_ne aX8_chance_6 (fun c6 => ?_) (fun c6 => ?_)
  · -- 6: taken
    have q6 := Decidable.of_not_not (fun z => c6 (b2_0.mpr z))
    refine e_aload_n aX8_chance_17 rfl ?_
    refine e_iconst (v := 0) aX8_chance_18 (by decide) ?_
    refine e_invvT aX8_chance_19 kX8_62 (zfin X (k := 0) F (by decide)) rfl rfl (fx_is F rfl) (Nat.le_of_ble_eq_true rfl) (Nat.le_of_ble_eq_true rfl) (Nat.le_refl _) (Nat.le_refl _) (Nat.le_of_ble_eq_true rfl) ?_
    refine e_ireturn aX8_chance_22 rfl (Nat.le_refl _) (Nat.le_refl _) ?_
    rw [if_pos q6]
    exact ⟨rfl, rfl⟩
  · -- 6: not taken
    have q6 := b2_0.mp c6
    obtain ⟨pz, hp, rfl⟩ := ou_of 12 (by decide) q6
    refine e_iload_n aX8_chance_9 rfl ?_
    refine e_iconst (v := 3) aX8_chance_10 (by decide) ?_
    refine e_invsT aX8_chance_11 kX8_58 (zX8_isOutside X _ _) rfl rfl (Nat.le_of_ble_eq_true rfl) (Nat.le_of_ble_eq_true rfl) (Nat.le_refl _) (Nat.le_refl _) (Nat.le_of_ble_eq_true rfl) ?_
    refine e_if_eq aX8_chance_14 (fun c14 => ?_) (fun c14 => ?_)
    · -- 14: taken
      have q14 := b2_0.mp c14
      obtain ⟨iz, hi3, rfl⟩ := ou_of 3 (by decide) q14
      rw [if_neg q6, if_neg q14, cl (by omega)]
      have loop : ∀ (m : Nat) (k : Nat), k + m = om f → Ev X mX8_chance 2 0 0 (Rt (vI (nI (cnW (atS h pz (nI iz)) (fo o f) (om f)))) h) 0 0 43 [(0, some (vR (some 32))), (1, some (vI (nI pz))), (2, some (vI (nI iz))), (3, some (vI (nI (cnW (atS h pz (nI iz)) (fo o f) k)))), (4, some (vI (nI (fo o f + om f)))), (5, some (vI (nI (fo o f + k))))] [] h := by
        intro m
        induction m with
        | zero =>
          intro k hk
          obtain rfl : k = om f := by omega
          refine e_iload aX8_chance_43 rfl ?_
          refine e_iload aX8_chance_45 rfl ?_
          refine e_icmp_ge aX8_chance_47 (fun c47 => ?_) (fun c47 => ?_)
          · -- 47: taken
            refine e_iload_n aX8_chance_73 rfl ?_
            refine e_ireturn aX8_chance_74 rfl (Nat.le_refl _) (Nat.le_refl _) ?_
            exact ⟨rfl, rfl⟩
          · -- 47: not taken
            exact absurd (nI_le (by omega) (by omega)) c47
        | succ m ih =>
          intro k hk
          refine e_iload aX8_chance_43 rfl ?_
          refine e_iload aX8_chance_45 rfl ?_
          refine e_icmp_ge aX8_chance_47 (fun c47 => ?_) (fun c47 => ?_)
          · -- 47: taken
            exact absurd c47 (nI_ge (by omega) (by omega))
          · -- 47: not taken
            refine e_aload_n aX8_chance_50 rfl ?_
            refine e_getRF aX8_chance_51 fX8_23 rfl (fx_is F rfl) (fx_r (b := 38) F rfl) ?_
            refine e_iload aX8_chance_54 rfl ?_
            refine e_iload_n aX8_chance_56 rfl ?_
            refine e_invvT aX8_chance_57 kX8_172 (zX2_at X F (s := fo o f + k) (by omega) hp) rfl rfl (fx_is F rfl) (Nat.le_of_ble_eq_true rfl) (Nat.le_of_ble_eq_true rfl) (Nat.le_refl _) (Nat.le_refl _) (Nat.le_of_ble_eq_true rfl) ?_
            refine e_iload_n aX8_chance_60 rfl ?_
            refine e_icmp_ne aX8_chance_61 (fun c61 => ?_) (fun c61 => ?_)
            · -- 61: taken
              refine e_iinc aX8_chance_67 rfl rfl (Nat.le_of_ble_eq_true rfl) ?_
              refine e_goto aX8_chance_70 ?_
              refine e_ls (ls' := [(0, some (vR (some 32))), (1, some (vI (nI pz))), (2, some (vI (nI iz))), (3, some (vI (nI (cnW (atS h pz (nI iz)) (fo o f) (k + 1))))), (4, some (vI (nI (fo o f + om f)))), (5, some (vI (nI (fo o f + (k + 1)))))]) ⟨rfl, rfl, rfl, congrArg (fun x => some (vI x)) (congrArg nI (cnW_f (P := (atS h pz (nI iz))) (a := fo o f) (m := k) (decide_eq_false c61)).symm), rfl, congrArg (fun x => some (vI x)) (nI_1 (fo o f + k)), trivial⟩ ?_
              exact ih (k + 1) (by omega)
            · -- 61: not taken
              refine e_iinc aX8_chance_64 rfl rfl (Nat.le_of_ble_eq_true rfl) ?_
              refine e_iinc aX8_chance_67 rfl rfl (Nat.le_of_ble_eq_true rfl) ?_
              refine e_goto aX8_chance_70 ?_
              refine e_ls (ls' := [(0, some (vR (some 32))), (1, some (vI (nI pz))), (2, some (vI (nI iz))), (3, some (vI (nI (cnW (atS h pz (nI iz)) (fo o f) (k + 1))))), (4, some (vI (nI (fo o f + om f)))), (5, some (vI (nI (fo o f + (k + 1)))))]) ⟨rfl, rfl, rfl, congrArg (fun x => some (vI x)) ((nI_1 _).trans (congrArg nI (cnW_t (P := (atS h pz (nI iz))) (a := fo o f) (m := k) (decide_eq_true c61)).symm)), rfl, congrArg (fun x => some (vI x)) (nI_1 (fo o f + k)), trivial⟩ ?_
              exact ih (k + 1) (by omega)
      refine e_iconst (v := 0) aX8_chance_23 (by decide) ?_
      refine e_istore_n aX8_chance_24 (Nat.le_of_ble_eq_true rfl) ?_
      refine e_aload_n aX8_chance_25 rfl ?_
      refine e_getRF aX8_chance_26 fX8_10 rfl (fx_is F rfl) (fx_r (b := 33) F rfl) ?_
      refine e_invvT aX8_chance_29 kX8_181 (zX0_endOpen X F bf) rfl rfl (fx_is F rfl) (Nat.le_of_ble_eq_true rfl) (Nat.le_of_ble_eq_true rfl) (Nat.le_refl _) (Nat.le_refl _) (Nat.le_of_ble_eq_true rfl) ?_
      refine e_istore aX8_chance_32 (Nat.le_of_ble_eq_true rfl) ?_
      refine e_aload_n aX8_chance_34 rfl ?_
      refine e_getRF aX8_chance_35 fX8_10 rfl (fx_is F rfl) (fx_r (b := 33) F rfl) ?_
      refine e_invvT aX8_chance_38 kX8_84 (zX0_firstOpen X F bf) rfl rfl (fx_is F rfl) (Nat.le_of_ble_eq_true rfl) (Nat.le_of_ble_eq_true rfl) (Nat.le_refl _) (Nat.le_refl _) (Nat.le_of_ble_eq_true rfl) ?_
      refine e_istore aX8_chance_41 (Nat.le_of_ble_eq_true rfl) ?_
      refine e_ls (ls' := [(0, some (vR (some 32))), (1, some (vI (nI pz))), (2, some (vI (nI iz))), (3, some (vI (nI (cnW (atS h pz (nI iz)) (fo o f) 0)))), (4, some (vI (nI (fo o f + om f)))), (5, some (vI (nI (fo o f + 0))))]) ⟨rfl, rfl, rfl, rfl, rfl, rfl, trivial⟩ ?_
      exact loop (om f) 0 (by omega)
    · -- 14: not taken
      have q14 := Decidable.of_not_not (fun z => c14 (b2_0.mpr z))
      refine e_aload_n aX8_chance_17 rfl ?_
      refine e_iconst (v := 0) aX8_chance_18 (by decide) ?_
      refine e_invvT aX8_chance_19 kX8_62 (zfin X (k := 0) F (by decide)) rfl rfl (fx_is F rfl) (Nat.le_of_ble_eq_true rfl) (Nat.le_of_ble_eq_true rfl) (Nat.le_refl _) (Nat.le_refl _) (Nat.le_of_ble_eq_true rfl) ?_
      refine e_ireturn aX8_chance_22 rfl (Nat.le_refl _) (Nat.le_refl _) ?_
      rw [if_neg q6, if_pos q14]
      exact ⟨rfl, rfl⟩
theorem zX8_least (X : EX) {h : HP} (F : Fx h) {f : Nat} {o : Nat → Nat} (bf : BkF h f o) (x y : Int32) : Ct X mX8_least 2 0 0 [vR (some 32), vI x, vI y] h (if x < 0 ∨ 12 ≤ x then RF h 0 else if y < 0 ∨ 3 ≤ y then RF h 0 else rO h (frW (atS h x.toNatClampNeg y) (fo o f) (om f))) := by
  refine ct_of rfl (Nat.le_of_ble_eq_true rfl) ?_
  have hb6 := om_fo bf.2.1 bf.2.2.2
  refine e_iload_n aX8_least_0 rfl ?_
  refine e_bipush (v := 12) aX8_least_1 (by decide) ?_
  refine e_invsT aX8_least_3 kX8_58 (zX8_isOutside X _ _) rfl rfl (Nat.le_of_ble_eq_true rfl) (Nat.le_of_ble_eq_true rfl) (Nat.le_refl _) (Nat.le_refl _) (Nat.le_of_ble_eq_true rfl) ?_
  refine e_if_ne aX8_least_6 (fun c6 => ?_) (fun c6 => ?_)
  · -- 6: taken
    have q6 := Decidable.of_not_not (fun z => c6 (b2_0.mpr z))
    refine e_aload_n aX8_least_17 rfl ?_
    refine e_iconst (v := 0) aX8_least_18 (by decide) ?_
    refine e_invvT aX8_least_19 kX8_62 (zfin X (k := 0) F (by decide)) rfl rfl (fx_is F rfl) (Nat.le_of_ble_eq_true rfl) (Nat.le_of_ble_eq_true rfl) (Nat.le_refl _) (Nat.le_refl _) (Nat.le_of_ble_eq_true rfl) ?_
    refine e_ireturn aX8_least_22 rfl (Nat.le_refl _) (Nat.le_refl _) ?_
    rw [if_pos q6]
    exact ⟨rfl, rfl⟩
  · -- 6: not taken
    have q6 := b2_0.mp c6
    obtain ⟨pz, hp, rfl⟩ := ou_of 12 (by decide) q6
    refine e_iload_n aX8_least_9 rfl ?_
    refine e_iconst (v := 3) aX8_least_10 (by decide) ?_
    refine e_invsT aX8_least_11 kX8_58 (zX8_isOutside X _ _) rfl rfl (Nat.le_of_ble_eq_true rfl) (Nat.le_of_ble_eq_true rfl) (Nat.le_refl _) (Nat.le_refl _) (Nat.le_of_ble_eq_true rfl) ?_
    refine e_if_eq aX8_least_14 (fun c14 => ?_) (fun c14 => ?_)
    · -- 14: taken
      have q14 := b2_0.mp c14
      obtain ⟨iz, hi3, rfl⟩ := ou_of 3 (by decide) q14
      rw [if_neg q6, if_neg q14, cl (by omega)]
      have loop : ∀ (m : Nat) (k : Nat), k + m = (fo o f + om f) → frW (atS h pz (nI iz)) k m = frW (atS h pz (nI iz)) (fo o f) (om f) → Ev X mX8_least 2 0 0 (rO h (frW (atS h pz (nI iz)) (fo o f) (om f))) 0 0 40 [(0, some (vR (some 32))), (1, some (vI (nI pz))), (2, some (vI (nI iz))), (3, some (vI (nI (fo o f + om f)))), (4, some (vI (nI k)))] [] h := by
        intro m
        induction m with
        | zero =>
          intro k hk hR9
          obtain rfl : k = (fo o f + om f) := by omega
          refine e_iload aX8_least_40 rfl ?_
          refine e_iload_n aX8_least_42 rfl ?_
          refine e_icmp_ge aX8_least_43 (fun c43 => ?_) (fun c43 => ?_)
          · -- 43: taken
            refine e_aload_n aX8_least_69 rfl ?_
            refine e_iconst (v := 3) aX8_least_70 (by decide) ?_
            refine e_invvT aX8_least_71 kX8_62 (zfin X (k := 3) F (by decide)) rfl rfl (fx_is F rfl) (Nat.le_of_ble_eq_true rfl) (Nat.le_of_ble_eq_true rfl) (Nat.le_refl _) (Nat.le_refl _) (Nat.le_of_ble_eq_true rfl) ?_
            refine e_ireturn aX8_least_74 rfl (Nat.le_refl _) (Nat.le_refl _) ?_
            rw [← hR9]
            exact ⟨rfl, rfl⟩
          · -- 43: not taken
            exact absurd (nI_le (by omega) (by omega)) c43
        | succ m ih =>
          intro k hk hR9
          refine e_iload aX8_least_40 rfl ?_
          refine e_iload_n aX8_least_42 rfl ?_
          refine e_icmp_ge aX8_least_43 (fun c43 => ?_) (fun c43 => ?_)
          · -- 43: taken
            exact absurd c43 (nI_ge (by omega) (by omega))
          · -- 43: not taken
            refine e_aload_n aX8_least_46 rfl ?_
            refine e_getRF aX8_least_47 fX8_23 rfl (fx_is F rfl) (fx_r (b := 38) F rfl) ?_
            refine e_iload aX8_least_50 rfl ?_
            refine e_iload_n aX8_least_52 rfl ?_
            refine e_invvT aX8_least_53 kX8_172 (zX2_at X F (s := k) (by omega) hp) rfl rfl (fx_is F rfl) (Nat.le_of_ble_eq_true rfl) (Nat.le_of_ble_eq_true rfl) (Nat.le_refl _) (Nat.le_refl _) (Nat.le_of_ble_eq_true rfl) ?_
            refine e_iload_n aX8_least_56 rfl ?_
            refine e_icmp_ne aX8_least_57 (fun c57 => ?_) (fun c57 => ?_)
            · -- 57: taken
              refine e_iinc aX8_least_63 rfl rfl (Nat.le_of_ble_eq_true rfl) ?_
              refine e_goto aX8_least_66 ?_
              refine e_ls (ls' := [(0, some (vR (some 32))), (1, some (vI (nI pz))), (2, some (vI (nI iz))), (3, some (vI (nI (fo o f + om f)))), (4, some (vI (nI (k + 1))))]) ⟨rfl, rfl, rfl, rfl, congrArg (fun x => some (vI x)) (nI_1 k), trivial⟩ ?_
              exact ih (k + 1) (by omega) (by rw [← hR9, frW_f (fun z => c57 (of_decide_eq_true z))])
            · -- 57: not taken
              refine e_iload aX8_least_60 rfl ?_
              refine e_ireturn aX8_least_62 rfl (Nat.le_refl _) (Nat.le_refl _) ?_
              rw [← hR9, frW_t (decide_eq_true c57)]
              exact ⟨rfl, rfl⟩
      refine e_aload_n aX8_least_23 rfl ?_
      refine e_getRF aX8_least_24 fX8_10 rfl (fx_is F rfl) (fx_r (b := 33) F rfl) ?_
      refine e_invvT aX8_least_27 kX8_181 (zX0_endOpen X F bf) rfl rfl (fx_is F rfl) (Nat.le_of_ble_eq_true rfl) (Nat.le_of_ble_eq_true rfl) (Nat.le_refl _) (Nat.le_refl _) (Nat.le_of_ble_eq_true rfl) ?_
      refine e_istore_n aX8_least_30 (Nat.le_of_ble_eq_true rfl) ?_
      refine e_aload_n aX8_least_31 rfl ?_
      refine e_getRF aX8_least_32 fX8_10 rfl (fx_is F rfl) (fx_r (b := 33) F rfl) ?_
      refine e_invvT aX8_least_35 kX8_84 (zX0_firstOpen X F bf) rfl rfl (fx_is F rfl) (Nat.le_of_ble_eq_true rfl) (Nat.le_of_ble_eq_true rfl) (Nat.le_refl _) (Nat.le_refl _) (Nat.le_of_ble_eq_true rfl) ?_
      refine e_istore aX8_least_38 (Nat.le_of_ble_eq_true rfl) ?_
      refine e_ls (ls' := [(0, some (vR (some 32))), (1, some (vI (nI pz))), (2, some (vI (nI iz))), (3, some (vI (nI (fo o f + om f)))), (4, some (vI (nI (fo o f))))]) ⟨rfl, rfl, rfl, rfl, rfl, trivial⟩ ?_
      exact loop (om f) (fo o f) (by omega) rfl
    · -- 14: not taken
      have q14 := Decidable.of_not_not (fun z => c14 (b2_0.mpr z))
      refine e_aload_n aX8_least_17 rfl ?_
      refine e_iconst (v := 0) aX8_least_18 (by decide) ?_
      refine e_invvT aX8_least_19 kX8_62 (zfin X (k := 0) F (by decide)) rfl rfl (fx_is F rfl) (Nat.le_of_ble_eq_true rfl) (Nat.le_of_ble_eq_true rfl) (Nat.le_refl _) (Nat.le_refl _) (Nat.le_of_ble_eq_true rfl) ?_
      refine e_ireturn aX8_least_22 rfl (Nat.le_refl _) (Nat.le_refl _) ?_
      rw [if_neg q6, if_pos q14]
      exact ⟨rfl, rfl⟩
end
section
/-! contracts: worth, value, best, hope (written by wip/whole/g27.py) -/
theorem zX8_worthUnder (X : EX) {h : HP} (F : Fx h) {s : Nat} (hs : s < 1296) (y : Int32) : Ct X mX8_worthUnder 1 0 0 [vR (some 32), vI (nI s), vI y] h (Rt (vI (wuR h s y 12)) h) := by
  refine ct_of rfl (Nat.le_of_ble_eq_true rfl) ?_
  have loop : ∀ (m : Nat) (k : Nat), k + m = 12 → Ev X mX8_worthUnder 1 0 0 (Rt (vI (wuR h s y 12)) h) 0 0 5 [(0, some (vR (some 32))), (1, some (vI (nI s))), (2, some (vI y)), (3, some (vI (wuR h s y k))), (4, some (vI (nI k)))] [] h := by
    intro m
    induction m with
    | zero =>
      intro k hk
      obtain rfl : k = 12 := by omega
      refine e_iload aX8_worthUnder_5 rfl ?_
      refine e_bipush (v := 12) aX8_worthUnder_7 (by decide) ?_
      refine e_icmp_ge aX8_worthUnder_9 (fun c9 => ?_) (fun c9 => ?_)
      · -- 9: taken
        refine e_iload_n aX8_worthUnder_49 rfl ?_
        refine e_ireturn aX8_worthUnder_50 rfl (Nat.le_refl _) (Nat.le_refl _) ?_
        exact ⟨rfl, rfl⟩
      · -- 9: not taken
        exact absurd (nI_le (a := 12) (b := 12) (by decide) (by decide)) c9
    | succ m ih =>
      intro k hk
      refine e_iload aX8_worthUnder_5 rfl ?_
      refine e_bipush (v := 12) aX8_worthUnder_7 (by decide) ?_
      refine e_icmp_ge aX8_worthUnder_9 (fun c9 => ?_) (fun c9 => ?_)
      · -- 9: taken
        exact absurd c9 (nI_ge (a := k) (b := 12) (by omega) (by decide))
      · -- 9: not taken
        refine e_aload_n aX8_worthUnder_12 rfl ?_
        refine e_getRF aX8_worthUnder_13 fX8_23 rfl (fx_is F rfl) (fx_r (b := 38) F rfl) ?_
        refine e_iload_n aX8_worthUnder_16 rfl ?_
        refine e_iload aX8_worthUnder_17 rfl ?_
        refine e_invvT aX8_worthUnder_19 kX8_172 (zX2_at X F (s := s) (p := k) hs (by omega)) rfl rfl (fx_is F rfl) (Nat.le_of_ble_eq_true rfl) (Nat.le_of_ble_eq_true rfl) (Nat.le_refl _) (Nat.le_refl _) (Nat.le_of_ble_eq_true rfl) ?_
        refine e_iload_n aX8_worthUnder_22 rfl ?_
        refine e_icmp_ne aX8_worthUnder_23 (fun c23 => ?_) (fun c23 => ?_)
        · -- 23: taken
          refine e_iinc aX8_worthUnder_43 rfl rfl (Nat.le_of_ble_eq_true rfl) ?_
          refine e_goto aX8_worthUnder_46 ?_
          refine e_ls (ls' := [(0, some (vR (some 32))), (1, some (vI (nI s))), (2, some (vI y)), (3, some (vI (wuR h s y (k + 1)))), (4, some (vI (nI (k + 1))))]) ⟨rfl, rfl, rfl, congrArg (fun x => some (vI x)) ((wuR_s.trans (if_neg c23)).symm), congrArg (fun x => some (vI x)) (nI_1 k), trivial⟩ ?_
          exact ih (k + 1) (by omega)
        · -- 23: not taken
          refine e_iload_n aX8_worthUnder_26 rfl ?_
          refine e_aload_n aX8_worthUnder_27 rfl ?_
          refine e_getRF aX8_worthUnder_28 fX8_10 rfl (fx_is F rfl) (fx_r (b := 33) F rfl) ?_
          refine e_getRF aX8_worthUnder_31 fX8_184 rfl (fx_is F rfl) (fx_r (b := 36) F rfl) ?_
          refine e_iload_n aX8_worthUnder_34 rfl ?_
          refine e_iload aX8_worthUnder_35 rfl ?_
          refine e_invsT aX8_worthUnder_37 kX8_69 (zX8_placeUnder X hs (p := k) (by omega)) rfl rfl (Nat.le_of_ble_eq_true rfl) (Nat.le_of_ble_eq_true rfl) (Nat.le_refl _) (Nat.le_refl _) (Nat.le_of_ble_eq_true rfl) ?_
          refine e_ialoadF aX8_worthUnder_40 (fx_is F rfl) (fx_n (n := 3) F rfl) (vin (N := 3) (pl_lt s k)) (show hI h 36 (nI (pl s k)).toNatClampNeg = hI h 36 (pl s k) by rw [cl (by have := pl_lt s k; omega)]) ?_
          refine e_iadd aX8_worthUnder_41 ?_
          refine e_istore_n aX8_worthUnder_42 (Nat.le_of_ble_eq_true rfl) ?_
          refine e_iinc aX8_worthUnder_43 rfl rfl (Nat.le_of_ble_eq_true rfl) ?_
          refine e_goto aX8_worthUnder_46 ?_
          refine e_ls (ls' := [(0, some (vR (some 32))), (1, some (vI (nI s))), (2, some (vI y)), (3, some (vI (wuR h s y (k + 1)))), (4, some (vI (nI (k + 1))))]) ⟨rfl, rfl, rfl, congrArg (fun x => some (vI x)) ((wuR_s.trans (if_pos c23)).symm), congrArg (fun x => some (vI x)) (nI_1 k), trivial⟩ ?_
          exact ih (k + 1) (by omega)
  refine e_iconst (v := 0) aX8_worthUnder_0 (by decide) ?_
  refine e_istore_n aX8_worthUnder_1 (Nat.le_of_ble_eq_true rfl) ?_
  refine e_iconst (v := 0) aX8_worthUnder_2 (by decide) ?_
  refine e_istore aX8_worthUnder_3 (Nat.le_of_ble_eq_true rfl) ?_
  refine e_ls (ls' := [(0, some (vR (some 32))), (1, some (vI (nI s))), (2, some (vI y)), (3, some (vI (wuR h s y 0))), (4, some (vI (nI 0)))]) ⟨rfl, rfl, rfl, rfl, rfl, trivial⟩ ?_
  exact loop 12 0 rfl
theorem zX8_worth (X : EX) {h : HP} (F : Fx h) {f : Nat} {o : Nat → Nat} (bf : BkF h f o) (x y : Int32) : Ct X mX8_worth 3 0 0 [vR (some 32), vI x, vI y] h (if nI (fo o f) ≤ x ∧ x < nI (fo o f + om f) then if y < 0 ∨ 3 ≤ y then RF h 0 else Rt (vI (wuR h x.toNatClampNeg y 12)) h else RF h 0) := by
  refine ct_of rfl (Nat.le_of_ble_eq_true rfl) ?_
  have hb6 := om_fo bf.2.1 bf.2.2.2
  refine e_aload_n aX8_worth_0 rfl ?_
  refine e_getRF aX8_worth_1 fX8_10 rfl (fx_is F rfl) (fx_r (b := 33) F rfl) ?_
  refine e_iload_n aX8_worth_4 rfl ?_
  refine e_invvT aX8_worth_5 kX8_169 (zX0_isOpen X F bf _) rfl rfl (fx_is F rfl) (Nat.le_of_ble_eq_true rfl) (Nat.le_of_ble_eq_true rfl) (Nat.le_refl _) (Nat.le_refl _) (Nat.le_of_ble_eq_true rfl) ?_
  refine e_if_eq aX8_worth_8 (fun c8 => ?_) (fun c8 => ?_)
  · -- 8: taken
    have q8 := b2_0.mp c8
    refine e_aload_n aX8_worth_19 rfl ?_
    refine e_iconst (v := 0) aX8_worth_20 (by decide) ?_
    refine e_invvT aX8_worth_21 kX8_62 (zfin X (k := 0) F (by decide)) rfl rfl (fx_is F rfl) (Nat.le_of_ble_eq_true rfl) (Nat.le_of_ble_eq_true rfl) (Nat.le_refl _) (Nat.le_refl _) (Nat.le_of_ble_eq_true rfl) ?_
    refine e_ireturn aX8_worth_24 rfl (Nat.le_refl _) (Nat.le_refl _) ?_
    rw [if_neg q8]
    exact ⟨rfl, rfl⟩
  · -- 8: not taken
    have q8 := Decidable.of_not_not (fun z => c8 (b2_0.mpr z))
    obtain ⟨sz, hs1, hs2, rfl⟩ := opn_of (Nat.le_add_right _ _) hb6 q8
    refine e_iload_n aX8_worth_11 rfl ?_
    refine e_iconst (v := 3) aX8_worth_12 (by decide) ?_
    refine e_invsT aX8_worth_13 kX8_58 (zX8_isOutside X _ _) rfl rfl (Nat.le_of_ble_eq_true rfl) (Nat.le_of_ble_eq_true rfl) (Nat.le_refl _) (Nat.le_refl _) (Nat.le_of_ble_eq_true rfl) ?_
    refine e_if_eq aX8_worth_16 (fun c16 => ?_) (fun c16 => ?_)
    · -- 16: taken
      have q16 := b2_0.mp c16
      refine e_aload_n aX8_worth_25 rfl ?_
      refine e_iload_n aX8_worth_26 rfl ?_
      refine e_iload_n aX8_worth_27 rfl ?_
      refine e_invvT aX8_worth_28 kX8_187 (zX8_worthUnder X F (s := sz) (by omega) y) rfl rfl (fx_is F rfl) (Nat.le_of_ble_eq_true rfl) (Nat.le_of_ble_eq_true rfl) (Nat.le_refl _) (Nat.le_refl _) (Nat.le_of_ble_eq_true rfl) ?_
      refine e_ireturn aX8_worth_31 rfl (Nat.le_refl _) (Nat.le_refl _) ?_
      rw [if_pos q8, if_neg q16, cl (by omega)]
      exact ⟨rfl, rfl⟩
    · -- 16: not taken
      have q16 := Decidable.of_not_not (fun z => c16 (b2_0.mpr z))
      refine e_aload_n aX8_worth_19 rfl ?_
      refine e_iconst (v := 0) aX8_worth_20 (by decide) ?_
      refine e_invvT aX8_worth_21 kX8_62 (zfin X (k := 0) F (by decide)) rfl rfl (fx_is F rfl) (Nat.le_of_ble_eq_true rfl) (Nat.le_of_ble_eq_true rfl) (Nat.le_refl _) (Nat.le_refl _) (Nat.le_of_ble_eq_true rfl) ?_
      refine e_ireturn aX8_worth_24 rfl (Nat.le_refl _) (Nat.le_refl _) ?_
      rw [if_pos q8, if_pos q16]
      exact ⟨rfl, rfl⟩
theorem zX8_worthOver (X : EX) {h : HP} (F : Fx h) {a q : Nat} (ha : a + q ≤ 1296) (y : Int32) : Ct X mX8_worthOver 2 0 0 [vR (some 32), vI (nI a), vI (nI (a + q)), vI y] h (Rt (vL (woR h y a q)) h) := by
  refine ct_of rfl (Nat.le_of_ble_eq_true rfl) ?_
  have loop : ∀ (m : Nat) (k : Nat), k + m = q → Ev X mX8_worthOver 2 0 0 (Rt (vL (woR h y a q)) h) 0 0 6 [(0, some (vR (some 32))), (2, some (vI (nI (a + q)))), (3, some (vI y)), (4, some (vL (woR h y a k))), (6, some (vI (nI (a + k))))] [] h := by
    intro m
    induction m with
    | zero =>
      intro k hk
      obtain rfl : k = q := by omega
      refine e_iload aX8_worthOver_6 rfl ?_
      refine e_iload_n aX8_worthOver_8 rfl ?_
      refine e_icmp_ge aX8_worthOver_9 (fun c9 => ?_) (fun c9 => ?_)
      · -- 9: taken
        refine e_lload aX8_worthOver_31 rfl ?_
        refine e_lreturn aX8_worthOver_33 rfl (Nat.le_refl _) (Nat.le_refl _) ?_
        exact ⟨rfl, rfl⟩
      · -- 9: not taken
        exact absurd (nI_le (by omega) (by omega)) c9
    | succ m ih =>
      intro k hk
      refine e_iload aX8_worthOver_6 rfl ?_
      refine e_iload_n aX8_worthOver_8 rfl ?_
      refine e_icmp_ge aX8_worthOver_9 (fun c9 => ?_) (fun c9 => ?_)
      · -- 9: taken
        exact absurd c9 (nI_ge (by omega) (by omega))
      · -- 9: not taken
        refine e_lload aX8_worthOver_12 rfl ?_
        refine e_aload_n aX8_worthOver_14 rfl ?_
        refine e_iload aX8_worthOver_15 rfl ?_
        refine e_iload_n aX8_worthOver_17 rfl ?_
        refine e_invvT aX8_worthOver_18 kX8_187 (zX8_worthUnder X F (s := a + k) (by omega) y) rfl rfl (fx_is F rfl) (Nat.le_of_ble_eq_true rfl) (Nat.le_of_ble_eq_true rfl) (Nat.le_refl _) (Nat.le_refl _) (Nat.le_of_ble_eq_true rfl) ?_
        refine e_i2l aX8_worthOver_21 ?_
        refine e_ladd aX8_worthOver_22 ?_
        refine e_lstore aX8_worthOver_23 (Nat.le_of_ble_eq_true rfl) ?_
        refine e_iinc aX8_worthOver_25 rfl rfl (Nat.le_of_ble_eq_true rfl) ?_
        refine e_goto aX8_worthOver_28 ?_
        refine e_ls (ls' := [(0, some (vR (some 32))), (2, some (vI (nI (a + q)))), (3, some (vI y)), (4, some (vL (woR h y a (k + 1)))), (6, some (vI (nI (a + (k + 1)))))]) ⟨rfl, rfl, rfl, rfl, congrArg (fun x => some (vI x)) (nI_1 (a + k)), trivial⟩ ?_
        exact ih (k + 1) (by omega)
  refine e_lconst (v := 0) aX8_worthOver_0 rfl ?_
  refine e_lstore aX8_worthOver_1 (Nat.le_of_ble_eq_true rfl) ?_
  refine e_iload_n aX8_worthOver_3 rfl ?_
  refine e_istore aX8_worthOver_4 (Nat.le_of_ble_eq_true rfl) ?_
  refine e_ls (ls' := [(0, some (vR (some 32))), (2, some (vI (nI (a + q)))), (3, some (vI y)), (4, some (vL (woR h y a 0))), (6, some (vI (nI (a + 0))))]) ⟨rfl, rfl, rfl, rfl, rfl, trivial⟩ ?_
  exact loop q 0 (by omega)
theorem zX8_value (X : EX) {h : HP} (F : Fx h) {f : Nat} {o : Nat → Nat} (bf : BkF h f o) (x : Int32) : Ct X mX8_value 3 0 0 [vR (some 32), vI x] h (if x < 0 ∨ 3 ≤ x then RFL h 0 else Rt (vL (woR h x (fo o f) (om f))) h) := by
  refine ct_of rfl (Nat.le_of_ble_eq_true rfl) ?_
  have hb6 := om_fo bf.2.1 bf.2.2.2
  refine e_iload_n aX8_value_0 rfl ?_
  refine e_iconst (v := 3) aX8_value_1 (by decide) ?_
  refine e_invsT aX8_value_2 kX8_58 (zX8_isOutside X _ _) rfl rfl (Nat.le_of_ble_eq_true rfl) (Nat.le_of_ble_eq_true rfl) (Nat.le_refl _) (Nat.le_refl _) (Nat.le_of_ble_eq_true rfl) ?_
  refine e_if_eq aX8_value_5 (fun c5 => ?_) (fun c5 => ?_)
  · -- 5: taken
    have q5 := b2_0.mp c5
    refine e_aload_n aX8_value_14 rfl ?_
    refine e_aload_n aX8_value_15 rfl ?_
    refine e_getRF aX8_value_16 fX8_10 rfl (fx_is F rfl) (fx_r (b := 33) F rfl) ?_
    refine e_invvT aX8_value_19 kX8_84 (zX0_firstOpen X F bf) rfl rfl (fx_is F rfl) (Nat.le_of_ble_eq_true rfl) (Nat.le_of_ble_eq_true rfl) (Nat.le_refl _) (Nat.le_refl _) (Nat.le_of_ble_eq_true rfl) ?_
    refine e_aload_n aX8_value_22 rfl ?_
    refine e_getRF aX8_value_23 fX8_10 rfl (fx_is F rfl) (fx_r (b := 33) F rfl) ?_
    refine e_invvT aX8_value_26 kX8_181 (zX0_endOpen X F bf) rfl rfl (fx_is F rfl) (Nat.le_of_ble_eq_true rfl) (Nat.le_of_ble_eq_true rfl) (Nat.le_refl _) (Nat.le_refl _) (Nat.le_of_ble_eq_true rfl) ?_
    refine e_iload_n aX8_value_29 rfl ?_
    refine e_invvT aX8_value_30 kX8_194 (zX8_worthOver X F hb6 x) rfl rfl (fx_is F rfl) (Nat.le_of_ble_eq_true rfl) (Nat.le_of_ble_eq_true rfl) (Nat.le_refl _) (Nat.le_refl _) (Nat.le_of_ble_eq_true rfl) ?_
    refine e_lreturn aX8_value_33 rfl (Nat.le_refl _) (Nat.le_refl _) ?_
    rw [if_neg q5]
    exact ⟨rfl, rfl⟩
  · -- 5: not taken
    have q5 := Decidable.of_not_not (fun z => c5 (b2_0.mpr z))
    refine e_aload_n aX8_value_8 rfl ?_
    refine e_iconst (v := 0) aX8_value_9 (by decide) ?_
    refine e_invvT aX8_value_10 kX8_190 (zlfin X (k := 0) F (by decide)) rfl rfl (fx_is F rfl) (Nat.le_of_ble_eq_true rfl) (Nat.le_of_ble_eq_true rfl) (Nat.le_refl _) (Nat.le_refl _) (Nat.le_of_ble_eq_true rfl) ?_
    refine e_lreturn aX8_value_13 rfl (Nat.le_refl _) (Nat.le_refl _) ?_
    rw [if_pos q5]
    exact ⟨rfl, rfl⟩
theorem zX8_best (X : EX) {h : HP} (F : Fx h) {f : Nat} {o : Nat → Nat} (bf : BkF h f o) (x y : Int32) : Ct X mX8_best 2 0 0 [vR (some 32), vI x, vI y] h (if x < 0 ∨ 3 ≤ x then RF h 0 else if y < 0 ∨ 2 ≤ y then RF h 0 else (Rt (vI (nI (bsR h x y (fo o f + 1) (om f - 1) (fo o f) (wuR h (fo o f) x 12)))) h)) := by
  refine ct_of rfl (Nat.le_of_ble_eq_true rfl) ?_
  have hb6 := om_fo bf.2.1 bf.2.2.2
  have hom := om_pos bf.2.1
  refine e_iload_n aX8_best_0 rfl ?_
  refine e_iconst (v := 3) aX8_best_1 (by decide) ?_
  refine e_invsT aX8_best_2 kX8_58 (zX8_isOutside X _ _) rfl rfl (Nat.le_of_ble_eq_true rfl) (Nat.le_of_ble_eq_true rfl) (Nat.le_refl _) (Nat.le_refl _) (Nat.le_of_ble_eq_true rfl) ?_
  refine e_if_ne aX8_best_5 (fun c5 => ?_) (fun c5 => ?_)
  · -- 5: taken
    have q5 := Decidable.of_not_not (fun z => c5 (b2_0.mpr z))
    refine e_aload_n aX8_best_16 rfl ?_
    refine e_iconst (v := 0) aX8_best_17 (by decide) ?_
    refine e_invvT aX8_best_18 kX8_62 (zfin X (k := 0) F (by decide)) rfl rfl (fx_is F rfl) (Nat.le_of_ble_eq_true rfl) (Nat.le_of_ble_eq_true rfl) (Nat.le_refl _) (Nat.le_refl _) (Nat.le_of_ble_eq_true rfl) ?_
    refine e_ireturn aX8_best_21 rfl (Nat.le_refl _) (Nat.le_refl _) ?_
    rw [if_pos q5]
    exact ⟨rfl, rfl⟩
  · -- 5: not taken
    have q5 := b2_0.mp c5
    refine e_iload_n aX8_best_8 rfl ?_
    refine e_iconst (v := 2) aX8_best_9 (by decide) ?_
    refine e_invsT aX8_best_10 kX8_58 (zX8_isOutside X _ _) rfl rfl (Nat.le_of_ble_eq_true rfl) (Nat.le_of_ble_eq_true rfl) (Nat.le_refl _) (Nat.le_refl _) (Nat.le_of_ble_eq_true rfl) ?_
    refine e_if_eq aX8_best_13 (fun c13 => ?_) (fun c13 => ?_)
    · -- 13: taken
      have q13 := b2_0.mp c13
      rw [if_neg q5, if_neg q13]
      have loop : ∀ (m : Nat) (k cz : Nat) (vz : Int32), k + m = (fo o f + om f) → bsR h x y k m cz vz = (bsR h x y (fo o f + 1) (om f - 1) (fo o f) (wuR h (fo o f) x 12)) → Ev X mX8_best 2 0 0 (Rt (vI (nI (bsR h x y (fo o f + 1) (om f - 1) (fo o f) (wuR h (fo o f) x 12)))) h) 0 0 52 [(0, some (vR (some 32))), (1, some (vI x)), (2, some (vI y)), (3, some (vI (nI cz))), (4, some (vI vz)), (5, some (vI (nI (fo o f + om f)))), (6, some (vI (nI k)))] [] h := by
        intro m
        induction m with
        | zero =>
          intro k cz vz hk hR9
          obtain rfl : k = (fo o f + om f) := by omega
          refine e_iload aX8_best_52 rfl ?_
          refine e_iload aX8_best_54 rfl ?_
          refine e_icmp_ge aX8_best_56 (fun c56 => ?_) (fun c56 => ?_)
          · -- 56: taken
            refine e_iload_n aX8_best_102 rfl ?_
            refine e_ireturn aX8_best_103 rfl (Nat.le_refl _) (Nat.le_refl _) ?_
            rw [← hR9]
            exact ⟨rfl, rfl⟩
          · -- 56: not taken
            exact absurd (nI_le (by omega) (by omega)) c56
        | succ m ih =>
          intro k cz vz hk hR9
          refine e_iload aX8_best_52 rfl ?_
          refine e_iload aX8_best_54 rfl ?_
          refine e_icmp_ge aX8_best_56 (fun c56 => ?_) (fun c56 => ?_)
          · -- 56: taken
            exact absurd c56 (nI_ge (by omega) (by omega))
          · -- 56: not taken
            refine e_aload_n aX8_best_59 rfl ?_
            refine e_iload aX8_best_60 rfl ?_
            refine e_iload_n aX8_best_62 rfl ?_
            refine e_invvT aX8_best_63 kX8_187 (zX8_worthUnder X F (s := k) (by omega) x) rfl rfl (fx_is F rfl) (Nat.le_of_ble_eq_true rfl) (Nat.le_of_ble_eq_true rfl) (Nat.le_refl _) (Nat.le_refl _) (Nat.le_of_ble_eq_true rfl) ?_
            refine e_istore aX8_best_66 (Nat.le_of_ble_eq_true rfl) ?_
            refine e_iload_n aX8_best_68 rfl ?_
            refine e_if_ne aX8_best_69 (fun c69 => ?_) (fun c69 => ?_)
            · -- 69: taken
              have q69 : ¬ y = 0 := c69
              refine e_iload aX8_best_82 rfl ?_
              refine e_iload aX8_best_84 rfl ?_
              refine e_icmp_ge aX8_best_86 (fun c86 => ?_) (fun c86 => ?_)
              · -- 86: taken
                have q86 : ¬ wuR h k x 12 < vz := Int32.not_lt.mpr c86
                refine e_iinc aX8_best_96 rfl rfl (Nat.le_of_ble_eq_true rfl) ?_
                refine e_goto aX8_best_99 ?_
                refine e_ls (ls' := [(0, some (vR (some 32))), (1, some (vI x)), (2, some (vI y)), (3, some (vI (nI cz))), (4, some (vI vz)), (5, some (vI (nI (fo o f + om f)))), (6, some (vI (nI (k + 1))))]) ⟨rfl, rfl, rfl, rfl, rfl, rfl, congrArg (fun x => some (vI x)) (nI_1 k), trivial⟩ ?_
                exact ih (k + 1) cz vz (by omega) (by rw [← hR9, bsR_s, if_neg (show ¬ (if y = 0 then vz < wuR h k x 12 else wuR h k x 12 < vz) by rw [if_neg q69]; exact q86)])
              · -- 86: not taken
                have q86 : wuR h k x 12 < vz := Int32.not_le.mp c86
                refine e_iload aX8_best_89 rfl ?_
                refine e_istore_n aX8_best_91 (Nat.le_of_ble_eq_true rfl) ?_
                refine e_iload aX8_best_92 rfl ?_
                refine e_istore aX8_best_94 (Nat.le_of_ble_eq_true rfl) ?_
                refine e_iinc aX8_best_96 rfl rfl (Nat.le_of_ble_eq_true rfl) ?_
                refine e_goto aX8_best_99 ?_
                refine e_ls (ls' := [(0, some (vR (some 32))), (1, some (vI x)), (2, some (vI y)), (3, some (vI (nI k))), (4, some (vI (wuR h k x 12))), (5, some (vI (nI (fo o f + om f)))), (6, some (vI (nI (k + 1))))]) ⟨rfl, rfl, rfl, rfl, rfl, rfl, congrArg (fun x => some (vI x)) (nI_1 k), trivial⟩ ?_
                exact ih (k + 1) k (wuR h k x 12) (by omega) (by rw [← hR9, bsR_s, if_pos (show (if y = 0 then vz < wuR h k x 12 else wuR h k x 12 < vz) by rw [if_neg q69]; exact q86)])
            · -- 69: not taken
              have q69 : y = 0 := c69
              refine e_iload aX8_best_72 rfl ?_
              refine e_iload aX8_best_74 rfl ?_
              refine e_icmp_le aX8_best_76 (fun c76 => ?_) (fun c76 => ?_)
              · -- 76: taken
                have q76 : ¬ vz < wuR h k x 12 := Int32.not_lt.mpr c76
                refine e_iinc aX8_best_96 rfl rfl (Nat.le_of_ble_eq_true rfl) ?_
                refine e_goto aX8_best_99 ?_
                refine e_ls (ls' := [(0, some (vR (some 32))), (1, some (vI x)), (2, some (vI y)), (3, some (vI (nI cz))), (4, some (vI vz)), (5, some (vI (nI (fo o f + om f)))), (6, some (vI (nI (k + 1))))]) ⟨rfl, rfl, rfl, rfl, rfl, rfl, congrArg (fun x => some (vI x)) (nI_1 k), trivial⟩ ?_
                exact ih (k + 1) cz vz (by omega) (by rw [← hR9, bsR_s, if_neg (show ¬ (if y = 0 then vz < wuR h k x 12 else wuR h k x 12 < vz) by rw [if_pos q69]; exact q76)])
              · -- 76: not taken
                have q76 : vz < wuR h k x 12 := Int32.not_le.mp c76
                refine e_goto aX8_best_79 ?_
                refine e_iload aX8_best_89 rfl ?_
                refine e_istore_n aX8_best_91 (Nat.le_of_ble_eq_true rfl) ?_
                refine e_iload aX8_best_92 rfl ?_
                refine e_istore aX8_best_94 (Nat.le_of_ble_eq_true rfl) ?_
                refine e_iinc aX8_best_96 rfl rfl (Nat.le_of_ble_eq_true rfl) ?_
                refine e_goto aX8_best_99 ?_
                refine e_ls (ls' := [(0, some (vR (some 32))), (1, some (vI x)), (2, some (vI y)), (3, some (vI (nI k))), (4, some (vI (wuR h k x 12))), (5, some (vI (nI (fo o f + om f)))), (6, some (vI (nI (k + 1))))]) ⟨rfl, rfl, rfl, rfl, rfl, rfl, congrArg (fun x => some (vI x)) (nI_1 k), trivial⟩ ?_
                exact ih (k + 1) k (wuR h k x 12) (by omega) (by rw [← hR9, bsR_s, if_pos (show (if y = 0 then vz < wuR h k x 12 else wuR h k x 12 < vz) by rw [if_pos q69]; exact q76)])
      refine e_aload_n aX8_best_22 rfl ?_
      refine e_getRF aX8_best_23 fX8_10 rfl (fx_is F rfl) (fx_r (b := 33) F rfl) ?_
      refine e_invvT aX8_best_26 kX8_84 (zX0_firstOpen X F bf) rfl rfl (fx_is F rfl) (Nat.le_of_ble_eq_true rfl) (Nat.le_of_ble_eq_true rfl) (Nat.le_refl _) (Nat.le_refl _) (Nat.le_of_ble_eq_true rfl) ?_
      refine e_istore_n aX8_best_29 (Nat.le_of_ble_eq_true rfl) ?_
      refine e_aload_n aX8_best_30 rfl ?_
      refine e_iload_n aX8_best_31 rfl ?_
      refine e_iload_n aX8_best_32 rfl ?_
      refine e_invvT aX8_best_33 kX8_187 (zX8_worthUnder X F (s := fo o f) (by omega) x) rfl rfl (fx_is F rfl) (Nat.le_of_ble_eq_true rfl) (Nat.le_of_ble_eq_true rfl) (Nat.le_refl _) (Nat.le_refl _) (Nat.le_of_ble_eq_true rfl) ?_
      refine e_istore aX8_best_36 (Nat.le_of_ble_eq_true rfl) ?_
      refine e_aload_n aX8_best_38 rfl ?_
      refine e_getRF aX8_best_39 fX8_10 rfl (fx_is F rfl) (fx_r (b := 33) F rfl) ?_
      refine e_invvT aX8_best_42 kX8_181 (zX0_endOpen X F bf) rfl rfl (fx_is F rfl) (Nat.le_of_ble_eq_true rfl) (Nat.le_of_ble_eq_true rfl) (Nat.le_refl _) (Nat.le_refl _) (Nat.le_of_ble_eq_true rfl) ?_
      refine e_istore aX8_best_45 (Nat.le_of_ble_eq_true rfl) ?_
      refine e_iload_n aX8_best_47 rfl ?_
      refine e_iconst (v := 1) aX8_best_48 (by decide) ?_
      refine e_iadd aX8_best_49 ?_
      refine e_top (nI_1 _) ?_
      refine e_istore aX8_best_50 (Nat.le_of_ble_eq_true rfl) ?_
      refine e_ls (ls' := [(0, some (vR (some 32))), (1, some (vI x)), (2, some (vI y)), (3, some (vI (nI (fo o f)))), (4, some (vI (wuR h (fo o f) x 12))), (5, some (vI (nI (fo o f + om f)))), (6, some (vI (nI (fo o f + 1))))]) ⟨rfl, rfl, rfl, rfl, rfl, rfl, rfl, trivial⟩ ?_
      exact loop (om f - 1) (fo o f + 1) (fo o f) (wuR h (fo o f) x 12) (by omega) rfl
    · -- 13: not taken
      have q13 := Decidable.of_not_not (fun z => c13 (b2_0.mpr z))
      refine e_aload_n aX8_best_16 rfl ?_
      refine e_iconst (v := 0) aX8_best_17 (by decide) ?_
      refine e_invvT aX8_best_18 kX8_62 (zfin X (k := 0) F (by decide)) rfl rfl (fx_is F rfl) (Nat.le_of_ble_eq_true rfl) (Nat.le_of_ble_eq_true rfl) (Nat.le_refl _) (Nat.le_refl _) (Nat.le_of_ble_eq_true rfl) ?_
      refine e_ireturn aX8_best_21 rfl (Nat.le_refl _) (Nat.le_refl _) ?_
      rw [if_neg q5, if_pos q13]
      exact ⟨rfl, rfl⟩
theorem zX8_hope (X : EX) {h : HP} (F : Fx h) {f : Nat} {o : Nat → Nat} (bf : BkF h f o) (x : Int32) : Ct X mX8_hope 3 0 0 [vR (some 32), vI x] h (if x < 0 ∨ 3 ≤ x then RF h 0 else if 4 ≤ f then RF h 3 else (Rt (vI (nI (hpR h x (fo o f) (stp f) 0 6 0 (-1)))) h)) := by
  refine ct_of rfl (Nat.le_of_ble_eq_true rfl) ?_
  have hb6 := om_fo bf.2.1 bf.2.2.2
  have hf4 := bf.2.1
  refine e_iload_n aX8_hope_0 rfl ?_
  refine e_iconst (v := 3) aX8_hope_1 (by decide) ?_
  refine e_invsT aX8_hope_2 kX8_58 (zX8_isOutside X _ _) rfl rfl (Nat.le_of_ble_eq_true rfl) (Nat.le_of_ble_eq_true rfl) (Nat.le_refl _) (Nat.le_refl _) (Nat.le_of_ble_eq_true rfl) ?_
  refine e_if_eq aX8_hope_5 (fun c5 => ?_) (fun c5 => ?_)
  · -- 5: taken
    have q5 := b2_0.mp c5
    refine e_aload_n aX8_hope_14 rfl ?_
    refine e_getRF aX8_hope_15 fX8_10 rfl (fx_is F rfl) (fx_r (b := 33) F rfl) ?_
    refine e_getIF aX8_hope_18 fX8_73 rfl (fx_is F rfl) bf.1 ?_
    refine e_iconst (v := 4) aX8_hope_21 (by decide) ?_
    refine e_icmp_lt aX8_hope_22 (fun c22 => ?_) (fun c22 => ?_)
    · -- 22: taken
      have q22 : ¬ 4 ≤ f := Nat.not_le.mpr ((nI_ltI (a := f) (b := 4) (by omega) (by decide)).mp c22)
      rw [if_neg q5, if_neg q22]
      have hst := stp_om (f := f) (by omega)
      have loop : ∀ (m : Nat) (k cz : Nat) (vz : Int64), k + m = 6 → hpR h x (fo o f) (stp f) k m cz vz = (hpR h x (fo o f) (stp f) 0 6 0 (-1)) → Ev X mX8_hope 3 0 0 (Rt (vI (nI (hpR h x (fo o f) (stp f) 0 6 0 (-1)))) h) 0 0 53 [(0, some (vR (some 32))), (1, some (vI x)), (2, some (vI (nI (stp f)))), (3, some (vI (nI cz))), (4, some (vL vz)), (6, some (vI (nI k)))] [] h := by
        intro m
        induction m with
        | zero =>
          intro k cz vz hk hR9
          obtain rfl : k = 6 := by omega
          refine e_iload aX8_hope_53 rfl ?_
          refine e_bipush (v := 6) aX8_hope_55 (by decide) ?_
          refine e_icmp_ge aX8_hope_57 (fun c57 => ?_) (fun c57 => ?_)
          · -- 57: taken
            refine e_iload_n aX8_hope_108 rfl ?_
            refine e_ireturn aX8_hope_109 rfl (Nat.le_refl _) (Nat.le_refl _) ?_
            rw [← hR9]
            exact ⟨rfl, rfl⟩
          · -- 57: not taken
            exact absurd (nI_le (a := 6) (b := 6) (by decide) (by decide)) c57
        | succ m ih =>
          intro k cz vz hk hR9
          have hmul : k * stp f + stp f ≤ 6 * stp f := by
            have h1 := Nat.mul_le_mul_right (stp f) (show k + 1 ≤ 6 by omega)
            rw [Nat.add_mul, Nat.one_mul] at h1
            exact h1
          refine e_iload aX8_hope_53 rfl ?_
          refine e_bipush (v := 6) aX8_hope_55 (by decide) ?_
          refine e_icmp_ge aX8_hope_57 (fun c57 => ?_) (fun c57 => ?_)
          · -- 57: taken
            exact absurd c57 (nI_ge (a := k) (b := 6) (by omega) (by decide))
          · -- 57: not taken
            refine e_aload_n aX8_hope_60 rfl ?_
            refine e_getRF aX8_hope_61 fX8_10 rfl (fx_is F rfl) (fx_r (b := 33) F rfl) ?_
            refine e_invvT aX8_hope_64 kX8_84 (zX0_firstOpen X F bf) rfl rfl (fx_is F rfl) (Nat.le_of_ble_eq_true rfl) (Nat.le_of_ble_eq_true rfl) (Nat.le_refl _) (Nat.le_refl _) (Nat.le_of_ble_eq_true rfl) ?_
            refine e_iload aX8_hope_67 rfl ?_
            refine e_iload_n aX8_hope_69 rfl ?_
            refine e_imul aX8_hope_70 ?_
            refine e_top (nI_mul _ _) ?_
            refine e_iadd aX8_hope_71 ?_
            refine e_top (nI_add _ _) ?_
            refine e_istore aX8_hope_72 (Nat.le_of_ble_eq_true rfl) ?_
            refine e_aload_n aX8_hope_74 rfl ?_
            refine e_iload aX8_hope_75 rfl ?_
            refine e_iload aX8_hope_77 rfl ?_
            refine e_iload_n aX8_hope_79 rfl ?_
            refine e_iadd aX8_hope_80 ?_
            refine e_top (nI_add _ _) ?_
            refine e_iload_n aX8_hope_81 rfl ?_
            refine e_invvT aX8_hope_82 kX8_194 (zX8_worthOver X F (a := fo o f + k * stp f) (q := stp f) (by omega) x) rfl rfl (fx_is F rfl) (Nat.le_of_ble_eq_true rfl) (Nat.le_of_ble_eq_true rfl) (Nat.le_refl _) (Nat.le_refl _) (Nat.le_of_ble_eq_true rfl) ?_
            refine e_lstore aX8_hope_85 (Nat.le_of_ble_eq_true rfl) ?_
            refine e_lload aX8_hope_87 rfl ?_
            refine e_lload aX8_hope_89 rfl ?_
            refine e_lcmp aX8_hope_91 ?_
            refine e_if_le aX8_hope_92 (fun c92 => ?_) (fun c92 => ?_)
            · -- 92: taken
              refine e_iinc aX8_hope_102 rfl rfl (Nat.le_of_ble_eq_true rfl) ?_
              refine e_goto aX8_hope_105 ?_
              refine e_ls (ls' := [(0, some (vR (some 32))), (1, some (vI x)), (2, some (vI (nI (stp f)))), (3, some (vI (nI cz))), (4, some (vL vz)), (6, some (vI (nI (k + 1))))]) ⟨rfl, rfl, rfl, rfl, rfl, congrArg (fun x => some (vI x)) (nI_1 k), trivial⟩ ?_
              exact ih (k + 1) cz vz (by omega) (by rw [← hR9, hpR_s, if_pos c92])
            · -- 92: not taken
              refine e_iload aX8_hope_95 rfl ?_
              refine e_istore_n aX8_hope_97 (Nat.le_of_ble_eq_true rfl) ?_
              refine e_lload aX8_hope_98 rfl ?_
              refine e_lstore aX8_hope_100 (Nat.le_of_ble_eq_true rfl) ?_
              refine e_iinc aX8_hope_102 rfl rfl (Nat.le_of_ble_eq_true rfl) ?_
              refine e_goto aX8_hope_105 ?_
              refine e_ls (ls' := [(0, some (vR (some 32))), (1, some (vI x)), (2, some (vI (nI (stp f)))), (3, some (vI (nI k))), (4, some (vL (woR h x (fo o f + k * stp f) (stp f)))), (6, some (vI (nI (k + 1))))]) ⟨rfl, rfl, rfl, rfl, rfl, congrArg (fun x => some (vI x)) (nI_1 k), trivial⟩ ?_
              exact ih (k + 1) k (woR h x (fo o f + k * stp f) (stp f)) (by omega) (by rw [← hR9, hpR_s, if_neg c92])
      refine e_gets (i := 4) aX8_hope_31 rfl gX8_198 ?_
      refine e_aload_n aX8_hope_34 rfl ?_
      refine e_getRF aX8_hope_35 fX8_10 rfl (fx_is F rfl) (fx_r (b := 33) F rfl) ?_
      refine e_getIF aX8_hope_38 fX8_73 rfl (fx_is F rfl) bf.1 ?_
      refine e_ialoadS aX8_hope_41 rfl (vin (N := 4) (by omega)) ?_
      refine e_top (st_step (by omega)) ?_
      refine e_istore_n aX8_hope_42 (Nat.le_of_ble_eq_true rfl) ?_
      refine e_iconst (v := 0) aX8_hope_43 (by decide) ?_
      refine e_istore_n aX8_hope_44 (Nat.le_of_ble_eq_true rfl) ?_
      refine e_ldc2 aX8_hope_45 lX8_201 ?_
      refine e_lstore aX8_hope_48 (Nat.le_of_ble_eq_true rfl) ?_
      refine e_iconst (v := 0) aX8_hope_50 (by decide) ?_
      refine e_istore aX8_hope_51 (Nat.le_of_ble_eq_true rfl) ?_
      refine e_ls (ls' := [(0, some (vR (some 32))), (1, some (vI x)), (2, some (vI (nI (stp f)))), (3, some (vI (nI 0))), (4, some (vL (-1))), (6, some (vI (nI 0)))]) ⟨rfl, rfl, rfl, rfl, rfl, rfl, trivial⟩ ?_
      exact loop 6 0 0 (-1) rfl rfl
    · -- 22: not taken
      have q22 : 4 ≤ f := Nat.not_lt.mp ((not_congr (nI_ltI (a := f) (b := 4) (by omega) (by decide))).mp c22)
      refine e_aload_n aX8_hope_25 rfl ?_
      refine e_iconst (v := 3) aX8_hope_26 (by decide) ?_
      refine e_invvT aX8_hope_27 kX8_62 (zfin X (k := 3) F (by decide)) rfl rfl (fx_is F rfl) (Nat.le_of_ble_eq_true rfl) (Nat.le_of_ble_eq_true rfl) (Nat.le_refl _) (Nat.le_refl _) (Nat.le_of_ble_eq_true rfl) ?_
      refine e_ireturn aX8_hope_30 rfl (Nat.le_refl _) (Nat.le_refl _) ?_
      rw [if_neg q5, if_pos q22]
      exact ⟨rfl, rfl⟩
  · -- 5: not taken
    have q5 := Decidable.of_not_not (fun z => c5 (b2_0.mpr z))
    refine e_aload_n aX8_hope_8 rfl ?_
    refine e_iconst (v := 0) aX8_hope_9 (by decide) ?_
    refine e_invvT aX8_hope_10 kX8_62 (zfin X (k := 0) F (by decide)) rfl rfl (fx_is F rfl) (Nat.le_of_ble_eq_true rfl) (Nat.le_of_ble_eq_true rfl) (Nat.le_refl _) (Nat.le_refl _) (Nat.le_of_ble_eq_true rfl) ?_
    refine e_ireturn aX8_hope_13 rfl (Nat.le_refl _) (Nat.le_refl _) ?_
    rw [if_pos q5]
    exact ⟨rfl, rfl⟩
end
section
/-! contracts: Sheet, sheet, write, item, copy (written by wip/whole/g28.py) -/
theorem sh1 : ∀ s, s < 4 → (Nat.ble 32 (101 + 2 * s) && Nat.blt (101 + 2 * s) NF && Nat.beq (T0 (101 + 2 * s)) 6) = true := by decide
theorem sh2 : ∀ s, s < 4 → (Nat.ble 32 (102 + 2 * s) && Nat.blt (102 + 2 * s) NF && Nat.beq (T0 (102 + 2 * s)) 14) = true := by decide
theorem sh3 : ∀ s, s < 4 → (Nat.ble 32 (102 + 2 * s) && Nat.blt (102 + 2 * s) NF && Nat.beq (N0 (102 + 2 * s)) 40) = true := by decide
theorem sh4 : ∀ s, s < 4 → (!Nat.beq (102 + 2 * s) 0 && Nat.beq (R0 (101 + 2 * s) 0) (102 + 2 * s)) = true := by decide
theorem sh5 : ∀ s, s < 4 → (!Nat.beq (101 + 2 * s) 0 && Nat.beq (R0 73 s) (101 + 2 * s)) = true := by decide
theorem sh_is {h : HP} (F : Fx h) {s : Nat} (hs : s < 4) : Is h (101 + 2 * s) 6 := fx_is F (sh1 s hs)
theorem sn_is {h : HP} (F : Fx h) {s : Nat} (hs : s < 4) : Is h (102 + 2 * s) 14 := fx_is F (sh2 s hs)
theorem sn_n {h : HP} (F : Fx h) {s : Nat} (hs : s < 4) : hN h (102 + 2 * s) = 40 := fx_n F (sh3 s hs)
theorem sh_r {h : HP} (F : Fx h) {s : Nat} (hs : s < 4) : hR h (101 + 2 * s) 0 = some (102 + 2 * s) := fx_r F (sh4 s hs)
theorem sh_a {h : HP} (F : Fx h) {s : Nat} (hs : s < 4) : hR h 73 (nI s).toNatClampNeg = some (101 + 2 * s) := by
  rw [cl (by omega)]
  exact fx_r F (sh5 s hs)
/-- a sheet: its sort and how many numbers -/
def ShC (h : HP) (s : Nat) (t : Int32) (q : Nat) : Prop := hI h (101 + 2 * s) 1 = t ∧ (t = -1 ∨ t = 0 ∨ t = 1 ∨ t = 2) ∧ hI h (101 + 2 * s) 2 = nI q ∧ q ≤ 40
def zrL (h : HP) (a : Nat) : Nat → HP
  | 0 => h
  | k + 1 => wL (zrL h a k) a k 0
theorem zrL_F {h : HP} (F : Fx h) {a : Nat} : ∀ k, Fx (zrL h a k) := by
  intro k
  induction k with
  | zero => exact F
  | succ k ih => exact ih
def shB (h : HP) (s : Nat) (t : Int32) (q : Nat) : HP := zrL (wI (wI h (101 + 2 * s) 1 t) (101 + 2 * s) 2 (nI q)) (102 + 2 * s) q
/-- what a number becomes on a sheet of a sort -/
def pvR (t : Int32) (v : Int64) : Int64 := if t = 0 then v.toInt32.toInt16.toInt32.toInt64 else if t = 1 then v.toInt32.toInt64 else v
theorem zX5_isMissing (X : EX) {h : HP} (F : Fx h) {s : Nat} (hs : s < 4) : Ct X mX5_isMissing 0 0 0 [vR (some (101 + 2 * s))] h (Rt (vI (b2 (hI h (101 + 2 * s) 1 = -1))) h) := by
  refine ct_of rfl (Nat.le_of_ble_eq_true rfl) ?_
  refine e_aload_n aX5_isMissing_0 rfl ?_
  refine e_getI aX5_isMissing_1 fX5_15 rfl (sh_is F hs) ?_
  refine e_iconst (v := -1) aX5_isMissing_4 (by decide) ?_
  refine e_icmp_ne aX5_isMissing_5 (fun c5 => ?_) (fun c5 => ?_)
  · -- 5: taken
    have q5 : ¬ hI h (101 + 2 * s) 1 = -1 := c5
    refine e_iconst (v := 0) aX5_isMissing_12 (by decide) ?_
    refine e_zreturn aX5_isMissing_13 rfl (by decide) (Nat.le_refl _) (Nat.le_refl _) ?_
    exact ⟨by rw [b2_f q5] <;> rfl, rfl⟩
  · -- 5: not taken
    have q5 : hI h (101 + 2 * s) 1 = -1 := c5
    refine e_iconst (v := 1) aX5_isMissing_8 (by decide) ?_
    refine e_goto aX5_isMissing_9 ?_
    refine e_zreturn aX5_isMissing_13 rfl (by decide) (Nat.le_refl _) (Nat.le_refl _) ?_
    exact ⟨by rw [b2_t q5] <;> rfl, rfl⟩
theorem zX5_become (X : EX) {h : HP} (F : Fx h) {s : Nat} (hs : s < 4) (t : Int32) {q : Nat} (hq : q ≤ 40) : Ct X mX5_become 0 0 0 [vR (some (101 + 2 * s)), vI t, vI (nI q)] h (Rv (shB h s t q)) := by
  refine ct_of rfl (Nat.le_of_ble_eq_true rfl) ?_
  have loop : ∀ (m : Nat) (k : Nat), k + m = q → Ev X mX5_become 0 0 0 (Rv (shB h s t q)) 0 0 12 [(0, some (vR (some (101 + 2 * s)))), (2, some (vI (nI q))), (3, some (vI (nI k)))] [] (zrL (wI (wI h (101 + 2 * s) 1 t) (101 + 2 * s) 2 (nI q)) (102 + 2 * s) k) := by
    intro m
    induction m with
    | zero =>
      intro k hk
      obtain rfl : k = q := by omega
      refine e_iload_n aX5_become_12 rfl ?_
      refine e_iload_n aX5_become_13 rfl ?_
      refine e_icmp_ge aX5_become_14 (fun c14 => ?_) (fun c14 => ?_)
      · -- 14: taken
        refine e_return aX5_become_30 rfl (Nat.le_refl _) (Nat.le_refl _) ?_
        exact ⟨rfl, rfl⟩
      · -- 14: not taken
        exact absurd (nI_le (by omega) (by omega)) c14
    | succ m ih =>
      intro k hk
      have FZ : Fx (zrL (wI (wI h (101 + 2 * s) 1 t) (101 + 2 * s) 2 (nI q)) (102 + 2 * s) k) := zrL_F (h := wI (wI h (101 + 2 * s) 1 t) (101 + 2 * s) 2 (nI q)) F k
      refine e_iload_n aX5_become_12 rfl ?_
      refine e_iload_n aX5_become_13 rfl ?_
      refine e_icmp_ge aX5_become_14 (fun c14 => ?_) (fun c14 => ?_)
      · -- 14: taken
        exact absurd c14 (nI_ge (by omega) (by omega))
      · -- 14: not taken
        refine e_aload_n aX5_become_17 rfl ?_
        refine e_getRF aX5_become_18 fX5_9 rfl (sh_is FZ hs) (sh_r FZ hs) ?_
        refine e_iload_n aX5_become_21 rfl ?_
        refine e_lconst (v := 0) aX5_become_22 rfl ?_
        refine e_lastoreF aX5_become_23 (sn_is FZ hs) (sn_n FZ hs) (vin (N := 40) (by omega)) ?_
        rw [cl (by omega)]
        refine e_iinc aX5_become_24 rfl rfl (Nat.le_of_ble_eq_true rfl) ?_
        refine e_goto aX5_become_27 ?_
        refine e_ls (ls' := [(0, some (vR (some (101 + 2 * s)))), (2, some (vI (nI q))), (3, some (vI (nI (k + 1))))]) ⟨rfl, rfl, congrArg (fun x => some (vI x)) (nI_1 k), trivial⟩ ?_
        exact ih (k + 1) (by omega)
  refine e_aload_n aX5_become_0 rfl ?_
  refine e_iload_n aX5_become_1 rfl ?_
  refine e_putI aX5_become_2 fX5_15 rfl (sh_is F hs) (Or.inl rfl) ?_
  refine e_aload_n aX5_become_5 rfl ?_
  refine e_iload_n aX5_become_6 rfl ?_
  refine e_putI aX5_become_7 fX5_19 rfl (sh_is F hs) (Or.inl rfl) ?_
  refine e_iconst (v := 0) aX5_become_10 (by decide) ?_
  refine e_istore_n aX5_become_11 (Nat.le_of_ble_eq_true rfl) ?_
  refine e_ls (ls' := [(0, some (vR (some (101 + 2 * s)))), (2, some (vI (nI q))), (3, some (vI (nI 0)))]) ⟨rfl, rfl, rfl, trivial⟩ ?_
  exact loop q 0 (by omega)
theorem zX5_put (X : EX) {h : HP} (F : Fx h) {s : Nat} (hs : s < 4) {t : Int32} {q j : Nat} (hsh : ShC h s t q) (ht : t = 0 ∨ t = 1 ∨ t = 2) (hj : j < q) (v : Int64) : Ct X mX5_put 0 0 0 [vR (some (101 + 2 * s)), vI (nI j), vL v] h (Rv (wL h (102 + 2 * s) j (pvR t v))) := by
  refine ct_of rfl (Nat.le_of_ble_eq_true rfl) ?_
  have hq40 := hsh.2.2.2
  refine e_aload_n aX5_put_0 rfl ?_
  refine e_getI aX5_put_1 fX5_15 rfl (sh_is F hs) ?_
  rw [hsh.1]
  rcases ht with rfl | rfl | rfl
  · -- switch
    refine e_lookup (off := 28) (tgt := 32) aX5_put_4 (by decide) (by decide) (by decide) ?_
    refine e_aload_n aX5_put_32 rfl ?_
    refine e_getRF aX5_put_33 fX5_9 rfl (sh_is F hs) (sh_r F hs) ?_
    refine e_iload_n aX5_put_36 rfl ?_
    refine e_lload_n aX5_put_37 rfl ?_
    refine e_l2i aX5_put_38 ?_
    refine e_i2s aX5_put_39 ?_
    refine e_i2l aX5_put_40 ?_
    refine e_lastoreF aX5_put_41 (sn_is F hs) (sn_n F hs) (vin (N := 40) (by omega)) ?_
    rw [cl (by omega)]
    refine e_goto aX5_put_42 ?_
    refine e_return aX5_put_64 rfl (Nat.le_refl _) (Nat.le_refl _) ?_
    exact ⟨rfl, rfl⟩
  · -- switch
    refine e_lookup (off := 41) (tgt := 45) aX5_put_4 (by decide) (by decide) (by decide) ?_
    refine e_aload_n aX5_put_45 rfl ?_
    refine e_getRF aX5_put_46 fX5_9 rfl (sh_is F hs) (sh_r F hs) ?_
    refine e_iload_n aX5_put_49 rfl ?_
    refine e_lload_n aX5_put_50 rfl ?_
    refine e_l2i aX5_put_51 ?_
    refine e_i2l aX5_put_52 ?_
    refine e_lastoreF aX5_put_53 (sn_is F hs) (sn_n F hs) (vin (N := 40) (by omega)) ?_
    rw [cl (by omega)]
    refine e_goto aX5_put_54 ?_
    refine e_return aX5_put_64 rfl (Nat.le_refl _) (Nat.le_refl _) ?_
    exact ⟨rfl, rfl⟩
  · -- switch
    refine e_lookup (off := 53) (tgt := 57) aX5_put_4 (by decide) (by decide) (by decide) ?_
    refine e_aload_n aX5_put_57 rfl ?_
    refine e_getRF aX5_put_58 fX5_9 rfl (sh_is F hs) (sh_r F hs) ?_
    refine e_iload_n aX5_put_61 rfl ?_
    refine e_lload_n aX5_put_62 rfl ?_
    refine e_lastoreF aX5_put_63 (sn_is F hs) (sn_n F hs) (vin (N := 40) (by omega)) ?_
    rw [cl (by omega)]
    refine e_return aX5_put_64 rfl (Nat.le_refl _) (Nat.le_refl _) ?_
    exact ⟨rfl, rfl⟩
theorem zX5_hasRun (X : EX) {h : HP} (F : Fx h) {s : Nat} (hs : s < 4) {t : Int32} {q : Nat} (hsh : ShC h s t q) (x y : Int32) : Ct X mX5_hasRun 0 0 0 [vR (some (101 + 2 * s)), vI x, vI y] h (Rt (vI (b2 (¬ x < 0 ∧ ¬ y < 0 ∧ x ≤ nI q ∧ y ≤ nI q - x))) h) := by
  refine ct_of rfl (Nat.le_of_ble_eq_true rfl) ?_
  refine e_iload_n aX5_hasRun_0 rfl ?_
  refine e_if_lt aX5_hasRun_1 (fun c1 => ?_) (fun c1 => ?_)
  · -- 1: taken
    have q1 := c1
    refine e_iconst (v := 0) aX5_hasRun_30 (by decide) ?_
    refine e_zreturn aX5_hasRun_31 rfl (by decide) (Nat.le_refl _) (Nat.le_refl _) ?_
    exact ⟨by rw [b2_f (by first | grind | (simp only [b2_0] at *; grind))], rfl⟩
  · -- 1: not taken
    have q1 := c1
    refine e_iload_n aX5_hasRun_4 rfl ?_
    refine e_if_lt aX5_hasRun_5 (fun c5 => ?_) (fun c5 => ?_)
    · -- 5: taken
      refine e_iconst (v := 0) aX5_hasRun_30 (by decide) ?_
      refine e_zreturn aX5_hasRun_31 rfl (by decide) (Nat.le_refl _) (Nat.le_refl _) ?_
      exact ⟨by rw [b2_f (by first | grind | (simp only [b2_0] at *; grind))], rfl⟩
    · -- 5: not taken
      refine e_iload_n aX5_hasRun_8 rfl ?_
      refine e_aload_n aX5_hasRun_9 rfl ?_
      refine e_getIF aX5_hasRun_10 fX5_19 rfl (sh_is F hs) hsh.2.2.1 ?_
      refine e_icmp_gt aX5_hasRun_13 (fun c13 => ?_) (fun c13 => ?_)
      · -- 13: taken
        refine e_iconst (v := 0) aX5_hasRun_30 (by decide) ?_
        refine e_zreturn aX5_hasRun_31 rfl (by decide) (Nat.le_refl _) (Nat.le_refl _) ?_
        exact ⟨by rw [b2_f (by first | grind | (simp only [b2_0] at *; grind))], rfl⟩
      · -- 13: not taken
        refine e_iload_n aX5_hasRun_16 rfl ?_
        refine e_aload_n aX5_hasRun_17 rfl ?_
        refine e_getIF aX5_hasRun_18 fX5_19 rfl (sh_is F hs) hsh.2.2.1 ?_
        refine e_iload_n aX5_hasRun_21 rfl ?_
        refine e_isub aX5_hasRun_22 ?_
        refine e_icmp_gt aX5_hasRun_23 (fun c23 => ?_) (fun c23 => ?_)
        · -- 23: taken
          refine e_iconst (v := 0) aX5_hasRun_30 (by decide) ?_
          refine e_zreturn aX5_hasRun_31 rfl (by decide) (Nat.le_refl _) (Nat.le_refl _) ?_
          exact ⟨by rw [b2_f (by first | grind | (simp only [b2_0] at *; grind))], rfl⟩
        · -- 23: not taken
          refine e_iconst (v := 1) aX5_hasRun_26 (by decide) ?_
          refine e_goto aX5_hasRun_27 ?_
          refine e_zreturn aX5_hasRun_31 rfl (by decide) (Nat.le_refl _) (Nat.le_refl _) ?_
          exact ⟨by rw [b2_t (by first | grind | (simp only [b2_0] at *; grind))], rfl⟩
end
